/-! what the calls refuse, and answer -/
noncomputable def kt (c : Prop) (a b : Nat) : Nat := @ite Nat c (Classical.propDecidable _) a b
theorem kt_t {c : Prop} {a b : Nat} (h : c) : kt c a b = a := by unfold kt; rw [if_pos h]
theorem kt_f {c : Prop} {a b : Nat} (h : ¬ c) : kt c a b = b := by unfold kt; rw [if_neg h]
def numP (v : Int32) (n : Nat) : Prop := v = nI (cN v) ∧ cN v < n
theorem numP.ex {v : Int32} {n : Nat} (h : numP v n) : ∃ j, j < n ∧ v = nI j := ⟨cN v, h.2, h.1⟩
theorem num_of {j n : Nat} (h : j < n) (hn : n < 2 ^ 31) : numP (nI j) n := by
  unfold numP
  rw [cN_nI (by omega)]
  exact ⟨rfl, h⟩
theorem num_in {v : Int32} {n : Nat} (hn : n < 2 ^ 31) : inP v (nI 0) (nI n - nI 1) ↔ numP v n := by
  constructor
  · intro ⟨h1, h2⟩
    rw [nI_0] at h1
    obtain ⟨j, hj, rfl⟩ := nI_of h1
    refine num_of ?_ hn
    by_cases hz : n = 0
    · subst hz
      have hh : nI j > nI 0 - nI 1 := by
        rw [gt_iff_lt, Int32.lt_iff_toInt_lt, nI_toInt hj]
        have : (nI 0 - nI 1).toInt = -1 := by decide +kernel
        rw [this]
        omega
      exact absurd hh h2
    · rw [x_sub (by omega)] at h2
      have := mt (nI_ltI (a := n - 1) (b := j) (by omega) hj).mpr h2
      omega
  · intro ⟨h1, h2⟩
    have hj : cN v < 2 ^ 31 := by omega
    rw [h1]
    refine ⟨?_, ?_⟩
    · rw [nI_0]
      exact nI_pos hj
    · rw [x_sub (by omega)]
      intro z
      have := (nI_ltI (by omega) hj).mp z
      omega
theorem num_lt {v : Int32} {n : Nat} (hn : n < 2 ^ 31) : (¬ v < 0 ∧ ¬ v ≥ nI n) ↔ numP v n := by
  constructor
  · intro ⟨h1, h2⟩
    obtain ⟨j, hj, rfl⟩ := nI_of h1
    refine num_of ?_ hn
    have := mt (nI_leI hn hj).mpr h2
    omega
  · intro ⟨h1, h2⟩
    have hj : cN v < 2 ^ 31 := by omega
    rw [h1]
    refine ⟨nI_pos hj, fun z => ?_⟩
    have := (nI_leI hn hj).mp z
    omega
theorem num_3 {v : Int32} : inP v (nI 0) (nI 3) ↔ numP v 4 := num_in (n := 4) (by decide)
theorem num_4 {v : Int32} : inP v (nI 0) (nI 4) ↔ numP v 5 := num_in (n := 5) (by decide)
noncomputable def addK (nu : Nat → Nat → Nat) (r : Nat) (a b c d : Int32) : Nat := kt (¬ (inP a (nI 33) (nI 126) ∧ inP b (nI 0) (nI 999) ∧ inP c (nI 0) (nI 999) ∧ inP d (nI 1) (nI 50))) 2 (kt (nu 1 r = 40) 3 0)
def laidP (nu nu' : Nat → Nat → Nat) (sg sg' : Nat → Nat → Int32) (r : Nat) (a0 a1 a2 a3 : Int32) : Prop := nu' 1 = va_up (nu 1) r (nu 1 r + 1) ∧ sg' 2 = va_up (sg 2) (40 * r + nu 1 r) a0 ∧ sg' 3 = va_up (sg 3) (40 * r + nu 1 r) a1 ∧ sg' 4 = va_up (sg 4) (40 * r + nu 1 r) a2 ∧ sg' 5 = va_up (sg 5) (40 * r + nu 1 r) a3
/-- only what was thrown has changed -/
def sameP (nu nu' : Nat → Nat → Nat) (sg sg' : Nat → Nat → Int32) : Prop := eqx [0] nu nu' ∧ sg' = sg
noncomputable def signK (nu : Nat → Nat → Nat) (pg a b c d : Int32) : Nat := kt (¬ numP pg 4) 1 (addK nu (cN pg) a b c d)
noncomputable def formSignK (nu : Nat → Nat → Nat) (fo a b c d : Int32) : Nat := kt (¬ numP fo (nu 6 0)) 1 (addK nu (4 + cN fo) a b c d)
noncomputable def formK (nu : Nat → Nat → Nat) : Nat := kt (nu 6 0 = 20) 1 0
noncomputable def useK (nu : Nat → Nat → Nat) (pg fo dx dy : Int32) : Nat := kt (¬ (numP pg 4 ∧ numP fo (nu 6 0))) 1 (kt (¬ (inP dx (-999) (nI 999) ∧ inP dy (-999) (nI 999))) 2 (kt (nu 7 0 = 12) 3 0))
noncomputable def wordK (nu : Nat → Nat → Nat) : Nat := kt (nu 12 0 = 4) 1 0
noncomputable def letterK (nu : Nat → Nat → Nat) (wo co : Int32) : Nat := kt (¬ numP wo (nu 12 0)) 1 (kt (¬ (inP co (nI 33) (nI 126) ∧ ¬ co = nI 42)) 2 (kt (nu 13 (cN wo) = 8) 3 0))
noncomputable def areaK (nu : Nat → Nat → Nat) (pg x y wd hg : Int32) : Nat := kt (¬ numP pg 4) 1 (kt (¬ (inP x (-999) (nI 999) ∧ inP y (-999) (nI 999) ∧ inP wd (nI 0) (nI 1999) ∧ inP hg (nI 0) (nI 1999))) 2 (kt (nu 15 0 = 8) 3 0))
noncomputable def storeK (nu : Nat → Nat → Nat) (en : Int32) : Nat := kt (¬ numP en 4) 1 (kt (nu 21 0 = 8) 2 0)
noncomputable def octetK (nu : Nat → Nat → Nat) (so : Int32) : Nat := kt (¬ numP so (nu 21 0)) 1 (kt (nu 23 (cN so) = 60) 2 0)
noncomputable def leftK (nu : Nat → Nat → Nat) (i wh : Int32) : Nat := kt (¬ (numP i (nu 25 0) ∧ numP wh 5)) 1 0
noncomputable def formOfK (nu : Nat → Nat → Nat) (us : Int32) : Nat := kt (¬ numP us (nu 7 0)) 1 0
noncomputable def byteOfK (nu : Nat → Nat → Nat) (so i : Int32) : Nat := kt (¬ (numP so (nu 21 0) ∧ numP i (nu 23 (cN so)))) 1 0
noncomputable def rowN (of no : Int32) : Nat := kt (of = 0) (cN no) (4 + cN no)
noncomputable def atK (nu : Nat → Nat → Nat) (of no i wh : Int32) : Nat := kt (¬ ((of = 0 ∧ numP no 4 ∨ of = nI 1 ∧ numP no (nu 6 0)) ∧ numP i (nu 1 (rowN of no)) ∧ numP wh 4)) 1 0
noncomputable def manyA (nu : Nat → Nat → Nat) (wh : Int32) : Nat := kt (wh = 0) 4 (kt (wh = nI 1) (nu 6 0) (kt (wh = nI 2) (nu 21 0) (kt (wh = nI 3) (nu 12 0) 0)))
noncomputable def manyK (nu : Nat → Nat → Nat) (wh no : Int32) : Nat := kt (¬ numP no (manyA nu wh)) 1 0
noncomputable def manyV (nu : Nat → Nat → Nat) (wh no : Int32) : Nat := kt (wh = 0) (nu 1 (cN no)) (kt (wh = nI 1) (nu 1 (4 + cN no)) (kt (wh = nI 2) (nu 23 (cN no)) (nu 13 (cN no))))
noncomputable def toldI (nu : Nat → Nat → Nat) (wh : Int32) : Int32 := @ite _ (wh = 0) (Classical.propDecidable _) (nI (nu 6 0)) (@ite _ (wh = nI 1) (Classical.propDecidable _) (nI (nu 7 0)) (@ite _ (wh = nI 2) (Classical.propDecidable _) (nI (nu 12 0)) (@ite _ (wh = nI 3) (Classical.propDecidable _) (nI (nu 15 0)) (@ite _ (wh = nI 4) (Classical.propDecidable _) (nI (nu 21 0)) (@ite _ (wh = nI 5) (Classical.propDecidable _) (nI (nu 25 0)) (-1))))))
/-- the bounds that hold all along -/
def okS (nu : Nat → Nat → Nat) (sg : Nat → Nat → Int32) : Prop :=
  nu 6 0 ≤ 20 ∧ nu 7 0 ≤ 12 ∧ nu 12 0 ≤ 4 ∧ nu 15 0 ≤ 8 ∧ nu 21 0 ≤ 8 ∧ nu 25 0 ≤ 100 ∧ (∀ r, nu 1 r ≤ 40) ∧ (∀ w, nu 13 w ≤ 8) ∧ (∀ t, nu 23 t ≤ 60) ∧ (∀ u, u < nu 7 0 → nu 9 u < nu 6 0) ∧ (∀ t, t < nu 21 0 → ∃ en, en < 4 ∧ sg 22 t = nI en) ∧ (∀ t, okB (sg 24 t)) ∧ (∀ u, u < nu 7 0 → ∃ pg, pg < 4 ∧ sg 8 u = nI pg) ∧ (∀ w, w < nu 12 0 → ∀ j, j < nu 13 w → ¬ sg 14 (8 * w + j) = 0) ∧ (∀ f, nu 6 0 ≤ f → nu 1 (4 + f) = 0) ∧ (∀ w, nu 12 0 ≤ w → nu 13 w = 0) ∧ (∀ t, nu 21 0 ≤ t → nu 23 t = 0) ∧ ∀ u, nu 9 u ≤ 20
theorem x_i2bV (x : Int32) : narrow .byte (.int (Int32.toInt8 x).toInt32) = .int (Int32.toInt8 x).toInt32 := by
  show Value.int ((Int32.toInt8 (Int32.toInt8 x).toInt32).toInt32) = _
  rw [Int8.toInt8_toInt32]
