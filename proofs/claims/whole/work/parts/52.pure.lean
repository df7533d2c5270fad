/-! looking through, and blacking out -/
noncomputable def lkR (nu : Nat → Nat → Nat) (sg : Nat → Nat → Int32) (kd : Int32) (ro : Nat → Nat) : Nat → Nat × (Nat → Int32) → Nat × (Nat → Int32)
  | 0, X => X
  | i + 1, X => ntP (fun w q => stP nu sg (fun j => sg 2 (40 * ro i + j)) (nu 1 (ro i)) w q) kd (nI i) (-1) (nu 12 0) (nu 1 (ro i)) (lkR nu sg kd ro i X)
noncomputable def lkE (nu : Nat → Nat → Nat) (sg : Nat → Nat → Int32) (t : Nat) : Nat → Nat × (Nat → Int32) → Nat × (Nat → Int32)
  | 0, X => X
  | en + 1, X => @ite _ (wellP (sg 24) en (60 * t) (nu 23 t)) (Classical.propDecidable _) (ntP (fun w q => stP nu sg (sRow (sg 24) en (60 * t)) (stN en (nu 23 t)) w q) (nI 2) (nI t) (nI en) (nu 12 0) (stN en (nu 23 t)) (lkE nu sg t en X)) (lkE nu sg t en X)
noncomputable def lkS (nu : Nat → Nat → Nat) (sg : Nat → Nat → Int32) : Nat → Nat × (Nat → Int32) → Nat × (Nat → Int32)
  | 0, X => X
  | t + 1, X => lkE nu sg t 4 (lkS nu sg t X)
theorem lkE_t {nu : Nat → Nat → Nat} {sg : Nat → Nat → Int32} {t en : Nat} {X : Nat × (Nat → Int32)} (h : wellP (sg 24) en (60 * t) (nu 23 t)) : lkE nu sg t (en + 1) X = ntP (fun w q => stP nu sg (sRow (sg 24) en (60 * t)) (stN en (nu 23 t)) w q) (nI 2) (nI t) (nI en) (nu 12 0) (stN en (nu 23 t)) (lkE nu sg t en X) := by
  rw [lkE, if_pos h]
theorem lkE_f {nu : Nat → Nat → Nat} {sg : Nat → Nat → Int32} {t en : Nat} {X : Nat × (Nat → Int32)} (h : ¬ wellP (sg 24) en (60 * t) (nu 23 t)) : lkE nu sg t (en + 1) X = lkE nu sg t en X := by
  rw [lkE, if_neg h]
theorem lkR_le {nu : Nat → Nat → Nat} {sg : Nat → Nat → Int32} {kd : Int32} {ro : Nat → Nat} {i : Nat} {X : Nat × (Nat → Int32)} (h : X.1 ≤ 100) : (lkR nu sg kd ro i X).1 ≤ 100 := by
  induction i with
  | zero => exact h
  | succ i ih => exact ntP_le ih
theorem lkE_le {nu : Nat → Nat → Nat} {sg : Nat → Nat → Int32} {t i : Nat} {X : Nat × (Nat → Int32)} (h : X.1 ≤ 100) : (lkE nu sg t i X).1 ≤ 100 := by
  induction i with
  | zero => exact h
  | succ i ih =>
    by_cases hw : wellP (sg 24) i (60 * t) (nu 23 t)
    · rw [lkE_t hw]
      exact ntP_le ih
    · rw [lkE_f hw]
      exact ih
theorem lkS_le {nu : Nat → Nat → Nat} {sg : Nat → Nat → Int32} {i : Nat} {X : Nat × (Nat → Int32)} (h : X.1 ≤ 100) : (lkS nu sg i X).1 ≤ 100 := by
  induction i with
  | zero => exact h
  | succ i ih => exact lkE_le ih
noncomputable def lkF (nu : Nat → Nat → Nat) (sg : Nat → Nat → Int32) : Nat × (Nat → Int32) := lkS nu sg (nu 21 0) (lkR nu sg (nI 1) (fun u => 4 + nu 9 u) (nu 7 0) (lkR nu sg (nI 0) (fun i => i) 4 (0, sg 26)))
theorem x_lk {nu nu1 : Nat → Nat → Nat} {sg sg1 : Nat → Nat → Int32} {row : Nat → Int32} {rs : Nat} {kd no en : Int32} {X : Nat × (Nat → Int32)} (h12 : nu1 12 = nu 12) (h13 : nu1 13 = nu 13) (h14 : sg1 14 = sg 14) (h29 : nu1 29 0 = rs) (h30 : ∀ j, j < rs → sg1 30 j = row j) (h25 : nu1 25 0 = X.1) (h26 : sg1 26 = X.2) :
    ntP (fun w q => stP nu1 sg1 (sg1 30) (nu1 29 0) w q) kd no en (nu1 12 0) (nu1 29 0) (nu1 25 0, sg1 26) = ntP (fun w q => stP nu sg row rs w q) kd no en (nu 12 0) rs X := by
  rw [h12, h29, h25, h26]
  exact ntP_c (fun v _ p _ => (stP_n h13 h14).trans (stP_c h30))
theorem mkP_x {nu nu' : Nat → Nat → Nat} {sg sg' : Nat → Nat → Int32} (h : eqx [29] nu nu') (h2 : eqx [27, 28, 30, 31] sg sg') : mkP nu' sg' = mkP nu sg := by
  funext r pg dx dy k
  unfold mkP iwP stP meP arP
  rw [h 1 (by decide), h 12 (by decide), h 13 (by decide), h 15 (by decide), h2 2 (by decide), h2 3 (by decide), h2 4 (by decide), h2 5 (by decide), h2 14 (by decide), h2 16 (by decide), h2 17 (by decide), h2 18 (by decide), h2 19 (by decide), h2 20 (by decide)]
def mkG (nu : Nat → Nat → Nat) (sg : Nat → Nat → Int32) (p : Nat) : Nat → Prop := mkP nu sg p (nI p) (nI 0) (nI 0)
def mkU (nu : Nat → Nat → Nat) (sg : Nat → Nat → Int32) (u : Nat) : Nat → Prop := mkP nu sg (4 + nu 9 u) (sg 8 u) (sg 10 u) (sg 11 u)
def hasU (nu : Nat → Nat → Nat) (sg : Nat → Nat → Int32) (u : Nat) : Prop := ∃ k, k < 40 ∧ mkU nu sg u k
def alk (nu : Nat → Nat → Nat) (sg : Nat → Nat → Int32) (u w : Nat) : Prop := nu 9 u = nu 9 w ∧ ∀ k, k < 40 → (mkU nu sg u k ↔ mkU nu sg w k)
def newU (nu : Nat → Nat → Nat) (sg : Nat → Nat → Int32) (u : Nat) : Prop := hasU nu sg u ∧ ¬ ∃ w, w < u ∧ alk nu sg u w
def CFp (nu : Nat → Nat → Nat) (sg : Nat → Nat → Int32) (u c : Nat) : Prop := ∃ w, w ≤ u ∧ alk nu sg u w ∧ newU nu sg w ∧ c = nu 6 0 + cnt (newU nu sg) w
def sm (f : Nat → Nat) : Nat → Nat
  | 0 => 0
  | n + 1 => sm f n + f n
theorem alk.rf {nu : Nat → Nat → Nat} {sg : Nat → Nat → Int32} {u : Nat} : alk nu sg u u := ⟨rfl, fun _ _ => Iff.rfl⟩
theorem alk.symm {nu : Nat → Nat → Nat} {sg : Nat → Nat → Int32} {u w : Nat} (h : alk nu sg u w) : alk nu sg w u := ⟨h.1.symm, fun k hk => (h.2 k hk).symm⟩
theorem alk.trans {nu : Nat → Nat → Nat} {sg : Nat → Nat → Int32} {u w v : Nat} (h : alk nu sg u w) (h2 : alk nu sg w v) : alk nu sg u v := ⟨h.1.trans h2.1, fun k hk => (h.2 k hk).trans (h2.2 k hk)⟩
theorem alk.has {nu : Nat → Nat → Nat} {sg : Nat → Nat → Int32} {u w : Nat} (h : alk nu sg u w) (hu : hasU nu sg u) : hasU nu sg w := by
  obtain ⟨k, hk, h1⟩ := hu
  exact ⟨k, hk, (h.2 k hk).mp h1⟩
theorem CFp.ofA {nu : Nat → Nat → Nat} {sg : Nat → Nat → Int32} {u w c : Nat} (h : CFp nu sg w c) (hw : w ≤ u) (ha : alk nu sg u w) : CFp nu sg u c := by
  obtain ⟨v, h1, h2, h3⟩ := h
  exact ⟨v, Nat.le_trans h1 hw, ha.trans h2, h3⟩
theorem CFp.self {nu : Nat → Nat → Nat} {sg : Nat → Nat → Int32} {u : Nat} (h : newU nu sg u) : CFp nu sg u (nu 6 0 + cnt (newU nu sg) u) := ⟨u, Nat.le_refl u, alk.rf, h, rfl⟩
theorem CFp.uniq {nu : Nat → Nat → Nat} {sg : Nat → Nat → Int32} {u c d : Nat} (h : CFp nu sg u c) (h' : CFp nu sg u d) : c = d := by
  obtain ⟨v, h1, h2, h3, rfl⟩ := h
  obtain ⟨w, g1, g2, g3, rfl⟩ := h'
  have hvw : alk nu sg v w := h2.symm.trans g2
  by_cases z : v = w
  · rw [z]
  · by_cases z2 : v < w
    · exact absurd ⟨v, z2, hvw.symm⟩ g3.2
    · exact absurd ⟨w, by omega, hvw⟩ h3.2
theorem CFp.lt {nu : Nat → Nat → Nat} {sg : Nat → Nat → Int32} {u c n : Nat} (h : CFp nu sg u c) (hu : u < n) : nu 6 0 ≤ c ∧ c < nu 6 0 + cnt (newU nu sg) n := by
  obtain ⟨v, h1, h2, h3, rfl⟩ := h
  have h4 : cnt (newU nu sg) (v + 1) ≤ cnt (newU nu sg) n := cnt_mono _ (by omega)
  rw [cnt_t h3] at h4
  omega
theorem x_neg {n : Nat} (h : n < 2 ^ 31) : nI n - nI 1 < 0 ↔ n = 0 := by
  by_cases hz : n = 0
  · subst hz
    exact ⟨fun _ => rfl, fun _ => by decide +kernel⟩
  · rw [x_sub (by omega)]
    exact ⟨fun z => absurd z (nI_pos (by omega)), fun z => absurd z hz⟩
/-- one row has been cut: row r by P, into row t -/
def rowCut (nu : Nat → Nat → Nat) (sg : Nat → Nat → Int32) (nu' : Nat → Nat → Nat) (sg' : Nat → Nat → Int32) (P : Nat → Prop) (r t : Nat) : Prop :=
  nu' 1 t = kp P (nu 1 r) ∧ (∀ i, i < nu 1 r → em P i → sg' 2 (40 * t + kp P i) = cV P (nI 0) (sg 2) (40 * r) i ∧ sg' 3 (40 * t + kp P i) = sg 3 (40 * r + i) ∧ sg' 4 (40 * t + kp P i) = sg 4 (40 * r + i) ∧ sg' 5 (40 * t + kp P i) = cV P (nI 100) (sg 5) (40 * r) i)
/-- row r is as it was -/
def rowSame (nu : Nat → Nat → Nat) (sg : Nat → Nat → Int32) (nu' : Nat → Nat → Nat) (sg' : Nat → Nat → Int32) (r : Nat) : Prop := nu' 1 r = nu 1 r ∧ ∀ i, i < 40 → sg' 2 (40 * r + i) = sg 2 (40 * r + i) ∧ sg' 3 (40 * r + i) = sg 3 (40 * r + i) ∧ sg' 4 (40 * r + i) = sg 4 (40 * r + i) ∧ sg' 5 (40 * r + i) = sg 5 (40 * r + i)
def stoP (nu : Nat → Nat → Nat) (sg : Nat → Nat → Int32) (en t : Nat) : Nat → Prop := iwP nu sg (sRow (sg 24) en (60 * t)) (stN en (nu 23 t))
/-- a store has been cut -/
def stoCut (nu : Nat → Nat → Nat) (sg : Nat → Nat → Int32) (nu' : Nat → Nat → Nat) (sg' : Nat → Nat → Int32) (en t : Nat) : Prop :=
  (wellP (sg 24) en (60 * t) (nu 23 t) → nu' 23 t = stI en (kp (stoP nu sg en t) (stN en (nu 23 t))) ∧ ∀ i, i < stN en (nu 23 t) → em (stoP nu sg en t) i → sg' 24 (60 * t + stI en (kp (stoP nu sg en t) i)) = nI (w0 en (cN (cV (stoP nu sg en t) (nI 42) (sRow (sg 24) en (60 * t)) 0 i))) ∧ (en ≠ 0 → sg' 24 (60 * t + stI en (kp (stoP nu sg en t) i) + 1) = nI (w1 en (cN (cV (stoP nu sg en t) (nI 42) (sRow (sg 24) en (60 * t)) 0 i)))))
  ∧ (¬ wellP (sg 24) en (60 * t) (nu 23 t) → nu' 23 t = 0)
noncomputable def stoN (nu : Nat → Nat → Nat) (sg : Nat → Nat → Int32) (t : Nat) : Nat := csN (wellP (sg 24) (cN (sg 22 t)) (60 * t) (nu 23 t)) (cnt (stoP nu sg (cN (sg 22 t)) t) (stN (cN (sg 22 t)) (nu 23 t)))
noncomputable def blackK (nu : Nat → Nat → Nat) (sg : Nat → Nat → Int32) : Nat := kt (20 < nu 6 0 + cnt (newU nu sg) (nu 7 0)) 1 0
noncomputable def blackN (nu : Nat → Nat → Nat) (sg : Nat → Nat → Int32) : Nat := sm (fun p => cnt (mkG nu sg p) 40) 4 + sm (fun u => cnt (mkU nu sg u) 40) (nu 7 0) + sm (stoN nu sg) (nu 21 0)
def blackP (nu : Nat → Nat → Nat) (sg : Nat → Nat → Int32) (nu' : Nat → Nat → Nat) (sg' : Nat → Nat → Int32) : Prop :=
  eqx [0, 1, 6, 9, 23, 29] nu nu' ∧ eqx [2, 3, 4, 5, 24, 27, 28, 30, 31] sg sg' ∧ nu' 6 0 = nu 6 0 + cnt (newU nu sg) (nu 7 0)
  ∧ (∀ p, p < 4 → rowCut nu sg nu' sg' (mkG nu sg p) p p) ∧ (∀ f, f < nu 6 0 → rowSame nu sg nu' sg' (4 + f)) ∧ (∀ u, u < nu 7 0 → hasU nu sg u → ∀ c, CFp nu sg u c → rowCut nu sg nu' sg' (mkU nu sg u) (4 + nu 9 u) (4 + c))
  ∧ (∀ r, 4 + nu' 6 0 ≤ r → nu' 1 r = nu 1 r) ∧ (∀ u, u < nu 7 0 → (hasU nu sg u → CFp nu sg u (nu' 9 u)) ∧ (¬ hasU nu sg u → nu' 9 u = nu 9 u)) ∧ (∀ u, nu 7 0 ≤ u → nu' 9 u = nu 9 u)
  ∧ (∀ t, t < nu 21 0 → stoCut nu sg nu' sg' (cN (sg 22 t)) t) ∧ (∀ t, nu 21 0 ≤ t → nu' 23 t = nu 23 t)
