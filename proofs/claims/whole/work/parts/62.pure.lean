theorem rd_ok {en n i b : Nat} {F f : Nat → Int32} (hen : en < 4) (h0 : en ≠ 0) (hF : ∀ i, i < n → F (b + i) = f i &&& nI 255) (hok : ∀ j, okB (F j)) (hi : 2 * i < n) (h : ¬ dcV en (F (b + 2 * i)) (unV n f (2 * i + 1)) = -1) : 2 * i + 1 < n ∧ goodP en (F (b + 2 * i)) (F (b + 2 * i + 1)) ∧ dcV en (F (b + 2 * i)) (unV n f (2 * i + 1)) = codV en (F (b + 2 * i)) (F (b + 2 * i + 1)) := by
  by_cases hl : 2 * i + 1 < n
  · have e : unV n f (2 * i + 1) = F (b + 2 * i + 1) := by
      unfold unV
      rw [if_pos hl, ← hF _ hl]
      rfl
    rw [e] at h ⊢
    have hg : goodP en (F (b + 2 * i)) (F (b + 2 * i + 1)) := Classical.byContradiction (fun z => h (dc_bad (hok _) (Or.inl (hok _)) z hen))
    exact ⟨hl, hg, (dc_good (hok _) (hok _) hg hen).1⟩
  · have e : unV n f (2 * i + 1) = -1 := by
      unfold unV
      rw [if_neg hl]
    rw [e] at h
    exact absurd (dc_odd hen h0) h
theorem rd_no {en n i b : Nat} {F f : Nat → Int32} (hen : en < 4) (h0 : en ≠ 0) (hF : ∀ i, i < n → F (b + i) = f i &&& nI 255) (hok : ∀ j, okB (F j)) (hi : 2 * i < n) (h : dcV en (F (b + 2 * i)) (unV n f (2 * i + 1)) = -1) : ¬ wellP F en b n := by
  intro hw
  have e0 : stN en n = n / 2 := by
    unfold stN
    split
    · exact absurd rfl h0
    · rfl
  have e1 : stI en i = 2 * i := by
    unfold stI
    split
    · exact absurd rfl h0
    · rfl
  by_cases hl : 2 * i + 1 < n
  · have e : unV n f (2 * i + 1) = F (b + 2 * i + 1) := by
      unfold unV
      rw [if_pos hl, ← hF _ hl]
      rfl
    rw [e] at h
    have hg := hw.2 i (by rw [e0]; omega)
    rw [e1] at hg
    exact (dc_good (hok _) (hok _) hg hen).2 h
  · have := hw.1
    omega
/-- the bytes of the first i codes of g have been written -/
def wrS (en i : Nat) (g f : Nat → Int32) : Prop := ∀ j, j < i → ((f (stI en j) &&& nI 255) = nI (w0 en (cN (g j))) ∧ byP (f (stI en j))) ∧ (en ≠ 0 → (f (stI en j + 1) &&& nI 255) = nI (w1 en (cN (g j))) ∧ byP (f (stI en j + 1)))
theorem wrS.next {en i : Nat} {g f f1 : Nat → Int32} (h : wrS en i g f) (h0 : (f1 (stI en i) &&& nI 255) = nI (w0 en (cN (g i))) ∧ byP (f1 (stI en i))) (h1 : en ≠ 0 → (f1 (stI en i + 1) &&& nI 255) = nI (w1 en (cN (g i))) ∧ byP (f1 (stI en i + 1))) (h2 : ∀ j, j < stI en i → f1 j = f j) : wrS en (i + 1) g f1 := by
  intro j hj
  by_cases hz : j = i
  · rw [hz]
    exact ⟨h0, h1⟩
  · have hl := stI_lt (en := en) (show j < i by omega)
    have h3 := stS_1 en
    obtain ⟨a, b⟩ := h j (by omega)
    rw [h2 _ (by omega)]
    refine ⟨a, fun hne => ?_⟩
    have h4 := stS_2 hne
    rw [h2 _ (by omega)]
    exact b hne
theorem byP_0 : byP (nI 0) := by
  unfold byP
  decide +kernel
theorem and_0 : (nI 0 &&& nI 255) = nI 0 := by decide +kernel
