/-! the law's state: the class and the reference over the same numbers -/
theorem mS_k {md a : Nat} {am : Nat → Nat} (h : a ∈ mS md am) : a = md ∨ ∃ k, mIsA k = true ∧ a = am k := by
  simp only [mS, List.mem_cons, List.not_mem_nil, or_false] at h
  rcases h with h | h | h | h | h | h | h | h | h | h | h | h | h | h | h | h | h | h | h | h | h | h | h | h | h
  · exact Or.inl h
  · exact Or.inr ⟨1, by decide, h⟩
  · exact Or.inr ⟨2, by decide, h⟩
  · exact Or.inr ⟨3, by decide, h⟩
  · exact Or.inr ⟨4, by decide, h⟩
  · exact Or.inr ⟨5, by decide, h⟩
  · exact Or.inr ⟨8, by decide, h⟩
  · exact Or.inr ⟨9, by decide, h⟩
  · exact Or.inr ⟨10, by decide, h⟩
  · exact Or.inr ⟨11, by decide, h⟩
  · exact Or.inr ⟨13, by decide, h⟩
  · exact Or.inr ⟨14, by decide, h⟩
  · exact Or.inr ⟨16, by decide, h⟩
  · exact Or.inr ⟨17, by decide, h⟩
  · exact Or.inr ⟨18, by decide, h⟩
  · exact Or.inr ⟨19, by decide, h⟩
  · exact Or.inr ⟨20, by decide, h⟩
  · exact Or.inr ⟨22, by decide, h⟩
  · exact Or.inr ⟨23, by decide, h⟩
  · exact Or.inr ⟨24, by decide, h⟩
  · exact Or.inr ⟨26, by decide, h⟩
  · exact Or.inr ⟨27, by decide, h⟩
  · exact Or.inr ⟨28, by decide, h⟩
  · exact Or.inr ⟨30, by decide, h⟩
  · exact Or.inr ⟨31, by decide, h⟩
def lawI (G : xT) (M : xMem) (fz : Nat) (ad : Nat → Nat → Nat) (md out : Nat) (am : Nat → Nat) (nu : Nat → Nat → Nat) (sg : Nat → Nat → Int32) (ov : Nat → Int64) : Prop :=
  cRep G M fz ad nu sg ∧ mRep G M md am nu sg ∧ okS nu sg ∧ M out = some (.inl (G.2.1 2, 1, .inr (.inl ov))) ∧ ¬ own ad nu out ∧ out ∉ mS md am ∧ ∀ a, own ad nu a → a ∉ mS md am
/-- what the class's cells speak of is the same -/
def trP (nu1 nu2 : Nat → Nat → Nat) (sg1 sg2 : Nat → Nat → Int32) : Prop := (∀ x, x ∈ [1, 9, 13, 23] → nu2 x = nu1 x) ∧ (∀ x, x ∈ [6, 7, 12, 15, 21, 25] → nu2 x 0 = nu1 x 0) ∧ ∀ x, x ∉ [27, 28, 30, 31] → sg2 x = sg1 x
section LI
variable {G : xT} {M M' M2 : xMem} {fz md out : Nat} {ad ad' : Nat → Nat → Nat} {am : Nat → Nat} {nu nu' nu2 : Nat → Nat → Nat} {sg sg' sg2 : Nat → Nat → Int32} {ov ov' : Nat → Int64}
theorem mRep.nn (h : mRep G M md am nu sg) {a : Nat} (ha : a ∈ mS md am) : M a ≠ none := by
  rcases mS_k ha with rfl | ⟨k, hk, rfl⟩
  · exact x_nn h.1
  · exact x_nn (h.2.1 k hk)
theorem mRep.cfo (h : mRep G M md am nu sg) (hf : cFo M M' ad nu' out) (hd : ∀ a, own ad nu' a → a ∉ mS md am) (ho : out ∉ mS md am) : mRep G M' md am nu sg := by
  have key : ∀ a, a ∈ mS md am → M' a = M a := fun a ha => hf.2 a (fun z => hd a z ha) (fun z => ho (z ▸ ha)) (h.nn ha)
  exact ⟨(key md List.mem_cons_self).trans h.1, fun k hk => (key _ (mS_in md am hk)).trans (h.2.1 k hk), h.2.2⟩
theorem cRep.mfr (h : cRep G M fz ad nu sg) (hz9 : M' fz = none) (hf : xfr M M' (mS md am)) (hd : ∀ a, own ad nu a → a ∉ mS md am) : cRep G M' fz ad nu sg :=
  h.next hf hz9 (fun _ => 0) rfl (fun k i hi => Or.inl ⟨hi, rfl⟩) (fun k i hi => Or.inl ⟨hi, rfl, hd _ ⟨k, i, hi, rfl⟩, (fun _ => rfl), fun _ he => he⟩)
theorem trP_rng (h : trP nu' nu2 sg' sg2) : ∀ k, rng nu2 k = rng nu' k := by
  intro k
  unfold rng
  rw [h.2.1 6 (by decide), h.2.1 7 (by decide), h.2.1 12 (by decide), h.2.1 15 (by decide), h.2.1 21 (by decide)]
theorem trP.rng (h : trP nu' nu2 sg' sg2) : ∀ k, rng nu2 k = rng nu' k := trP_rng h
theorem cRep.to (hc : cRep G M fz ad nu' sg') (hfm : ∀ u, u < nu' 7 0 → nu' 9 u < nu' 6 0) (h : trP nu' nu2 sg' sg2) : cRep G M fz ad nu2 sg2 := by
  have hl : ∀ i, ln nu2 i = ln nu' i := by
    intro i
    unfold ln
    rw [h.2.1 6 (by decide), h.2.1 7 (by decide), h.2.1 12 (by decide), h.2.1 15 (by decide), h.2.1 21 (by decide)]
  refine hc.eq h.rng hfm (fun k i hi => ?_)
  match k, hi with
  | 0, _ => exact hl i
  | 1, _ => exact hl i
  | 2, _ => exact congrFun (h.1 1 (by decide)) i
  | 3, _ => exact ⟨congrFun (h.1 1 (by decide)) i, fun j _ => ⟨congrFun (h.2.2 2 (by decide)) _, congrFun (h.2.2 3 (by decide)) _, congrFun (h.2.2 4 (by decide)) _, congrFun (h.2.2 5 (by decide)) _⟩⟩
  | 4, _ => exact ⟨congrFun (h.2.2 8 (by decide)) _, congrFun (h.2.2 10 (by decide)) _, congrFun (h.2.2 11 (by decide)) _, congrFun (h.1 9 (by decide)) i⟩
  | 5, _ => exact congrFun (h.1 13 (by decide)) i
  | 6, _ => exact ⟨congrFun (h.1 13 (by decide)) i, fun j _ => congrFun (h.2.2 14 (by decide)) _⟩
  | 7, _ => exact ⟨congrFun (h.2.2 16 (by decide)) _, congrFun (h.2.2 17 (by decide)) _, congrFun (h.2.2 18 (by decide)) _, congrFun (h.2.2 19 (by decide)) _, congrFun (h.2.2 20 (by decide)) _⟩
  | 8, _ => exact ⟨congrFun (h.2.2 22 (by decide)) _, congrFun (h.1 23 (by decide)) i⟩
  | 9, _ => exact ⟨congrFun (h.1 23 (by decide)) i, fun j _ => congrFun (h.2.2 24 (by decide)) _⟩
  | 10, _ => exact h.2.1 25 (by decide)
  | 11, _ => exact h.2.2 26 (by decide)
  | 12, _ => exact trivial
  | 13, _ => exact trivial
  | 14, _ => exact trivial
  | _ + 15, hi => exact absurd hi (Nat.not_lt_zero _)
/-- one step of the law, put together -/
theorem law_step (hz9 : M2 fz = none) (hI : lawI G M fz ad md out am nu sg ov) (q1 : cRep G M' fz ad' nu' sg') (q6 : ∀ a, own ad' nu' a → own ad nu a ∨ M a = none) (ho : M' out = some (.inl (G.2.1 2, 1, .inr (.inl ov')))) (q5 : cFo M M' ad nu out) (hm : mRep G M2 md am nu2 sg2) (fr : xfr M' M2 (mS md am)) (hto : ∀ M9, cRep G M9 fz ad' nu' sg' → cRep G M9 fz ad' nu2 sg2) (hrg : ∀ k, rng nu2 k = rng nu' k) (ok : okS nu2 sg2) : lawI G M2 fz ad' md out am nu2 sg2 ov' := by
  obtain ⟨hc, hm0, ok0, ho0, hn0, hs0, hd0⟩ := hI
  have hd' : ∀ a, own ad' nu' a → a ∉ mS md am := fun a ha hz => by
    rcases q6 a ha with y | y
    · exact hd0 a y hz
    · exact hm0.nn hz y
  have hm1 := hm0.cfo q5 hd0 hs0
  refine ⟨hto _ (q1.mfr hz9 fr hd'), hm, ok, fr.get ho hs0, fun z => ?_, hs0, fun a ha => hd' a (own_eq hrg ha)⟩
  rcases q6 out (own_eq hrg z) with y | y
  · exact hn0 y
  · rw [ho0] at y
    cases y
theorem okS_0 (h : okS nu sg) (hN : eqx [0] nu nu2) : okS nu2 sg := by
  unfold okS at h ⊢
  rw [hN 6 (by decide), hN 7 (by decide), hN 12 (by decide), hN 15 (by decide), hN 21 (by decide), hN 25 (by decide), hN 1 (by decide), hN 13 (by decide), hN 23 (by decide), hN 9 (by decide)]
  exact h
theorem trP_0 (hN : eqx [0] nu nu2) : trP nu nu2 sg sg := ⟨fun x hx => hN x (fun z => by rw [List.mem_singleton.mp z] at hx; exact absurd hx (by decide)), fun x hx => congrFun (hN x (fun z => by rw [List.mem_singleton.mp z] at hx; exact absurd hx (by decide))) 0, fun _ _ => rfl⟩
end LI
theorem tr_laid {nu nu' nu2 : Nat → Nat → Nat} {sg sg' sg2 : Nat → Nat → Int32} {r : Nat} {a b c d : Int32} (c1 : laidP nu nu' sg sg' r a b c d) (m1 : laidP nu nu2 sg sg2 r a b c d) (cN : eqx [1] nu nu') (cS : eqx [2, 3, 4, 5] sg sg') (mN : eqx [0, 1] nu nu2) (mS : eqx [2, 3, 4, 5] sg sg2) : trP nu' nu2 sg' sg2 := by
  refine ⟨fun x hx => ?_, fun x hx => ?_, fun x hx => ?_⟩
  · simp only [List.mem_cons, List.not_mem_nil, or_false] at hx
    rcases hx with rfl | rfl | rfl | rfl
    · exact m1.1.trans c1.1.symm
    · exact (mN 9 (by decide)).trans (cN 9 (by decide)).symm
    · exact (mN 13 (by decide)).trans (cN 13 (by decide)).symm
    · exact (mN 23 (by decide)).trans (cN 23 (by decide)).symm
  · simp only [List.mem_cons, List.not_mem_nil, or_false] at hx
    rcases hx with rfl | rfl | rfl | rfl | rfl | rfl
    · exact congrFun ((mN 6 (by decide)).trans (cN 6 (by decide)).symm) 0
    · exact congrFun ((mN 7 (by decide)).trans (cN 7 (by decide)).symm) 0
    · exact congrFun ((mN 12 (by decide)).trans (cN 12 (by decide)).symm) 0
    · exact congrFun ((mN 15 (by decide)).trans (cN 15 (by decide)).symm) 0
    · exact congrFun ((mN 21 (by decide)).trans (cN 21 (by decide)).symm) 0
    · exact congrFun ((mN 25 (by decide)).trans (cN 25 (by decide)).symm) 0
  · by_cases h9 : x ∈ [2, 3, 4, 5]
    · simp only [List.mem_cons, List.not_mem_nil, or_false] at h9
      rcases h9 with rfl | rfl | rfl | rfl
      · exact m1.2.1.trans c1.2.1.symm
      · exact m1.2.2.1.trans c1.2.2.1.symm
      · exact m1.2.2.2.1.trans c1.2.2.2.1.symm
      · exact m1.2.2.2.2.trans c1.2.2.2.2.symm
    · exact (mS x h9).trans (cS x h9).symm
theorem tr_form {nu nu' nu2 : Nat → Nat → Nat} {sg sg' sg2 : Nat → Nat → Int32} (c1 : nu' 6 0 = nu 6 0 + 1) (m1 : nu2 6 0 = nu 6 0 + 1) (cN : eqx [6] nu nu') (cS : eqx [] sg sg') (mN : eqx [0, 6] nu nu2) (mS : eqx [] sg sg2) : trP nu' nu2 sg' sg2 := by
  refine ⟨fun x hx => ?_, fun x hx => ?_, fun x hx => ?_⟩
  · simp only [List.mem_cons, List.not_mem_nil, or_false] at hx
    rcases hx with rfl | rfl | rfl | rfl
    · exact (mN 1 (by decide)).trans (cN 1 (by decide)).symm
    · exact (mN 9 (by decide)).trans (cN 9 (by decide)).symm
    · exact (mN 13 (by decide)).trans (cN 13 (by decide)).symm
    · exact (mN 23 (by decide)).trans (cN 23 (by decide)).symm
  · simp only [List.mem_cons, List.not_mem_nil, or_false] at hx
    rcases hx with rfl | rfl | rfl | rfl | rfl | rfl
    · exact m1.trans c1.symm
    · exact congrFun ((mN 7 (by decide)).trans (cN 7 (by decide)).symm) 0
    · exact congrFun ((mN 12 (by decide)).trans (cN 12 (by decide)).symm) 0
    · exact congrFun ((mN 15 (by decide)).trans (cN 15 (by decide)).symm) 0
    · exact congrFun ((mN 21 (by decide)).trans (cN 21 (by decide)).symm) 0
    · exact congrFun ((mN 25 (by decide)).trans (cN 25 (by decide)).symm) 0
  · exact (mS x List.not_mem_nil).trans (cS x List.not_mem_nil).symm
theorem tr_word {nu nu' nu2 : Nat → Nat → Nat} {sg sg' sg2 : Nat → Nat → Int32} (c1 : nu' 12 0 = nu 12 0 + 1) (m1 : nu2 12 0 = nu 12 0 + 1) (cN : eqx [12] nu nu') (cS : eqx [] sg sg') (mN : eqx [0, 12] nu nu2) (mS : eqx [] sg sg2) : trP nu' nu2 sg' sg2 := by
  refine ⟨fun x hx => ?_, fun x hx => ?_, fun x hx => ?_⟩
  · simp only [List.mem_cons, List.not_mem_nil, or_false] at hx
    rcases hx with rfl | rfl | rfl | rfl
    · exact (mN 1 (by decide)).trans (cN 1 (by decide)).symm
    · exact (mN 9 (by decide)).trans (cN 9 (by decide)).symm
    · exact (mN 13 (by decide)).trans (cN 13 (by decide)).symm
    · exact (mN 23 (by decide)).trans (cN 23 (by decide)).symm
  · simp only [List.mem_cons, List.not_mem_nil, or_false] at hx
    rcases hx with rfl | rfl | rfl | rfl | rfl | rfl
    · exact congrFun ((mN 6 (by decide)).trans (cN 6 (by decide)).symm) 0
    · exact congrFun ((mN 7 (by decide)).trans (cN 7 (by decide)).symm) 0
    · exact m1.trans c1.symm
    · exact congrFun ((mN 15 (by decide)).trans (cN 15 (by decide)).symm) 0
    · exact congrFun ((mN 21 (by decide)).trans (cN 21 (by decide)).symm) 0
    · exact congrFun ((mN 25 (by decide)).trans (cN 25 (by decide)).symm) 0
  · exact (mS x List.not_mem_nil).trans (cS x List.not_mem_nil).symm
theorem tr_letter {nu nu' nu2 : Nat → Nat → Nat} {sg sg' sg2 : Nat → Nat → Int32} {w x9 : Nat} {co : Int32} {y9 : Nat} (c1 : nu' 13 = va_up (nu 13) w x9 ∧ sg' 14 = va_up (sg 14) y9 co) (m1 : nu2 13 = va_up (nu 13) w x9 ∧ sg2 14 = va_up (sg 14) y9 co) (cN : eqx [13] nu nu') (cS : eqx [14] sg sg') (mN : eqx [0, 13] nu nu2) (mS : eqx [14] sg sg2) : trP nu' nu2 sg' sg2 := by
  refine ⟨fun x hx => ?_, fun x hx => ?_, fun x hx => ?_⟩
  · simp only [List.mem_cons, List.not_mem_nil, or_false] at hx
    rcases hx with rfl | rfl | rfl | rfl
    · exact (mN 1 (by decide)).trans (cN 1 (by decide)).symm
    · exact (mN 9 (by decide)).trans (cN 9 (by decide)).symm
    · exact m1.1.trans c1.1.symm
    · exact (mN 23 (by decide)).trans (cN 23 (by decide)).symm
  · simp only [List.mem_cons, List.not_mem_nil, or_false] at hx
    rcases hx with rfl | rfl | rfl | rfl | rfl | rfl
    · exact congrFun ((mN 6 (by decide)).trans (cN 6 (by decide)).symm) 0
    · exact congrFun ((mN 7 (by decide)).trans (cN 7 (by decide)).symm) 0
    · exact congrFun ((mN 12 (by decide)).trans (cN 12 (by decide)).symm) 0
    · exact congrFun ((mN 15 (by decide)).trans (cN 15 (by decide)).symm) 0
    · exact congrFun ((mN 21 (by decide)).trans (cN 21 (by decide)).symm) 0
    · exact congrFun ((mN 25 (by decide)).trans (cN 25 (by decide)).symm) 0
  · by_cases h9 : x ∈ [14]
    · simp only [List.mem_cons, List.not_mem_nil, or_false] at h9
      rcases h9 with rfl
      · exact m1.2.trans c1.2.symm
    · exact (mS x h9).trans (cS x h9).symm
theorem tr_octet {nu nu' nu2 : Nat → Nat → Nat} {sg sg' sg2 : Nat → Nat → Int32} {w x9 : Nat} {co : Int32} {y9 : Nat} (c1 : nu' 23 = va_up (nu 23) w x9 ∧ sg' 24 = va_up (sg 24) y9 co) (m1 : nu2 23 = va_up (nu 23) w x9 ∧ sg2 24 = va_up (sg 24) y9 co) (cN : eqx [23] nu nu') (cS : eqx [24] sg sg') (mN : eqx [0, 23] nu nu2) (mS : eqx [24] sg sg2) : trP nu' nu2 sg' sg2 := by
  refine ⟨fun x hx => ?_, fun x hx => ?_, fun x hx => ?_⟩
  · simp only [List.mem_cons, List.not_mem_nil, or_false] at hx
    rcases hx with rfl | rfl | rfl | rfl
    · exact (mN 1 (by decide)).trans (cN 1 (by decide)).symm
    · exact (mN 9 (by decide)).trans (cN 9 (by decide)).symm
    · exact (mN 13 (by decide)).trans (cN 13 (by decide)).symm
    · exact m1.1.trans c1.1.symm
  · simp only [List.mem_cons, List.not_mem_nil, or_false] at hx
    rcases hx with rfl | rfl | rfl | rfl | rfl | rfl
    · exact congrFun ((mN 6 (by decide)).trans (cN 6 (by decide)).symm) 0
    · exact congrFun ((mN 7 (by decide)).trans (cN 7 (by decide)).symm) 0
    · exact congrFun ((mN 12 (by decide)).trans (cN 12 (by decide)).symm) 0
    · exact congrFun ((mN 15 (by decide)).trans (cN 15 (by decide)).symm) 0
    · exact congrFun ((mN 21 (by decide)).trans (cN 21 (by decide)).symm) 0
    · exact congrFun ((mN 25 (by decide)).trans (cN 25 (by decide)).symm) 0
  · by_cases h9 : x ∈ [24]
    · simp only [List.mem_cons, List.not_mem_nil, or_false] at h9
      rcases h9 with rfl
      · exact m1.2.trans c1.2.symm
    · exact (mS x h9).trans (cS x h9).symm
theorem tr_store {nu nu' nu2 : Nat → Nat → Nat} {sg sg' sg2 : Nat → Nat → Int32} {en : Int32} (c1 : nu' 21 0 = nu 21 0 + 1 ∧ sg' 22 = va_up (sg 22) (nu 21 0) en) (m1 : nu2 21 0 = nu 21 0 + 1 ∧ sg2 22 = va_up (sg 22) (nu 21 0) en) (cN : eqx [21] nu nu') (cS : eqx [22] sg sg') (mN : eqx [0, 21] nu nu2) (mS : eqx [22] sg sg2) : trP nu' nu2 sg' sg2 := by
  refine ⟨fun x hx => ?_, fun x hx => ?_, fun x hx => ?_⟩
  · simp only [List.mem_cons, List.not_mem_nil, or_false] at hx
    rcases hx with rfl | rfl | rfl | rfl
    · exact (mN 1 (by decide)).trans (cN 1 (by decide)).symm
    · exact (mN 9 (by decide)).trans (cN 9 (by decide)).symm
    · exact (mN 13 (by decide)).trans (cN 13 (by decide)).symm
    · exact (mN 23 (by decide)).trans (cN 23 (by decide)).symm
  · simp only [List.mem_cons, List.not_mem_nil, or_false] at hx
    rcases hx with rfl | rfl | rfl | rfl | rfl | rfl
    · exact congrFun ((mN 6 (by decide)).trans (cN 6 (by decide)).symm) 0
    · exact congrFun ((mN 7 (by decide)).trans (cN 7 (by decide)).symm) 0
    · exact congrFun ((mN 12 (by decide)).trans (cN 12 (by decide)).symm) 0
    · exact congrFun ((mN 15 (by decide)).trans (cN 15 (by decide)).symm) 0
    · exact m1.1.trans c1.1.symm
    · exact congrFun ((mN 25 (by decide)).trans (cN 25 (by decide)).symm) 0
  · by_cases h9 : x ∈ [22]
    · simp only [List.mem_cons, List.not_mem_nil, or_false] at h9
      rcases h9 with rfl
      · exact m1.2.trans c1.2.symm
    · exact (mS x h9).trans (cS x h9).symm
theorem tr_area {nu nu' nu2 : Nat → Nat → Nat} {sg sg' sg2 : Nat → Nat → Int32} {pg x9 y9 wd hg : Int32} (c1 : nu' 15 0 = nu 15 0 + 1 ∧ sg' 16 = va_up (sg 16) (nu 15 0) pg ∧ sg' 17 = va_up (sg 17) (nu 15 0) x9 ∧ sg' 18 = va_up (sg 18) (nu 15 0) y9 ∧ sg' 19 = va_up (sg 19) (nu 15 0) wd ∧ sg' 20 = va_up (sg 20) (nu 15 0) hg) (m1 : nu2 15 0 = nu 15 0 + 1 ∧ sg2 16 = va_up (sg 16) (nu 15 0) pg ∧ sg2 17 = va_up (sg 17) (nu 15 0) x9 ∧ sg2 18 = va_up (sg 18) (nu 15 0) y9 ∧ sg2 19 = va_up (sg 19) (nu 15 0) wd ∧ sg2 20 = va_up (sg 20) (nu 15 0) hg) (cN : eqx [15] nu nu') (cS : eqx [16, 17, 18, 19, 20] sg sg') (mN : eqx [0, 15] nu nu2) (mS : eqx [16, 17, 18, 19, 20] sg sg2) : trP nu' nu2 sg' sg2 := by
  refine ⟨fun x hx => ?_, fun x hx => ?_, fun x hx => ?_⟩
  · simp only [List.mem_cons, List.not_mem_nil, or_false] at hx
    rcases hx with rfl | rfl | rfl | rfl
    · exact (mN 1 (by decide)).trans (cN 1 (by decide)).symm
    · exact (mN 9 (by decide)).trans (cN 9 (by decide)).symm
    · exact (mN 13 (by decide)).trans (cN 13 (by decide)).symm
    · exact (mN 23 (by decide)).trans (cN 23 (by decide)).symm
  · simp only [List.mem_cons, List.not_mem_nil, or_false] at hx
    rcases hx with rfl | rfl | rfl | rfl | rfl | rfl
    · exact congrFun ((mN 6 (by decide)).trans (cN 6 (by decide)).symm) 0
    · exact congrFun ((mN 7 (by decide)).trans (cN 7 (by decide)).symm) 0
    · exact congrFun ((mN 12 (by decide)).trans (cN 12 (by decide)).symm) 0
    · exact m1.1.trans c1.1.symm
    · exact congrFun ((mN 21 (by decide)).trans (cN 21 (by decide)).symm) 0
    · exact congrFun ((mN 25 (by decide)).trans (cN 25 (by decide)).symm) 0
  · by_cases h9 : x ∈ [16, 17, 18, 19, 20]
    · simp only [List.mem_cons, List.not_mem_nil, or_false] at h9
      rcases h9 with rfl | rfl | rfl | rfl | rfl
      · exact m1.2.1.trans c1.2.1.symm
      · exact m1.2.2.1.trans c1.2.2.1.symm
      · exact m1.2.2.2.1.trans c1.2.2.2.1.symm
      · exact m1.2.2.2.2.1.trans c1.2.2.2.2.1.symm
      · exact m1.2.2.2.2.2.trans c1.2.2.2.2.2.symm
    · exact (mS x h9).trans (cS x h9).symm
theorem tr_use {nu nu' nu2 : Nat → Nat → Nat} {sg sg' sg2 : Nat → Nat → Int32} {pg dx dy : Int32} {fo : Nat} (c1 : nu' 7 0 = nu 7 0 + 1 ∧ nu' 9 = va_up (nu 9) (nu 7 0) fo ∧ sg' 8 = va_up (sg 8) (nu 7 0) pg ∧ sg' 10 = va_up (sg 10) (nu 7 0) dx ∧ sg' 11 = va_up (sg 11) (nu 7 0) dy) (m1 : nu2 7 0 = nu 7 0 + 1 ∧ nu2 9 = va_up (nu 9) (nu 7 0) fo ∧ sg2 8 = va_up (sg 8) (nu 7 0) pg ∧ sg2 10 = va_up (sg 10) (nu 7 0) dx ∧ sg2 11 = va_up (sg 11) (nu 7 0) dy) (cN : eqx [7, 9] nu nu') (cS : eqx [8, 10, 11] sg sg') (mN : eqx [0, 7, 9] nu nu2) (mS : eqx [8, 10, 11] sg sg2) : trP nu' nu2 sg' sg2 := by
  refine ⟨fun x hx => ?_, fun x hx => ?_, fun x hx => ?_⟩
  · simp only [List.mem_cons, List.not_mem_nil, or_false] at hx
    rcases hx with rfl | rfl | rfl | rfl
    · exact (mN 1 (by decide)).trans (cN 1 (by decide)).symm
    · exact m1.2.1.trans c1.2.1.symm
    · exact (mN 13 (by decide)).trans (cN 13 (by decide)).symm
    · exact (mN 23 (by decide)).trans (cN 23 (by decide)).symm
  · simp only [List.mem_cons, List.not_mem_nil, or_false] at hx
    rcases hx with rfl | rfl | rfl | rfl | rfl | rfl
    · exact congrFun ((mN 6 (by decide)).trans (cN 6 (by decide)).symm) 0
    · exact m1.1.trans c1.1.symm
    · exact congrFun ((mN 12 (by decide)).trans (cN 12 (by decide)).symm) 0
    · exact congrFun ((mN 15 (by decide)).trans (cN 15 (by decide)).symm) 0
    · exact congrFun ((mN 21 (by decide)).trans (cN 21 (by decide)).symm) 0
    · exact congrFun ((mN 25 (by decide)).trans (cN 25 (by decide)).symm) 0
  · by_cases h9 : x ∈ [8, 10, 11]
    · simp only [List.mem_cons, List.not_mem_nil, or_false] at h9
      rcases h9 with rfl | rfl | rfl
      · exact m1.2.2.1.trans c1.2.2.1.symm
      · exact m1.2.2.2.1.trans c1.2.2.2.1.symm
      · exact m1.2.2.2.2.trans c1.2.2.2.2.symm
    · exact (mS x h9).trans (cS x h9).symm
theorem tr_look {nu nu' nu2 : Nat → Nat → Nat} {sg sg' sg2 : Nat → Nat → Int32} {X : Nat × (Nat → Int32)} (cN : eqx [25] nu nu') (cS : eqx [26] sg sg') (c1 : nu' 25 0 = X.1) (c2 : sg' 26 = X.2) (mN : eqx [0, 25, 29] nu nu2) (mS : eqx [26, 30] sg sg2) (m1 : nu2 25 0 = X.1) (m2 : sg2 26 = X.2) : trP nu' nu2 sg' sg2 := by
  refine ⟨fun x hx => ?_, fun x hx => ?_, fun x hx => ?_⟩
  · simp only [List.mem_cons, List.not_mem_nil, or_false] at hx
    rcases hx with rfl | rfl | rfl | rfl
    · exact (mN 1 (by decide)).trans (cN 1 (by decide)).symm
    · exact (mN 9 (by decide)).trans (cN 9 (by decide)).symm
    · exact (mN 13 (by decide)).trans (cN 13 (by decide)).symm
    · exact (mN 23 (by decide)).trans (cN 23 (by decide)).symm
  · simp only [List.mem_cons, List.not_mem_nil, or_false] at hx
    rcases hx with rfl | rfl | rfl | rfl | rfl | rfl
    · exact congrFun ((mN 6 (by decide)).trans (cN 6 (by decide)).symm) 0
    · exact congrFun ((mN 7 (by decide)).trans (cN 7 (by decide)).symm) 0
    · exact congrFun ((mN 12 (by decide)).trans (cN 12 (by decide)).symm) 0
    · exact congrFun ((mN 15 (by decide)).trans (cN 15 (by decide)).symm) 0
    · exact congrFun ((mN 21 (by decide)).trans (cN 21 (by decide)).symm) 0
    · exact m1.trans c1.symm
  · by_cases h9 : x = 26
    · rw [h9]
      exact m2.trans c2.symm
    · exact (mS x (fun z => by simp only [List.mem_cons, List.not_mem_nil, or_false] at z; rcases z with z | z; exact h9 z; exact hx (by rw [z]; decide))).trans (cS x (fun z => h9 (List.mem_singleton.mp z))).symm
theorem ok_laid {nu nu2 : Nat → Nat → Nat} {sg sg2 : Nat → Nat → Int32} (h : okS nu sg) (mN : eqx [0, 1] nu nu2) (mS : eqx [2, 3, 4, 5] sg sg2) {r : Nat} {a b c d : Int32} (m1 : laidP nu nu2 sg sg2 r a b c d) (hr : r < 4 + nu 6 0) (hl : nu 1 r < 40) : okS nu2 sg2 := by
  obtain ⟨h1, h2, h3, h4, h5, h6, h7, h8, h9, h10, h11, h12, h13, h14, h15, h16, h17, h18⟩ := h
  unfold okS
  rw [mN 6 (by decide), mN 7 (by decide), mN 12 (by decide), mN 15 (by decide), mN 21 (by decide), mN 25 (by decide), mN 13 (by decide), mN 23 (by decide), mN 9 (by decide), mS 22 (by decide), mS 24 (by decide), mS 8 (by decide), mS 14 (by decide), m1.1]
  refine ⟨h1, h2, h3, h4, h5, h6, ?_, h8, h9, h10, h11, h12, h13, h14, ?_, h16, h17, h18⟩
  · intro z
    by_cases hz : z = r
    · rw [hz, va_up_self]
      exact hl
    · rw [va_up_ne _ _ hz]
      exact h7 z
  · intro f hf
    rw [va_up_ne _ _ (by omega)]
    exact h15 f hf
theorem ok_form {nu nu2 : Nat → Nat → Nat} {sg sg2 : Nat → Nat → Int32} (h : okS nu sg) (mN : eqx [0, 6] nu nu2) (mS : eqx [] sg sg2) (m1 : nu2 6 0 = nu 6 0 + 1) (hl : nu 6 0 < 20) : okS nu2 sg2 := by
  obtain ⟨h1, h2, h3, h4, h5, h6, h7, h8, h9, h10, h11, h12, h13, h14, h15, h16, h17, h18⟩ := h
  unfold okS
  rw [mN 7 (by decide), mN 12 (by decide), mN 15 (by decide), mN 21 (by decide), mN 25 (by decide), mN 1 (by decide), mN 13 (by decide), mN 23 (by decide), mN 9 (by decide), mS 22 (by decide), mS 24 (by decide), mS 8 (by decide), mS 14 (by decide), m1]
  refine ⟨?_, h2, h3, h4, h5, h6, h7, h8, h9, ?_, h11, h12, h13, h14, ?_, h16, h17, h18⟩
  · exact hl
  · intro u hu
    exact Nat.lt_succ_of_lt (h10 u hu)
  · intro f hf
    exact h15 f (by omega)
theorem ok_word {nu nu2 : Nat → Nat → Nat} {sg sg2 : Nat → Nat → Int32} (h : okS nu sg) (mN : eqx [0, 12] nu nu2) (mS : eqx [] sg sg2) (m1 : nu2 12 0 = nu 12 0 + 1) (hl : nu 12 0 < 4) : okS nu2 sg2 := by
  obtain ⟨h1, h2, h3, h4, h5, h6, h7, h8, h9, h10, h11, h12, h13, h14, h15, h16, h17, h18⟩ := h
  unfold okS
  rw [mN 6 (by decide), mN 7 (by decide), mN 15 (by decide), mN 21 (by decide), mN 25 (by decide), mN 1 (by decide), mN 13 (by decide), mN 23 (by decide), mN 9 (by decide), mS 22 (by decide), mS 24 (by decide), mS 8 (by decide), mS 14 (by decide), m1]
  refine ⟨h1, h2, ?_, h4, h5, h6, h7, h8, h9, h10, h11, h12, h13, ?_, h15, ?_, h17, h18⟩
  · exact hl
  · intro w hw j hj
    by_cases hz : w = nu 12 0
    · rw [hz, h16 _ (Nat.le_refl _)] at hj
      exact absurd hj (Nat.not_lt_zero j)
    · exact h14 w (by omega) j hj
  · intro w hw
    exact h16 w (by omega)
theorem ok_letter {nu nu2 : Nat → Nat → Nat} {sg sg2 : Nat → Nat → Int32} (h : okS nu sg) (mN : eqx [0, 13] nu nu2) (mS : eqx [14] sg sg2) {w : Nat} {co : Int32} (m1 : nu2 13 = va_up (nu 13) w (nu 13 w + 1) ∧ sg2 14 = va_up (sg 14) (8 * w + nu 13 w) co) (hw : w < nu 12 0) (hl : nu 13 w < 8) (hco : ¬ co = 0) : okS nu2 sg2 := by
  obtain ⟨h1, h2, h3, h4, h5, h6, h7, h8, h9, h10, h11, h12, h13, h14, h15, h16, h17, h18⟩ := h
  unfold okS
  rw [mN 6 (by decide), mN 7 (by decide), mN 12 (by decide), mN 15 (by decide), mN 21 (by decide), mN 25 (by decide), mN 1 (by decide), mN 23 (by decide), mN 9 (by decide), mS 22 (by decide), mS 24 (by decide), mS 8 (by decide), m1.1, m1.2]
  refine ⟨h1, h2, h3, h4, h5, h6, h7, ?_, h9, h10, h11, h12, h13, ?_, h15, ?_, h17, h18⟩
  · intro z
    by_cases hz : z = w
    · rw [hz, va_up_self]
      exact hl
    · rw [va_up_ne _ _ hz]
      exact h8 z
  · intro z hz j hj
    by_cases hq : 8 * z + j = 8 * w + nu 13 w
    · rw [hq, va_up_self]
      exact hco
    · rw [va_up_ne _ _ hq]
      by_cases hzw : z = w
      · rw [hzw] at hj ⊢
        rw [va_up_self] at hj
        rw [hzw] at hq
        exact h14 w hw j (by omega)
      · rw [va_up_ne _ _ hzw] at hj
        exact h14 z hz j hj
  · intro z hz
    rw [va_up_ne _ _ (by omega)]
    exact h16 z hz
theorem ok_area {nu nu2 : Nat → Nat → Nat} {sg sg2 : Nat → Nat → Int32} (h : okS nu sg) (mN : eqx [0, 15] nu nu2) (mS : eqx [16, 17, 18, 19, 20] sg sg2) (m1 : nu2 15 0 = nu 15 0 + 1) (hl : nu 15 0 < 8) : okS nu2 sg2 := by
  obtain ⟨h1, h2, h3, h4, h5, h6, h7, h8, h9, h10, h11, h12, h13, h14, h15, h16, h17, h18⟩ := h
  unfold okS
  rw [mN 6 (by decide), mN 7 (by decide), mN 12 (by decide), mN 21 (by decide), mN 25 (by decide), mN 1 (by decide), mN 13 (by decide), mN 23 (by decide), mN 9 (by decide), mS 22 (by decide), mS 24 (by decide), mS 8 (by decide), mS 14 (by decide), m1]
  refine ⟨h1, h2, h3, ?_, h5, h6, h7, h8, h9, h10, h11, h12, h13, h14, h15, h16, h17, h18⟩
  · exact hl
theorem ok_store {nu nu2 : Nat → Nat → Nat} {sg sg2 : Nat → Nat → Int32} (h : okS nu sg) (mN : eqx [0, 21] nu nu2) (mS : eqx [22] sg sg2) {en : Nat} (hen : en < 4) (m1 : nu2 21 0 = nu 21 0 + 1 ∧ sg2 22 = va_up (sg 22) (nu 21 0) (nI en)) (hl : nu 21 0 < 8) : okS nu2 sg2 := by
  obtain ⟨h1, h2, h3, h4, h5, h6, h7, h8, h9, h10, h11, h12, h13, h14, h15, h16, h17, h18⟩ := h
  unfold okS
  rw [mN 6 (by decide), mN 7 (by decide), mN 12 (by decide), mN 15 (by decide), mN 25 (by decide), mN 1 (by decide), mN 13 (by decide), mN 23 (by decide), mN 9 (by decide), mS 24 (by decide), mS 8 (by decide), mS 14 (by decide), m1.1, m1.2]
  refine ⟨h1, h2, h3, h4, ?_, h6, h7, h8, h9, h10, ?_, h12, h13, h14, h15, h16, ?_, h18⟩
  · exact hl
  · intro t ht
    by_cases hz : t = nu 21 0
    · rw [hz, va_up_self]
      exact ⟨en, hen, rfl⟩
    · rw [va_up_ne _ _ hz]
      exact h11 t (by omega)
  · intro t ht
    exact h17 t (by omega)
theorem ok_octet {nu nu2 : Nat → Nat → Nat} {sg sg2 : Nat → Nat → Int32} (h : okS nu sg) (mN : eqx [0, 23] nu nu2) (mS : eqx [24] sg sg2) {w : Nat} {b : Int32} (hb : byP b) (m1 : nu2 23 = va_up (nu 23) w (nu 23 w + 1) ∧ sg2 24 = va_up (sg 24) (60 * w + nu 23 w) (b &&& nI 255)) (hw : w < nu 21 0) (hl : nu 23 w < 60) : okS nu2 sg2 := by
  obtain ⟨h1, h2, h3, h4, h5, h6, h7, h8, h9, h10, h11, h12, h13, h14, h15, h16, h17, h18⟩ := h
  unfold okS
  rw [mN 6 (by decide), mN 7 (by decide), mN 12 (by decide), mN 15 (by decide), mN 21 (by decide), mN 25 (by decide), mN 1 (by decide), mN 13 (by decide), mN 9 (by decide), mS 22 (by decide), mS 8 (by decide), mS 14 (by decide), m1.1, m1.2]
  refine ⟨h1, h2, h3, h4, h5, h6, h7, h8, ?_, h10, h11, ?_, h13, h14, h15, h16, ?_, h18⟩
  · intro z
    by_cases hz : z = w
    · rw [hz, va_up_self]
      exact hl
    · rw [va_up_ne _ _ hz]
      exact h9 z
  · intro t
    by_cases hz : t = 60 * w + nu 23 w
    · rw [hz, va_up_self]
      exact by_ok hb
    · rw [va_up_ne _ _ hz]
      exact h12 t
  · intro t ht
    rw [va_up_ne _ _ (by omega)]
    exact h17 t ht
theorem ok_use {nu nu2 : Nat → Nat → Nat} {sg sg2 : Nat → Nat → Int32} (h : okS nu sg) (mN : eqx [0, 7, 9] nu nu2) (mS : eqx [8, 10, 11] sg sg2) {pg fo : Nat} {dx dy : Int32} (hpg : pg < 4) (hfo : fo < nu 6 0) (m1 : nu2 7 0 = nu 7 0 + 1 ∧ nu2 9 = va_up (nu 9) (nu 7 0) fo ∧ sg2 8 = va_up (sg 8) (nu 7 0) (nI pg) ∧ sg2 10 = va_up (sg 10) (nu 7 0) dx ∧ sg2 11 = va_up (sg 11) (nu 7 0) dy) (hl : nu 7 0 < 12) : okS nu2 sg2 := by
  obtain ⟨h1, h2, h3, h4, h5, h6, h7, h8, h9, h10, h11, h12, h13, h14, h15, h16, h17, h18⟩ := h
  unfold okS
  rw [mN 6 (by decide), mN 12 (by decide), mN 15 (by decide), mN 21 (by decide), mN 25 (by decide), mN 1 (by decide), mN 13 (by decide), mN 23 (by decide), mS 22 (by decide), mS 24 (by decide), mS 14 (by decide), m1.1, m1.2.1, m1.2.2.1]
  refine ⟨h1, ?_, h3, h4, h5, h6, h7, h8, h9, ?_, h11, h12, ?_, h14, h15, h16, h17, ?_⟩
  · exact hl
  · intro u hu
    by_cases hz : u = nu 7 0
    · rw [hz, va_up_self]
      exact hfo
    · rw [va_up_ne _ _ hz]
      exact h10 u (by omega)
  · intro u hu
    by_cases hz : u = nu 7 0
    · rw [hz, va_up_self]
      exact ⟨pg, hpg, rfl⟩
    · rw [va_up_ne _ _ hz]
      exact h13 u (by omega)
  · intro u
    by_cases hz : u = nu 7 0
    · rw [hz, va_up_self]
      omega
    · rw [va_up_ne _ _ hz]
      exact h18 u
theorem ok_look {nu nu2 : Nat → Nat → Nat} {sg sg2 : Nat → Nat → Int32} (h : okS nu sg) (mN : eqx [0, 25, 29] nu nu2) (mS : eqx [26, 30] sg sg2) (m1 : nu2 25 0 ≤ 100) : okS nu2 sg2 := by
  obtain ⟨h1, h2, h3, h4, h5, h6, h7, h8, h9, h10, h11, h12, h13, h14, h15, h16, h17, h18⟩ := h
  unfold okS
  rw [mN 6 (by decide), mN 7 (by decide), mN 12 (by decide), mN 15 (by decide), mN 21 (by decide), mN 1 (by decide), mN 13 (by decide), mN 23 (by decide), mN 9 (by decide), mS 22 (by decide), mS 24 (by decide), mS 8 (by decide), mS 14 (by decide)]
  refine ⟨h1, h2, h3, h4, h5, ?_, h7, h8, h9, h10, h11, h12, h13, h14, h15, h16, h17, h18⟩
  · exact m1
theorem cnt_sur {P : Nat → Prop} : ∀ {n j : Nat}, j < cnt P n → ∃ i, i < n ∧ P i ∧ cnt P i = j
  | 0, j, h => absurd h (Nat.not_lt_zero j)
  | n + 1, j, h => by
    by_cases he : P n
    · rw [cnt_t he] at h
      by_cases hz : j = cnt P n
      · exact ⟨n, by omega, he, hz.symm⟩
      · obtain ⟨i, h1, h2, h3⟩ := cnt_sur (P := P) (n := n) (j := j) (by omega)
        exact ⟨i, by omega, h2, h3⟩
    · rw [cnt_f he] at h
      obtain ⟨i, h1, h2, h3⟩ := cnt_sur (P := P) (n := n) (j := j) h
      exact ⟨i, by omega, h2, h3⟩
section BE
variable {nu nu' nu2 : Nat → Nat → Nat} {sg sg' sg2 : Nat → Nat → Int32}
/-- which row of the blacked out is which -/
theorem black_r (h : blackP nu sg nu' sg') {r : Nat} (hr : r < 4 + nu' 6 0) : r < 4 ∨ (∃ f, f < nu 6 0 ∧ r = 4 + f) ∨ ∃ u c, u < nu 7 0 ∧ hasU nu sg u ∧ CFp nu sg u c ∧ r = 4 + c := by
  obtain ⟨-, -, h6, -⟩ := h
  by_cases h1 : r < 4
  · exact Or.inl h1
  · by_cases h2 : r - 4 < nu 6 0
    · exact Or.inr (Or.inl ⟨r - 4, h2, by omega⟩)
    · obtain ⟨u, a, b, c⟩ := cnt_sur (P := newU nu sg) (n := nu 7 0) (j := r - 4 - nu 6 0) (by omega)
      refine Or.inr (Or.inr ⟨u, nu 6 0 + cnt (newU nu sg) u, a, b.1, CFp.self b, by omega⟩)
theorem rowCut.same {P : Nat → Prop} {r t j : Nat} (h : rowCut nu sg nu' sg' P r t) (h2 : rowCut nu sg nu2 sg2 P r t) (hj : j < nu' 1 t) : sg2 2 (40 * t + j) = sg' 2 (40 * t + j) ∧ sg2 3 (40 * t + j) = sg' 3 (40 * t + j) ∧ sg2 4 (40 * t + j) = sg' 4 (40 * t + j) ∧ sg2 5 (40 * t + j) = sg' 5 (40 * t + j) := by
  rw [h.1] at hj
  obtain ⟨i, a, b, rfl⟩ := kp_sur hj
  obtain ⟨c1, c2, c3, c4⟩ := h.2 i a b
  obtain ⟨d1, d2, d3, d4⟩ := h2.2 i a b
  exact ⟨d1.trans c1.symm, d2.trans c2.symm, d3.trans c3.symm, d4.trans c4.symm⟩
theorem rowSame.same {r j : Nat} (h : rowSame nu sg nu' sg' r) (h2 : rowSame nu sg nu2 sg2 r) (hj : j < 40) : sg2 2 (40 * r + j) = sg' 2 (40 * r + j) ∧ sg2 3 (40 * r + j) = sg' 3 (40 * r + j) ∧ sg2 4 (40 * r + j) = sg' 4 (40 * r + j) ∧ sg2 5 (40 * r + j) = sg' 5 (40 * r + j) := by
  obtain ⟨c1, c2, c3, c4⟩ := h.2 j hj
  obtain ⟨d1, d2, d3, d4⟩ := h2.2 j hj
  exact ⟨d1.trans c1.symm, d2.trans c2.symm, d3.trans c3.symm, d4.trans c4.symm⟩
theorem stoCut.same {en t : Nat} (h : stoCut nu sg nu' sg' en t) (h2 : stoCut nu sg nu2 sg2 en t) : nu2 23 t = nu' 23 t ∧ ∀ j, j < nu' 23 t → sg2 24 (60 * t + j) = sg' 24 (60 * t + j) := by
  by_cases hw : wellP (sg 24) en (60 * t) (nu 23 t)
  · obtain ⟨a, b⟩ := h.1 hw
    obtain ⟨a2, b2⟩ := h2.1 hw
    refine ⟨a2.trans a.symm, fun j hj => ?_⟩
    rw [a] at hj
    obtain ⟨y, hy, hc⟩ := stI_in hj
    obtain ⟨i, c1, c2, rfl⟩ := kp_sur hy
    obtain ⟨e1, e2⟩ := b i c1 c2
    obtain ⟨f1, f2⟩ := b2 i c1 c2
    rcases hc with rfl | ⟨hne, rfl⟩
    · exact f1.trans e1.symm
    · rw [← Nat.add_assoc]
      exact (f2 hne).trans (e2 hne).symm
  · have a := h.2 hw
    refine ⟨(h2.2 hw).trans a.symm, fun j hj => ?_⟩
    rw [a] at hj
    exact absurd hj (Nat.not_lt_zero j)
theorem black_eq (h40 : ∀ r, nu 1 r ≤ 40) (h : blackP nu sg nu' sg') (h2 : blackP nu sg nu2 sg2) : (∀ k, rng nu2 k = rng nu' k) ∧ ∀ k i, i < rng nu' k → eqK nu' nu2 sg' sg2 k i := by
  obtain ⟨hN, hS, h6, hpg, hfo, hcu, hrs, huf, huo, hst, hso⟩ := id h
  obtain ⟨gN, gS, g6, gpg, gfo, gcu, grs, guf, guo, gst, gso⟩ := id h2
  have e6 : nu2 6 0 = nu' 6 0 := g6.trans h6.symm
  have eN : ∀ x, x ∉ [0, 1, 6, 9, 23, 29] → nu2 x = nu' x := fun x hx => (gN x hx).trans (hN x hx).symm
  have eS : ∀ x, x ∉ [2, 3, 4, 5, 24, 27, 28, 30, 31] → sg2 x = sg' x := fun x hx => (gS x hx).trans (hS x hx).symm
  have hl : ∀ i, ln nu2 i = ln nu' i := by
    intro i
    unfold ln
    rw [e6, eN 7 (by decide), eN 12 (by decide), eN 15 (by decide), eN 21 (by decide)]
  have e1 : ∀ r, r < 4 + nu' 6 0 → nu2 1 r = nu' 1 r := by
    intro r hr
    rcases black_r h hr with z | ⟨f, z1, rfl⟩ | ⟨u, c, z1, z2, z3, rfl⟩
    · exact (gpg r z).1.trans (hpg r z).1.symm
    · exact (gfo f z1).1.trans (hfo f z1).1.symm
    · exact (gcu u z1 z2 c z3).1.trans (hcu u z1 z2 c z3).1.symm
  refine ⟨fun k => ?_, fun k i hi => ?_⟩
  · unfold rng
    rw [e6, eN 7 (by decide), eN 12 (by decide), eN 15 (by decide), eN 21 (by decide)]
  · match k, hi with
    | 0, _ => exact hl i
    | 1, _ => exact hl i
    | 2, hi => exact e1 i hi
    | 3, hi =>
      refine ⟨e1 i hi, fun j hj => ?_⟩
      rcases black_r h hi with z | ⟨f, z1, rfl⟩ | ⟨u, c, z1, z2, z3, rfl⟩
      · exact (hpg i z).same (gpg i z) hj
      · have := h40 (4 + f)
        have q := (hfo f z1).1
        exact (hfo f z1).same (gfo f z1) (by omega)
      · exact (hcu u z1 z2 c z3).same (gcu u z1 z2 c z3) hj
    | 4, hi =>
      have hi : i < nu' 7 0 := hi
      have e7 : nu' 7 0 = nu 7 0 := congrFun (hN 7 (by decide)) 0
      refine ⟨congrFun (eS 8 (by decide)) _, congrFun (eS 10 (by decide)) _, congrFun (eS 11 (by decide)) _, ?_⟩
      by_cases hu : hasU nu sg i
      · exact ((guf i (by omega)).1 hu).uniq ((huf i (by omega)).1 hu)
      · exact ((guf i (by omega)).2 hu).trans ((huf i (by omega)).2 hu).symm
    | 5, _ => exact congrFun (eN 13 (by decide)) i
    | 6, _ => exact ⟨congrFun (eN 13 (by decide)) i, fun j _ => congrFun (eS 14 (by decide)) _⟩
    | 7, _ => exact ⟨congrFun (eS 16 (by decide)) _, congrFun (eS 17 (by decide)) _, congrFun (eS 18 (by decide)) _, congrFun (eS 19 (by decide)) _, congrFun (eS 20 (by decide)) _⟩
    | 8, hi =>
      have hi : i < nu' 21 0 := hi
      have e21 : nu' 21 0 = nu 21 0 := congrFun (hN 21 (by decide)) 0
      exact ⟨congrFun (eS 22 (by decide)) _, ((hst i (by omega)).same (gst i (by omega))).1⟩
    | 9, hi =>
      have hi : i < nu' 21 0 := hi
      have e21 : nu' 21 0 = nu 21 0 := congrFun (hN 21 (by decide)) 0
      exact (hst i (by omega)).same (gst i (by omega))
    | 10, _ => exact congrFun (eN 25 (by decide)) 0
    | 11, _ => exact eS 26 (by decide)
    | 12, _ => exact trivial
    | 13, _ => exact trivial
    | 14, _ => exact trivial
    | _ + 15, hi => exact absurd hi (Nat.not_lt_zero _)
theorem ok_black (h : okS nu sg) (h2 : blackP nu sg nu2 sg2) (hk : blackK nu sg = 0) (hb : ∀ j, okB (sg2 24 j)) : okS nu2 sg2 := by
  obtain ⟨h1, h2', h3, h4, h5, h6, h7, h8, h9, h10, h11, h12, h13, h14, h15, h16, h17, h18⟩ := h
  obtain ⟨gN, gS, g6, gpg, gfo, gcu, grs, guf, guo, gst, gso⟩ := id h2
  have hcap : nu 6 0 + cnt (newU nu sg) (nu 7 0) ≤ 20 := by
    refine Classical.byContradiction (fun z => ?_)
    rw [blackK, kt_t (by omega)] at hk
    cases hk
  have hfm : ∀ u, u < nu 7 0 → nu2 9 u < nu2 6 0 := by
    intro u hu
    by_cases hh : hasU nu sg u
    · have := (((guf u hu).1 hh).lt hu).2
      omega
    · rw [(guf u hu).2 hh]
      have := h10 u hu
      omega
  have hfm2 := hfm
  unfold okS
  rw [gN 7 (by decide), gN 12 (by decide), gN 15 (by decide), gN 21 (by decide), gN 25 (by decide), gN 13 (by decide), gS 22 (by decide), gS 8 (by decide), gS 14 (by decide)]
  refine ⟨by omega, h2', h3, h4, h5, h6, ?_, h8, ?_, hfm, h11, hb, h13, h14, ?_, h16, ?_, ?_⟩
  · intro r
    by_cases hr : r < 4 + nu2 6 0
    · rcases black_r h2 hr with z | ⟨f, z1, rfl⟩ | ⟨u, c, z1, z2, z3, rfl⟩
      · rw [(gpg r z).1]
        exact Nat.le_trans (kp_le _ _) (h7 r)
      · rw [(gfo f z1).1]
        exact h7 _
      · rw [(gcu u z1 z2 c z3).1]
        exact Nat.le_trans (kp_le _ _) (h7 _)
    · rw [grs r (by omega)]
      exact h7 r
  · intro t
    by_cases ht : t < nu 21 0
    · by_cases hw : wellP (sg 24) (cN (sg 22 t)) (60 * t) (nu 23 t)
      · rw [((gst t ht).1 hw).1]
        exact Nat.le_trans (stI_le (kp_le _ _)) (h9 t)
      · rw [(gst t ht).2 hw]
        exact Nat.zero_le _
    · rw [gso t (by omega)]
      exact h9 t
  · intro f hf
    rw [grs (4 + f) (by omega)]
    exact h15 f (by omega)
  · intro t ht
    rw [gso t ht]
    exact h17 t ht
  · intro u
    by_cases hu : u < nu 7 0
    · have := hfm2 u hu
      omega
    · rw [guo u (by omega)]
      exact h18 u
end BE
theorem kt_le3 {c : Prop} {a b : Nat} (ha : a ≤ 3) (hb : b ≤ 3) : kt c a b ≤ 3 := by
  by_cases h : c
  · rw [kt_t h]
    exact ha
  · rw [kt_f h]
    exact hb