/-! a list grows by one -/
def adN (ad : Nat → Nat → Nat) (k0 el K K2 ix q pa : Nat) : Nat → Nat → Nat := fun k i => if k = 1 ∧ i = k0 then el else if k = K ∧ i = ix then q else if k = K2 ∧ i = ix then pa else ad k i
def ciL (k : Nat) : Nat := match k with
  | 0 => 1
  | 1 => 1
  | 2 => 5
  | 3 => 3
  | 4 => 4
  | _ => 6
section AN
variable {ad : Nat → Nat → Nat} {k0 el K K2 ix q pa : Nat}
theorem adN_1 : adN ad k0 el K K2 ix q pa 1 k0 = el := by unfold adN; rw [if_pos ⟨rfl, rfl⟩]
theorem adN_K (hK : 2 ≤ K) : adN ad k0 el K K2 ix q pa K ix = q := by unfold adN; rw [if_neg (fun z => by omega), if_pos ⟨rfl, rfl⟩]
theorem adN_K2 (hK : 2 ≤ K2) (hne : K2 ≠ K) : adN ad k0 el K K2 ix q pa K2 ix = pa := by unfold adN; rw [if_neg (fun z => by omega), if_neg (fun z => hne z.1), if_pos ⟨rfl, rfl⟩]
theorem adN_o {k i : Nat} (h1 : ¬ (k = 1 ∧ i = k0)) (h2 : ¬ (k = K ∧ i = ix)) (h3 : ¬ (k = K2 ∧ i = ix)) : adN ad k0 el K K2 ix q pa k i = ad k i := by unfold adN; rw [if_neg h1, if_neg h2, if_neg h3]
end AN
theorem h1' : ∀ (k i k0 : Nat), ¬ (k = 0 ∧ i = k0) → ¬ (k = 1 ∧ i = k0) → k ≤ 1 → i = k0 → False := by
  intro k i k0 h0 h1 hk z
  have : k = 0 ∨ k = 1 := by omega
  rcases this with y | y
  · exact h0 ⟨y, z⟩
  · exact h1 ⟨y, z⟩
section CG
variable {G : xT} {M M' : xMem} {fz : Nat} {ad : Nat → Nat → Nat} {nu nu' : Nat → Nat → Nat} {sg sg' : Nat → Nat → Int32}
theorem cRep.elC (h : cRep G M fz ad nu sg) {k j : Nat} (hk : k < 6) (hj : j < ln nu k) : ∃ fs, M (elA ad k j) = some (.inr (ciL k, fs)) := by
  match k, hk, hj with
  | 0, _, hj => exact ⟨_, h.row (r := j) (Nat.lt_of_lt_of_le hj (Nat.le_add_right 4 _))⟩
  | 1, _, hj => exact ⟨_, h.row (r := 4 + j) (Nat.add_lt_add_left hj 4)⟩
  | 2, _, hj =>
    obtain ⟨mk0, tw, z⟩ := h.us (u := j) hj
    exact ⟨_, z⟩
  | 3, _, hj => exact ⟨_, h.wo (w := j) hj⟩
  | 4, _, hj => exact ⟨_, h.ar (a := j) hj⟩
  | 5, _, hj => exact ⟨_, h.so (t := j) hj⟩
  | _ + 6, hk, _ => omega
theorem cRep.grow (h : cRep G M fz ad nu sg) (hfm : ∀ u, u < nu 7 0 → nu 9 u < nu 6 0) {k0 K K2 ix q pa el' cap' : Nat} {f' : Nat → Option Nat} {mc : Int32} (hk0 : k0 < 6) (hK : 2 ≤ K) (hK13 : K ≠ 13) (hK2 : 2 ≤ K2) (hK213 : K2 ≠ 13) (hz9 : M' fz = none)
    (fr : xfr M M' [ad 0 k0, el']) (hq : M q = none) (hpa : M pa = none) (hel : el' = ad 1 k0 ∨ M el' = none) (hfz : el' ≠ fz)
    (hla : M' (ad 0 k0) = some (.inr (8, [.ref el', .int (nI (ln nu k0 + 1)), .int mc]))) (hea : M' el' = some (.inl (G.2.1 3, cap', .inr (.inr (.inr (.inr f')))))) (hcap : ln nu k0 < cap') (hcp : capP fz el' cap') (hpre : ∀ j, j < ln nu k0 → f' j = some (elA ad k0 j)) (hlast : f' (ln nu k0) = some q)
    (hln : ln nu' k0 = ln nu k0 + 1) (hrg : ∀ k i, i < rng nu' k → i < rng nu k ∨ ((k = K ∨ k = K2) ∧ i = ix)) (hix : ¬ ix < rng nu K) (hix2 : ¬ ix < rng nu K2) (hel2 : elA (adN ad k0 el' K K2 ix q pa) k0 (ln nu k0) = q)
    (hnK : ∃ e, M' (adN ad k0 el' K K2 ix q pa K ix) = some e ∧ okE G fz (adN ad k0 el' K K2 ix q pa) nu' sg' K ix e) (hnK2 : ∃ e, M' (adN ad k0 el' K K2 ix q pa K2 ix) = some e ∧ okE G fz (adN ad k0 el' K K2 ix q pa) nu' sg' K2 ix e)
    (heq : ∀ k i, i < rng nu k → ¬ (k ≤ 1 ∧ i = k0) → eqK nu nu' sg sg' k i) :
    cRep G M' fz (adN ad k0 el' K K2 ix q pa) nu' sg' ∧ ∀ a, own (adN ad k0 el' K K2 ix q pa) nu' a → own ad nu a ∨ M a = none := by
  have hA : ∀ k i, i < rng nu k → k ≠ 1 → adN ad k0 el' K K2 ix q pa k i = ad k i := by
    intro k i hi hk
    refine adN_o (fun z => hk z.1) (fun z => ?_) (fun z => ?_)
    · rw [z.1, z.2] at hi
      exact hix hi
    · rw [z.1, z.2] at hi
      exact hix2 hi
  have hel1 : ∀ j, j < ln nu k0 → elA (adN ad k0 el' K K2 ix q pa) k0 j = elA ad k0 j := by
    intro j hj
    generalize adN ad k0 el' K K2 ix q pa = ad' at hA
    match k0, hk0, hj with
    | 0, _, hj => exact hA 2 j (show j < 4 + nu 6 0 from Nat.lt_of_lt_of_le hj (Nat.le_add_right 4 _)) (by decide)
    | 1, _, hj => exact hA 2 (4 + j) (Nat.add_lt_add_left hj 4) (by decide)
    | 2, _, hj => exact hA 4 j hj (by decide)
    | 3, _, hj => exact hA 5 j hj (by decide)
    | 4, _, hj => exact hA 7 j hj (by decide)
    | 5, _, hj => exact hA 8 j hj (by decide)
    | _ + 6, hk, _ => omega
  have hv : ∀ k i, i < rng nu' k → (i < rng nu k ∧ adN ad k0 el' K K2 ix q pa k i = ad k i) ∨ (i = (fun k => if k = 1 then k0 else ix) k ∧ M (adN ad k0 el' K K2 ix q pa k i) = none ∧ adN ad k0 el' K K2 ix q pa k i ≠ fz) := by
    intro k i hi
    by_cases h1 : k = 1 ∧ i = k0
    · obtain ⟨rfl, rfl⟩ := h1
      rw [adN_1]
      rcases hel with z | z
      · exact Or.inl ⟨hk0, z⟩
      · exact Or.inr ⟨rfl, z, hfz⟩
    · by_cases h2 : k = K ∧ i = ix
      · obtain ⟨rfl, rfl⟩ := h2
        refine Or.inr ⟨?_, by rw [adN_K hK]; exact hq, by obtain ⟨e9, he9, _⟩ := hnK; exact x_neN he9 hz9⟩
        show i = if k = 1 then k0 else i
        rw [if_neg (by omega)]
      · by_cases h3 : k = K2 ∧ i = ix
        · obtain ⟨rfl, rfl⟩ := h3
          refine Or.inr ⟨?_, by rw [adN_K2 hK2 (fun z => h2 ⟨z, rfl⟩)]; exact hpa, by obtain ⟨e9, he9, _⟩ := hnK2; exact x_neN he9 hz9⟩
          show i = if k = 1 then k0 else i
          rw [if_neg (by omega)]
        · refine Or.inl ⟨?_, adN_o h1 h2 h3⟩
          rcases hrg k i hi with z | ⟨z | z, z2⟩
          · exact z
          · exact absurd ⟨z, z2⟩ h2
          · exact absurd ⟨z, z2⟩ h3
  refine ⟨h.next (S := [ad 0 k0, el']) fr hz9 (fun k => if k = 1 then k0 else ix) (hA 13 0 Nat.zero_lt_one (by decide)) hv ?_, ?_⟩
  · intro k i hi
    by_cases h0 : k = 0 ∧ i = k0
    · obtain ⟨rfl, rfl⟩ := h0
      refine Or.inr ⟨_, by rw [hA 0 i hk0 (by decide)]; exact hla, mc, ?_⟩
      rw [adN_1, hln]
    · by_cases h1 : k = 1 ∧ i = k0
      · obtain ⟨rfl, rfl⟩ := h1
        refine Or.inr ⟨_, by rw [adN_1]; exact hea, cap', f', rfl, by rw [hln]; exact hcap, by rw [adN_1]; exact hcp, fun j hj => ?_⟩
        rw [hln] at hj
        by_cases hz : j = ln nu i
        · rw [hz, hel2]
          exact hlast
        · rw [hel1 j (by omega)]
          exact hpre j (by omega)
      · by_cases h2 : k = K ∧ i = ix
        · obtain ⟨rfl, rfl⟩ := h2
          exact Or.inr hnK
        · by_cases h3 : k = K2 ∧ i = ix
          · obtain ⟨rfl, rfl⟩ := h3
            exact Or.inr hnK2
          · have hi' : i < rng nu k := by
              rcases hrg k i hi with z | ⟨z | z, z2⟩
              · exact z
              · exact absurd ⟨z, z2⟩ h2
              · exact absurd ⟨z, z2⟩ h3
            refine Or.inl ⟨hi', adN_o h1 h2 h3, fun z => ?_, (fun z => by subst z; exact heq 1 i hi' (fun y => h1 ⟨rfl, y.2⟩)), fun e he => okE_k hi' hA (fun hk => adN_o (fun z => h1' k i k0 h0 h1 hk z.2) (by omega) (by omega)) hfm (heq k i hi' (fun z => h1' k i k0 h0 h1 z.1 z.2)) he⟩
            rcases List.mem_cons.mp z with z | z
            · have := h.inj (k' := 0) hi' hk0 z
              rcases this.2 with y | y
              · exact h0 ⟨this.1, y⟩
              · omega
            · have z := List.mem_singleton.mp z
              rcases hel with y | y
              · have := h.inj (k' := 1) hi' hk0 (z.trans y)
                rcases this.2 with w | w
                · exact h1 ⟨this.1, w⟩
                · exact hfz (z.symm.trans w.2)
              · rcases h.nz hi' with w | w
                · exact hfz (z.symm.trans w)
                · rw [z] at w
                  exact w y
  · rintro a ⟨k, i, hi, rfl⟩
    rcases hv k i hi with ⟨z1, z2⟩ | ⟨_, z, _⟩
    · exact Or.inl ⟨k, i, z1, z2⟩
    · exact Or.inr z
end CG
