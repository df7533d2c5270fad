theorem c_add (l : Launch) (G : xT) (M : xMem) (sz : Nat) (fz : Nat) (ad : Nat → Nat → Nat) (nu : Nat → Nat → Nat) (sg : Nat → Nat → Int32) (M0 : xMem) (hR : cRep G M0 fz ad nu sg) (hV : xfr M0 M []) (k0 : Nat) (hk0 : k0 < 6) (hn2 : ln nu k0 < 22) (N : Nat) (C : String) (T : u_T) (hc : classes[ciL k0]? = some (C, T, N)) (hca : Cond.castable C "java/lang/Object" ∈ x_tbl) (v : Nat) (fsv : List Value) (h_v : M v = some (.inr (ciL k0, fsv))) : xMet l G y_AL_add (Cond.code y_AL_add b_AL_add 2 (Option.some Jvm.ClassFile.FieldType.boolean) :: x_tbl) { frames := 6, cells := 1, slots := 22, locals := 151 } [.ref (ad 0 k0), .ref v] M sz (fun u M' => u = some (.int (nI 1)) ∧ ∃ el' cap', ∃ f' : Nat → Option Nat, ∃ mc' : Int32, M' (ad 0 k0) = some (.inr (8, [.ref el', .int (nI (ln nu k0 + 1)), .int mc'])) ∧ M' el' = some (.inl (G.2.1 3, cap', .inr (.inr (.inr (.inr f'))))) ∧ ln nu k0 < cap' ∧ capP fz el' cap' ∧ (∀ j, j < ln nu k0 → f' j = some (elA ad k0 j)) ∧ f' (ln nu k0) = some v ∧ (el' = ad 1 k0 ∨ M0 el' = none) ∧ el' ≠ fz ∧ xfr M M' [ad 0 k0, el'] ∧ (∀ k i, i < rng nu k → k ≠ 1 → ¬ (k ≤ 1 ∧ i = k0) → M' (ad k i) = M0 (ad k i)) ∧ (∀ a e, M a = some e → M0 a = none → M' a = some e) ∧ xfr M0 M' [ad 0 k0, el']) (fun _ _ => False) := by
  obtain ⟨mc, h_la0⟩ := hR.la hk0
  obtain ⟨cap, f, h_el0, h1, h2, h3⟩ := hR.el hk0
  have h_la := hV.get h_la0 (by simp)
  have h_el := fun z => hV.get (h_el0 z) (by simp)
  have hci : ciL k0 ≠ 8 := by
    match k0, hk0 with
    | 0, _ | 1, _ | 2, _ | 3, _ | 4, _ | 5, _ => decide
  have hvl : v ≠ ad 0 k0 := x_ne h_v h_la (x_ne8 hci _)
  have hel : elP M (ciL k0) (ln nu k0) f := by
    intro i hi
    obtain ⟨fs, hfs⟩ := hR.elC hk0 hi
    exact ⟨_, fs, h3 i hi, hV.get hfs (by simp)⟩
  refine xMet.wk (c_AL_add l G M sz (ad 0 k0) (ad 1 k0) fz (ln nu k0) cap mc f (ciL k0) N C T hc hca hci hR.1 h1 hn2 h2 hR.2.1.1 hel h_la h_el v fsv hvl h_v) ?_ (fun _ _ z => z)
  rintro u M' ⟨g1, el', cap', f', g2, g3, g4, g5, g6, g7, g8, hne, g9⟩
  have g8' : el' = ad 1 k0 ∨ M0 el' = none := by
    rcases g8 with y | y
    · exact Or.inl y.1
    · exact Or.inr (hV.none y)
  have hfresh : ∀ a e, M a = some e → M0 a = none → M' a = some e := by
    intro a e ha h0
    refine g9.get ha (fun z => ?_)
    rcases List.mem_cons.mp z with z | z
    · rw [z, h_la0] at h0
      cases h0
    · have z := List.mem_singleton.mp z
      rcases g8 with y | y
      · rw [z, y.1, h_el0 (by omega)] at h0
        cases h0
      · rw [z, y] at ha
        cases ha
  refine ⟨g1, el', cap', f', _, g2, g3, g4, g5, fun j hj => (g6 j hj).trans (h3 j hj), g7, g8', hne, g9, fun k i hi hkk hk => ?_, hfresh, (hV.wide (by simp)).trans g9 (fun q hq => Or.inl hq)⟩
  have hns : ad k i ∉ [ad 0 k0, el'] := by
    intro z
    rcases List.mem_cons.mp z with z | z
    · have y := hR.inj (k' := 0) hi hk0 z
      rcases y.2 with w | w
      · exact hk ⟨by omega, w⟩
      · omega
    · have z := List.mem_singleton.mp z
      rcases g8' with w | w
      · have y := hR.inj (k' := 1) hi hk0 (z.trans w)
        rcases y.2 with x | x
        · exact hk ⟨by omega, x⟩
        · exact hne (z.symm.trans x.2)
      · rcases hR.nz hi with x | x
        · exact hne (z.symm.trans x)
        · rw [z] at x
          exact x w
  cases he : M0 (ad k i) with
  | some e => exact g9.get (hV.get he (by simp)) hns
  | none => exact absurd he (hR.nn hi hkk)
theorem form_ok {G : xT} {M M' : xMem} {fz : Nat} {ad : Nat → Nat → Nat} {nu nu' : Nat → Nat → Nat} {sg sg' : Nat → Nat → Int32} {q pa el' cap' : Nat} {f' : Nat → Option Nat} {mc : Int32} (h : cRep G M fz ad nu sg) (hz9 : M' fz = none) (hfm : ∀ u, u < nu 7 0 → nu 9 u < nu 6 0) (fr : xfr M M' [ad 0 1, el']) (hq : M q = none) (hpa : M pa = none) (hel : el' = ad 1 1 ∨ M el' = none) (hfz : el' ≠ fz)
    (hla : M' (ad 0 1) = some (.inr (8, [.ref el', .int (nI (ln nu 1 + 1)), .int mc]))) (hea : M' el' = some (.inl (G.2.1 3, cap', .inr (.inr (.inr (.inr f')))))) (hcap : ln nu 1 < cap') (hcp : capP fz el' cap') (hpre : ∀ j, j < ln nu 1 → f' j = some (elA ad 1 j)) (hlast : f' (ln nu 1) = some q)
    (hN : eqx [0, 6] nu nu') (hS : eqx [] sg sg') (hx : nu' 6 0 = nu 6 0 + 1) (h0 : nu 1 (4 + nu 6 0) = 0) (h_q : M' q = some (.inr (1, [.int (nI (nu 6 0)), .ref pa, .int (nI 0)]))) (h_pa : M' pa = some (.inl (G.2.1 0, 160, .inl (fun _ => nI 0)))) : cRep G M' fz (adN ad 1 el' 2 3 (4 + nu 6 0) q pa) nu' sg' ∧ ∀ a, own (adN ad 1 el' 2 3 (4 + nu 6 0) q pa) nu' a → own ad nu a ∨ M a = none := by
  have e : ∀ x, x ∉ [0, 6] → nu' x 0 = nu x 0 := fun x hx => congrFun (hN x hx) 0
  have hrg : ∀ k i, i < rng nu' k → i < rng nu k ∨ ((k = 2 ∨ k = 3) ∧ i = 4 + nu 6 0) := fun k i hi => match k, hi with
  | 0, hi => Or.inl hi
  | 1, hi => Or.inl hi
  | 2, hi => by
    have hi : i < 4 + nu' 6 0 := hi
    rw [hx] at hi
    by_cases hz : i = 4 + nu 6 0
    · exact Or.inr ⟨Or.inl rfl, hz⟩
    · exact Or.inl (show i < 4 + nu 6 0 by omega)
  | 3, hi => by
    have hi : i < 4 + nu' 6 0 := hi
    rw [hx] at hi
    by_cases hz : i = 4 + nu 6 0
    · exact Or.inr ⟨Or.inr rfl, hz⟩
    · exact Or.inl (show i < 4 + nu 6 0 by omega)
  | 4, hi => Or.inl (show i < nu 7 0 by rw [← e 7 (by decide)]; exact hi)
  | 5, hi => Or.inl (show i < nu 12 0 by rw [← e 12 (by decide)]; exact hi)
  | 6, hi => Or.inl (show i < nu 12 0 by rw [← e 12 (by decide)]; exact hi)
  | 7, hi => Or.inl (show i < nu 15 0 by rw [← e 15 (by decide)]; exact hi)
  | 8, hi => Or.inl (show i < nu 21 0 by rw [← e 21 (by decide)]; exact hi)
  | 9, hi => Or.inl (show i < nu 21 0 by rw [← e 21 (by decide)]; exact hi)
  | 10, hi => Or.inl hi
  | 11, hi => Or.inl hi
  | 12, hi => Or.inl hi
  | 13, hi => Or.inl hi
  | 14, hi => Or.inl hi
  | _ + 15, hi => absurd hi (Nat.not_lt_zero _)
  refine h.grow hfm (k0 := 1) (K := 2) (K2 := 3) (ix := 4 + nu 6 0) (q := q) (pa := pa) (by decide) (by decide) (by decide) (by decide) (by decide) hz9 fr hq hpa hel hfz hla hea hcap hcp hpre hlast hx hrg (Nat.lt_irrefl _) (Nat.lt_irrefl _) (adN_K (by decide)) ?_ ?_ ?_
  · rw [adN_K (by decide)]
    refine ⟨_, h_q, ?_⟩
    show _ = _
    rw [nmb_4, adN_K2 (by decide) (by decide), congrFun (hN 1 (by decide)) _, h0]
  · rw [adN_K2 (by decide) (by decide)]
    refine ⟨_, h_pa, _, rfl, fun j hj => ?_⟩
    rw [congrFun (hN 1 (by decide)) _, h0] at hj
    exact absurd hj (Nat.not_lt_zero _)
  · intro k i hi hk
    have hln : i ≠ 1 → i < 6 → ln nu' i = ln nu i := by
      intro h2 h1
      match i, h1, h2 with
      | 0, _, _ => rfl
      | 1, _, h2 => exact absurd rfl h2
      | 2, _, _ => exact e 7 (by decide)
      | 3, _, _ => exact e 12 (by decide)
      | 4, _, _ => exact e 15 (by decide)
      | 5, _, _ => exact e 21 (by decide)
      | _ + 6, h1, _ => omega
    by_cases h0 : k ≤ 1
    · have h2 : i ≠ 1 := fun z => hk ⟨h0, z⟩
      have : k = 0 ∨ k = 1 := by omega
      rcases this with rfl | rfl
      · exact hln h2 hi
      · exact hln h2 hi
    have hk15 := rng_k hi
    refine eqK_of (fun x hx => hN x ?_) (fun x hx => hS x ?_)
    · have hz : ∀ k, k < 15 → ¬ (k ≤ 1 ∨ k = 99) → ∀ x ∈ depN k, x ∉ [0, 6] := by decide
      exact hz k hk15 (by omega) x hx
    · have hz : ∀ k, k < 15 → ¬ (k ≤ 1 ∨ k = 99) → ∀ x ∈ depS k, x ∉ [] := by decide
      exact hz k hk15 (by omega) x hx
theorem word_ok {G : xT} {M M' : xMem} {fz : Nat} {ad : Nat → Nat → Nat} {nu nu' : Nat → Nat → Nat} {sg sg' : Nat → Nat → Int32} {q pa el' cap' : Nat} {f' : Nat → Option Nat} {mc : Int32} (h : cRep G M fz ad nu sg) (hz9 : M' fz = none) (hfm : ∀ u, u < nu 7 0 → nu 9 u < nu 6 0) (fr : xfr M M' [ad 0 3, el']) (hq : M q = none) (hpa : M pa = none) (hel : el' = ad 1 3 ∨ M el' = none) (hfz : el' ≠ fz)
    (hla : M' (ad 0 3) = some (.inr (8, [.ref el', .int (nI (ln nu 3 + 1)), .int mc]))) (hea : M' el' = some (.inl (G.2.1 3, cap', .inr (.inr (.inr (.inr f')))))) (hcap : ln nu 3 < cap') (hcp : capP fz el' cap') (hpre : ∀ j, j < ln nu 3 → f' j = some (elA ad 3 j)) (hlast : f' (ln nu 3) = some q)
    (hN : eqx [0, 12] nu nu') (hS : eqx [] sg sg') (hx : nu' 12 0 = nu 12 0 + 1) (h0 : nu 13 (nu 12 0) = 0) (h_q : M' q = some (.inr (3, [.int (nI 0), .ref pa]))) (h_pa : M' pa = some (.inl (G.2.1 0, 8, .inl (fun _ => nI 0)))) : cRep G M' fz (adN ad 3 el' 5 6 (nu 12 0) q pa) nu' sg' ∧ ∀ a, own (adN ad 3 el' 5 6 (nu 12 0) q pa) nu' a → own ad nu a ∨ M a = none := by
  have e : ∀ x, x ∉ [0, 12] → nu' x 0 = nu x 0 := fun x hx => congrFun (hN x hx) 0
  have hrg : ∀ k i, i < rng nu' k → i < rng nu k ∨ ((k = 5 ∨ k = 6) ∧ i = nu 12 0) := fun k i hi => match k, hi with
  | 0, hi => Or.inl hi
  | 1, hi => Or.inl hi
  | 2, hi => Or.inl (show i < 4 + nu 6 0 by rw [← e 6 (by decide)]; exact hi)
  | 3, hi => Or.inl (show i < 4 + nu 6 0 by rw [← e 6 (by decide)]; exact hi)
  | 4, hi => Or.inl (show i < nu 7 0 by rw [← e 7 (by decide)]; exact hi)
  | 5, hi => by
    have hi : i < nu' 12 0 := hi
    rw [hx] at hi
    by_cases hz : i = nu 12 0
    · exact Or.inr ⟨Or.inl rfl, hz⟩
    · exact Or.inl (show i < nu 12 0 by omega)
  | 6, hi => by
    have hi : i < nu' 12 0 := hi
    rw [hx] at hi
    by_cases hz : i = nu 12 0
    · exact Or.inr ⟨Or.inr rfl, hz⟩
    · exact Or.inl (show i < nu 12 0 by omega)
  | 7, hi => Or.inl (show i < nu 15 0 by rw [← e 15 (by decide)]; exact hi)
  | 8, hi => Or.inl (show i < nu 21 0 by rw [← e 21 (by decide)]; exact hi)
  | 9, hi => Or.inl (show i < nu 21 0 by rw [← e 21 (by decide)]; exact hi)
  | 10, hi => Or.inl hi
  | 11, hi => Or.inl hi
  | 12, hi => Or.inl hi
  | 13, hi => Or.inl hi
  | 14, hi => Or.inl hi
  | _ + 15, hi => absurd hi (Nat.not_lt_zero _)
  refine h.grow hfm (k0 := 3) (K := 5) (K2 := 6) (ix := nu 12 0) (q := q) (pa := pa) (by decide) (by decide) (by decide) (by decide) (by decide) hz9 fr hq hpa hel hfz hla hea hcap hcp hpre hlast hx hrg (Nat.lt_irrefl _) (Nat.lt_irrefl _) (adN_K (by decide)) ?_ ?_ ?_
  · rw [adN_K (by decide)]
    refine ⟨_, h_q, ?_⟩
    show _ = _
    rw [adN_K2 (by decide) (by decide), congrFun (hN 13 (by decide)) _, h0]
  · rw [adN_K2 (by decide) (by decide)]
    refine ⟨_, h_pa, _, rfl, fun j hj => ?_⟩
    rw [congrFun (hN 13 (by decide)) _, h0] at hj
    exact absurd hj (Nat.not_lt_zero _)
  · intro k i hi hk
    have hln : i ≠ 3 → i < 6 → ln nu' i = ln nu i := by
      intro h2 h1
      match i, h1, h2 with
      | 0, _, _ => rfl
      | 1, _, _ => exact e 6 (by decide)
      | 2, _, _ => exact e 7 (by decide)
      | 3, _, h2 => exact absurd rfl h2
      | 4, _, _ => exact e 15 (by decide)
      | 5, _, _ => exact e 21 (by decide)
      | _ + 6, h1, _ => omega
    by_cases h0 : k ≤ 1
    · have h2 : i ≠ 3 := fun z => hk ⟨h0, z⟩
      have : k = 0 ∨ k = 1 := by omega
      rcases this with rfl | rfl
      · exact hln h2 hi
      · exact hln h2 hi
    have hk15 := rng_k hi
    refine eqK_of (fun x hx => hN x ?_) (fun x hx => hS x ?_)
    · have hz : ∀ k, k < 15 → ¬ (k ≤ 1 ∨ k = 99) → ∀ x ∈ depN k, x ∉ [0, 12] := by decide
      exact hz k hk15 (by omega) x hx
    · have hz : ∀ k, k < 15 → ¬ (k ≤ 1 ∨ k = 99) → ∀ x ∈ depS k, x ∉ [] := by decide
      exact hz k hk15 (by omega) x hx
theorem store_ok {G : xT} {M M' : xMem} {fz : Nat} {ad : Nat → Nat → Nat} {nu nu' : Nat → Nat → Nat} {sg sg' : Nat → Nat → Int32} {q pa el' cap' : Nat} {f' : Nat → Option Nat} {mc : Int32} (h : cRep G M fz ad nu sg) (hz9 : M' fz = none) (hfm : ∀ u, u < nu 7 0 → nu 9 u < nu 6 0) (fr : xfr M M' [ad 0 5, el']) (hq : M q = none) (hpa : M pa = none) (hel : el' = ad 1 5 ∨ M el' = none) (hfz : el' ≠ fz)
    (hla : M' (ad 0 5) = some (.inr (8, [.ref el', .int (nI (ln nu 5 + 1)), .int mc]))) (hea : M' el' = some (.inl (G.2.1 3, cap', .inr (.inr (.inr (.inr f')))))) (hcap : ln nu 5 < cap') (hcp : capP fz el' cap') (hpre : ∀ j, j < ln nu 5 → f' j = some (elA ad 5 j)) (hlast : f' (ln nu 5) = some q)
    (hN : eqx [0, 21] nu nu') (hS : eqx [22] sg sg') (hx : nu' 21 0 = nu 21 0 + 1) {en : Int32} (e22 : sg' 22 = va_up (sg 22) (nu 21 0) en) (h0 : nu 23 (nu 21 0) = 0) (h_q : M' q = some (.inr (6, [.int en, .int (nI 0), .ref pa]))) (h_pa : M' pa = some (.inl (G.2.1 1, 60, .inl (fun _ => nI 0)))) : cRep G M' fz (adN ad 5 el' 8 9 (nu 21 0) q pa) nu' sg' ∧ ∀ a, own (adN ad 5 el' 8 9 (nu 21 0) q pa) nu' a → own ad nu a ∨ M a = none := by
  have e : ∀ x, x ∉ [0, 21] → nu' x 0 = nu x 0 := fun x hx => congrFun (hN x hx) 0
  have hrg : ∀ k i, i < rng nu' k → i < rng nu k ∨ ((k = 8 ∨ k = 9) ∧ i = nu 21 0) := fun k i hi => match k, hi with
  | 0, hi => Or.inl hi
  | 1, hi => Or.inl hi
  | 2, hi => Or.inl (show i < 4 + nu 6 0 by rw [← e 6 (by decide)]; exact hi)
  | 3, hi => Or.inl (show i < 4 + nu 6 0 by rw [← e 6 (by decide)]; exact hi)
  | 4, hi => Or.inl (show i < nu 7 0 by rw [← e 7 (by decide)]; exact hi)
  | 5, hi => Or.inl (show i < nu 12 0 by rw [← e 12 (by decide)]; exact hi)
  | 6, hi => Or.inl (show i < nu 12 0 by rw [← e 12 (by decide)]; exact hi)
  | 7, hi => Or.inl (show i < nu 15 0 by rw [← e 15 (by decide)]; exact hi)
  | 8, hi => by
    have hi : i < nu' 21 0 := hi
    rw [hx] at hi
    by_cases hz : i = nu 21 0
    · exact Or.inr ⟨Or.inl rfl, hz⟩
    · exact Or.inl (show i < nu 21 0 by omega)
  | 9, hi => by
    have hi : i < nu' 21 0 := hi
    rw [hx] at hi
    by_cases hz : i = nu 21 0
    · exact Or.inr ⟨Or.inr rfl, hz⟩
    · exact Or.inl (show i < nu 21 0 by omega)
  | 10, hi => Or.inl hi
  | 11, hi => Or.inl hi
  | 12, hi => Or.inl hi
  | 13, hi => Or.inl hi
  | 14, hi => Or.inl hi
  | _ + 15, hi => absurd hi (Nat.not_lt_zero _)
  refine h.grow hfm (k0 := 5) (K := 8) (K2 := 9) (ix := nu 21 0) (q := q) (pa := pa) (by decide) (by decide) (by decide) (by decide) (by decide) hz9 fr hq hpa hel hfz hla hea hcap hcp hpre hlast hx hrg (Nat.lt_irrefl _) (Nat.lt_irrefl _) (adN_K (by decide)) ?_ ?_ ?_
  · rw [adN_K (by decide)]
    refine ⟨_, h_q, ?_⟩
    show _ = _
    rw [adN_K2 (by decide) (by decide), congrFun (hN 23 (by decide)) _, h0, e22, va_up_self]
  · rw [adN_K2 (by decide) (by decide)]
    refine ⟨_, h_pa, _, rfl, fun j hj => ?_⟩
    rw [congrFun (hN 23 (by decide)) _, h0] at hj
    exact absurd hj (Nat.not_lt_zero _)
  · intro k i hi hk
    have hln : i ≠ 5 → i < 6 → ln nu' i = ln nu i := by
      intro h2 h1
      match i, h1, h2 with
      | 0, _, _ => rfl
      | 1, _, _ => exact e 6 (by decide)
      | 2, _, _ => exact e 7 (by decide)
      | 3, _, _ => exact e 12 (by decide)
      | 4, _, _ => exact e 15 (by decide)
      | 5, _, h2 => exact absurd rfl h2
      | _ + 6, h1, _ => omega
    by_cases h0 : k ≤ 1
    · have h2 : i ≠ 5 := fun z => hk ⟨h0, z⟩
      have : k = 0 ∨ k = 1 := by omega
      rcases this with rfl | rfl
      · exact hln h2 hi
      · exact hln h2 hi
    by_cases hs8 : k = 8
    · subst hs8
      exact ⟨by rw [e22]; exact va_up_ne _ _ (Nat.ne_of_lt hi), congrFun (hN 23 (by decide)) i⟩
    have hk15 := rng_k hi
    refine eqK_of (fun x hx => hN x ?_) (fun x hx => hS x ?_)
    · have hz : ∀ k, k < 15 → ¬ (k ≤ 1 ∨ k = 8) → ∀ x ∈ depN k, x ∉ [0, 21] := by decide
      exact hz k hk15 (by omega) x hx
    · have hz : ∀ k, k < 15 → ¬ (k ≤ 1 ∨ k = 8) → ∀ x ∈ depS k, x ∉ [22] := by decide
      exact hz k hk15 (by omega) x hx
theorem area_ok {G : xT} {M M' : xMem} {fz : Nat} {ad : Nat → Nat → Nat} {nu nu' : Nat → Nat → Nat} {sg sg' : Nat → Nat → Int32} {q pa el' cap' : Nat} {f' : Nat → Option Nat} {mc : Int32} (h : cRep G M fz ad nu sg) (hz9 : M' fz = none) (hfm : ∀ u, u < nu 7 0 → nu 9 u < nu 6 0) (fr : xfr M M' [ad 0 4, el']) (hq : M q = none) (hpa : M pa = none) (hel : el' = ad 1 4 ∨ M el' = none) (hfz : el' ≠ fz)
    (hla : M' (ad 0 4) = some (.inr (8, [.ref el', .int (nI (ln nu 4 + 1)), .int mc]))) (hea : M' el' = some (.inl (G.2.1 3, cap', .inr (.inr (.inr (.inr f')))))) (hcap : ln nu 4 < cap') (hcp : capP fz el' cap') (hpre : ∀ j, j < ln nu 4 → f' j = some (elA ad 4 j)) (hlast : f' (ln nu 4) = some q)
    (hN : eqx [0, 15] nu nu') (hS : eqx [16, 17, 18, 19, 20] sg sg') (hx : nu' 15 0 = nu 15 0 + 1) {pg x y wd hg : Int32} (e16 : sg' 16 = va_up (sg 16) (nu 15 0) pg) (e17 : sg' 17 = va_up (sg 17) (nu 15 0) x) (e18 : sg' 18 = va_up (sg 18) (nu 15 0) y) (e19 : sg' 19 = va_up (sg 19) (nu 15 0) wd) (e20 : sg' 20 = va_up (sg 20) (nu 15 0) hg) (h_q : M' q = some (.inr (4, [.int pg, .int x, .int y, .int wd, .int hg])))  : cRep G M' fz (adN ad 4 el' 7 7 (nu 15 0) q pa) nu' sg' ∧ ∀ a, own (adN ad 4 el' 7 7 (nu 15 0) q pa) nu' a → own ad nu a ∨ M a = none := by
  have e : ∀ x, x ∉ [0, 15] → nu' x 0 = nu x 0 := fun x hx => congrFun (hN x hx) 0
  have hrg : ∀ k i, i < rng nu' k → i < rng nu k ∨ ((k = 7 ∨ k = 7) ∧ i = nu 15 0) := fun k i hi => match k, hi with
  | 0, hi => Or.inl hi
  | 1, hi => Or.inl hi
  | 2, hi => Or.inl (show i < 4 + nu 6 0 by rw [← e 6 (by decide)]; exact hi)
  | 3, hi => Or.inl (show i < 4 + nu 6 0 by rw [← e 6 (by decide)]; exact hi)
  | 4, hi => Or.inl (show i < nu 7 0 by rw [← e 7 (by decide)]; exact hi)
  | 5, hi => Or.inl (show i < nu 12 0 by rw [← e 12 (by decide)]; exact hi)
  | 6, hi => Or.inl (show i < nu 12 0 by rw [← e 12 (by decide)]; exact hi)
  | 7, hi => by
    have hi : i < nu' 15 0 := hi
    rw [hx] at hi
    by_cases hz : i = nu 15 0
    · exact Or.inr ⟨Or.inl rfl, hz⟩
    · exact Or.inl (show i < nu 15 0 by omega)
  | 8, hi => Or.inl (show i < nu 21 0 by rw [← e 21 (by decide)]; exact hi)
  | 9, hi => Or.inl (show i < nu 21 0 by rw [← e 21 (by decide)]; exact hi)
  | 10, hi => Or.inl hi
  | 11, hi => Or.inl hi
  | 12, hi => Or.inl hi
  | 13, hi => Or.inl hi
  | 14, hi => Or.inl hi
  | _ + 15, hi => absurd hi (Nat.not_lt_zero _)
  refine h.grow hfm (k0 := 4) (K := 7) (K2 := 7) (ix := nu 15 0) (q := q) (pa := pa) (by decide) (by decide) (by decide) (by decide) (by decide) hz9 fr hq hpa hel hfz hla hea hcap hcp hpre hlast hx hrg (Nat.lt_irrefl _) (Nat.lt_irrefl _) (adN_K (by decide)) ?_ ?_ ?_
  · rw [adN_K (by decide)]
    refine ⟨_, h_q, ?_⟩
    show _ = _
    rw [e16, e17, e18, e19, e20, va_up_self, va_up_self, va_up_self, va_up_self, va_up_self]
  · rw [adN_K (by decide)]
    refine ⟨_, h_q, ?_⟩
    show _ = _
    rw [e16, e17, e18, e19, e20, va_up_self, va_up_self, va_up_self, va_up_self, va_up_self]
  · intro k i hi hk
    have hln : i ≠ 4 → i < 6 → ln nu' i = ln nu i := by
      intro h2 h1
      match i, h1, h2 with
      | 0, _, _ => rfl
      | 1, _, _ => exact e 6 (by decide)
      | 2, _, _ => exact e 7 (by decide)
      | 3, _, _ => exact e 12 (by decide)
      | 4, _, h2 => exact absurd rfl h2
      | 5, _, _ => exact e 21 (by decide)
      | _ + 6, h1, _ => omega
    by_cases h0 : k ≤ 1
    · have h2 : i ≠ 4 := fun z => hk ⟨h0, z⟩
      have : k = 0 ∨ k = 1 := by omega
      rcases this with rfl | rfl
      · exact hln h2 hi
      · exact hln h2 hi
    by_cases hs7 : k = 7
    · subst hs7
      exact ⟨by rw [e16]; exact va_up_ne _ _ (Nat.ne_of_lt hi), by rw [e17]; exact va_up_ne _ _ (Nat.ne_of_lt hi), by rw [e18]; exact va_up_ne _ _ (Nat.ne_of_lt hi), by rw [e19]; exact va_up_ne _ _ (Nat.ne_of_lt hi), by rw [e20]; exact va_up_ne _ _ (Nat.ne_of_lt hi)⟩
    have hk15 := rng_k hi
    refine eqK_of (fun x hx => hN x ?_) (fun x hx => hS x ?_)
    · have hz : ∀ k, k < 15 → ¬ (k ≤ 1 ∨ k = 7) → ∀ x ∈ depN k, x ∉ [0, 15] := by decide
      exact hz k hk15 (by omega) x hx
    · have hz : ∀ k, k < 15 → ¬ (k ≤ 1 ∨ k = 7) → ∀ x ∈ depS k, x ∉ [16, 17, 18, 19, 20] := by decide
      exact hz k hk15 (by omega) x hx
theorem use_ok {G : xT} {M M' : xMem} {fz : Nat} {ad : Nat → Nat → Nat} {nu nu' : Nat → Nat → Nat} {sg sg' : Nat → Nat → Int32} {q pa el' cap' : Nat} {f' : Nat → Option Nat} {mc : Int32} (h : cRep G M fz ad nu sg) (hz9 : M' fz = none) (hfm : ∀ u, u < nu 7 0 → nu 9 u < nu 6 0) (fr : xfr M M' [ad 0 2, el']) (hq : M q = none) (hpa : M pa = none) (hel : el' = ad 1 2 ∨ M el' = none) (hfz : el' ≠ fz)
    (hla : M' (ad 0 2) = some (.inr (8, [.ref el', .int (nI (ln nu 2 + 1)), .int mc]))) (hea : M' el' = some (.inl (G.2.1 3, cap', .inr (.inr (.inr (.inr f')))))) (hcap : ln nu 2 < cap') (hcp : capP fz el' cap') (hpre : ∀ j, j < ln nu 2 → f' j = some (elA ad 2 j)) (hlast : f' (ln nu 2) = some q)
    (hN : eqx [0, 7, 9] nu nu') (hS : eqx [8, 10, 11] sg sg') (hx : nu' 7 0 = nu 7 0 + 1) {pg dx dy : Int32} {fo : Nat} (hfo : fo < nu 6 0) (e9 : nu' 9 = va_up (nu 9) (nu 7 0) fo) (e8 : sg' 8 = va_up (sg 8) (nu 7 0) pg) (e10 : sg' 10 = va_up (sg 10) (nu 7 0) dx) (e11 : sg' 11 = va_up (sg 11) (nu 7 0) dy) (h_q : M' q = some (.inr (5, [.int pg, .int dx, .int dy, .ref (ad 2 (4 + fo)), .long 0, .null])))  : cRep G M' fz (adN ad 2 el' 4 4 (nu 7 0) q pa) nu' sg' ∧ ∀ a, own (adN ad 2 el' 4 4 (nu 7 0) q pa) nu' a → own ad nu a ∨ M a = none := by
  have e : ∀ x, x ∉ [0, 7, 9] → nu' x 0 = nu x 0 := fun x hx => congrFun (hN x hx) 0
  have hrg : ∀ k i, i < rng nu' k → i < rng nu k ∨ ((k = 4 ∨ k = 4) ∧ i = nu 7 0) := fun k i hi => match k, hi with
  | 0, hi => Or.inl hi
  | 1, hi => Or.inl hi
  | 2, hi => Or.inl (show i < 4 + nu 6 0 by rw [← e 6 (by decide)]; exact hi)
  | 3, hi => Or.inl (show i < 4 + nu 6 0 by rw [← e 6 (by decide)]; exact hi)
  | 4, hi => by
    have hi : i < nu' 7 0 := hi
    rw [hx] at hi
    by_cases hz : i = nu 7 0
    · exact Or.inr ⟨Or.inl rfl, hz⟩
    · exact Or.inl (show i < nu 7 0 by omega)
  | 5, hi => Or.inl (show i < nu 12 0 by rw [← e 12 (by decide)]; exact hi)
  | 6, hi => Or.inl (show i < nu 12 0 by rw [← e 12 (by decide)]; exact hi)
  | 7, hi => Or.inl (show i < nu 15 0 by rw [← e 15 (by decide)]; exact hi)
  | 8, hi => Or.inl (show i < nu 21 0 by rw [← e 21 (by decide)]; exact hi)
  | 9, hi => Or.inl (show i < nu 21 0 by rw [← e 21 (by decide)]; exact hi)
  | 10, hi => Or.inl hi
  | 11, hi => Or.inl hi
  | 12, hi => Or.inl hi
  | 13, hi => Or.inl hi
  | 14, hi => Or.inl hi
  | _ + 15, hi => absurd hi (Nat.not_lt_zero _)
  refine h.grow hfm (k0 := 2) (K := 4) (K2 := 4) (ix := nu 7 0) (q := q) (pa := pa) (by decide) (by decide) (by decide) (by decide) (by decide) hz9 fr hq hpa hel hfz hla hea hcap hcp hpre hlast hx hrg (Nat.lt_irrefl _) (Nat.lt_irrefl _) (adN_K (by decide)) ?_ ?_ ?_
  · rw [adN_K (by decide)]
    refine ⟨_, h_q, ?_⟩
    refine ⟨0, none, ?_⟩
    rw [e8, e9, e10, e11, va_up_self, va_up_self, va_up_self, va_up_self, adN_o (by omega) (by omega) (by omega)]
    rfl
  · rw [adN_K (by decide)]
    refine ⟨_, h_q, 0, none, ?_⟩
    rw [e8, e9, e10, e11, va_up_self, va_up_self, va_up_self, va_up_self, adN_o (by omega) (by omega) (by omega)]
    rfl
  · intro k i hi hk
    have hln : i ≠ 2 → i < 6 → ln nu' i = ln nu i := by
      intro h2 h1
      match i, h1, h2 with
      | 0, _, _ => rfl
      | 1, _, _ => exact e 6 (by decide)
      | 2, _, h2 => exact absurd rfl h2
      | 3, _, _ => exact e 12 (by decide)
      | 4, _, _ => exact e 15 (by decide)
      | 5, _, _ => exact e 21 (by decide)
      | _ + 6, h1, _ => omega
    by_cases h0 : k ≤ 1
    · have h2 : i ≠ 2 := fun z => hk ⟨h0, z⟩
      have : k = 0 ∨ k = 1 := by omega
      rcases this with rfl | rfl
      · exact hln h2 hi
      · exact hln h2 hi
    by_cases hs4 : k = 4
    · subst hs4
      exact ⟨by rw [e8]; exact va_up_ne _ _ (Nat.ne_of_lt hi), by rw [e10]; exact va_up_ne _ _ (Nat.ne_of_lt hi), by rw [e11]; exact va_up_ne _ _ (Nat.ne_of_lt hi), by rw [e9]; exact va_up_ne _ _ (Nat.ne_of_lt hi)⟩
    have hk15 := rng_k hi
    refine eqK_of (fun x hx => hN x ?_) (fun x hx => hS x ?_)
    · have hz : ∀ k, k < 15 → ¬ (k ≤ 1 ∨ k = 4) → ∀ x ∈ depN k, x ∉ [0, 7, 9] := by decide
      exact hz k hk15 (by omega) x hx
    · have hz : ∀ k, k < 15 → ¬ (k ≤ 1 ∨ k = 4) → ∀ x ∈ depS k, x ∉ [8, 10, 11] := by decide
      exact hz k hk15 (by omega) x hx