theorem cRep.rowU {G : xT} {M M' : xMem} {fz : Nat} {ad : Nat → Nat → Nat} {nu nu' : Nat → Nat → Nat} {sg sg' : Nat → Nat → Int32} {r : Nat} {f : Nat → Int32} (h : cRep G M fz ad nu sg) (hz9 : M' fz = none) (hfm : ∀ u, u < nu 7 0 → nu 9 u < nu 6 0) (hr : r < 4 + nu 6 0) (fr : xfr M M' [ad 2 r, ad 3 r]) (h1 : M' (ad 2 r) = some (.inr (1, [.int (nI (nmb r)), .ref (ad 3 r), .int (nI (nu' 1 r))]))) (h2 : M' (ad 3 r) = some (.inl (G.2.1 0, 160, .inl f))) (hN : eqx [0, 1] nu nu') (hS : eqx [2, 3, 4, 5] sg sg') (hrow : ∀ j, j < nu' 1 r → f (j * 4 + 0) = sg' 2 (40 * r + j) ∧ f (j * 4 + 1) = sg' 3 (40 * r + j) ∧ f (j * 4 + 2) = sg' 4 (40 * r + j) ∧ f (j * 4 + 3) = sg' 5 (40 * r + j)) (hoth : ∀ i, i ≠ r → nu' 1 i = nu 1 i ∧ ∀ j, j < nu 1 i → sg' 2 (40 * i + j) = sg 2 (40 * i + j) ∧ sg' 3 (40 * i + j) = sg 3 (40 * i + j) ∧ sg' 4 (40 * i + j) = sg 4 (40 * i + j) ∧ sg' 5 (40 * i + j) = sg 5 (40 * i + j)) : cRep G M' fz ad nu' sg' := by
  have hrg : ∀ k, rng nu' k = rng nu k := by
    intro k
    unfold rng
    rw [hN 6 (by decide), hN 7 (by decide), hN 12 (by decide), hN 15 (by decide), hN 21 (by decide)]
  refine h.inpl hz9 fr hrg hfm (fun k i => (k = 2 ∨ k = 3) ∧ i = r) ?_ ?_ ?_
  · intro a ha
    rcases List.mem_cons.mp ha with rfl | ha
    · exact ⟨2, r, rfl, hr, by decide, Or.inl rfl, rfl⟩
    · rw [List.mem_singleton.mp ha]
      exact ⟨3, r, rfl, hr, by decide, Or.inr rfl, rfl⟩
  · rintro k i hi ⟨rfl | rfl, rfl⟩
    · exact ⟨_, h1, rfl⟩
    · exact ⟨_, h2, f, rfl, hrow⟩
  · intro k i hi hk
    by_cases hA : k = 2
    · subst hA
      have hne : i ≠ r := fun z => hk ⟨Or.inl rfl, z⟩
      exact (hoth i hne).1
    · by_cases hB : k = 3
      · subst hB
        have hne : i ≠ r := fun z => hk ⟨Or.inr rfl, z⟩
        exact hoth i hne
      · have hk15 := rng_k hi
        refine eqK_of (fun x hx => hN x ?_) (fun x hx => hS x ?_)
        · have hz : ∀ k, k < 15 → ¬ (k = 2 ∨ k = 3) → ∀ x ∈ depN k, x ∉ [0, 1] := by decide
          exact hz k hk15 (fun z => z.elim hA hB) x hx
        · have hz : ∀ k, k < 15 → ¬ (k = 2 ∨ k = 3) → ∀ x ∈ depS k, x ∉ [2, 3, 4, 5] := by decide
          exact hz k hk15 (fun z => z.elim hA hB) x hx
theorem cRep.wordU {G : xT} {M M' : xMem} {fz : Nat} {ad : Nat → Nat → Nat} {nu nu' : Nat → Nat → Nat} {sg sg' : Nat → Nat → Int32} {r : Nat} {f : Nat → Int32} (h : cRep G M fz ad nu sg) (hz9 : M' fz = none) (hfm : ∀ u, u < nu 7 0 → nu 9 u < nu 6 0) (hr : r < nu 12 0) (fr : xfr M M' [ad 5 r, ad 6 r]) (h1 : M' (ad 5 r) = some (.inr (3, [.int (nI (nu' 13 r)), .ref (ad 6 r)]))) (h2 : M' (ad 6 r) = some (.inl (G.2.1 0, 8, .inl f))) (hN : eqx [0, 13] nu nu') (hS : eqx [14] sg sg') (hrow : ∀ j, j < nu' 13 r → f j = sg' 14 (8 * r + j)) (hoth : ∀ i, i ≠ r → nu' 13 i = nu 13 i ∧ ∀ j, j < nu 13 i → sg' 14 (8 * i + j) = sg 14 (8 * i + j)) : cRep G M' fz ad nu' sg' := by
  have hrg : ∀ k, rng nu' k = rng nu k := by
    intro k
    unfold rng
    rw [hN 6 (by decide), hN 7 (by decide), hN 12 (by decide), hN 15 (by decide), hN 21 (by decide)]
  refine h.inpl hz9 fr hrg hfm (fun k i => (k = 5 ∨ k = 6) ∧ i = r) ?_ ?_ ?_
  · intro a ha
    rcases List.mem_cons.mp ha with rfl | ha
    · exact ⟨5, r, rfl, hr, by decide, Or.inl rfl, rfl⟩
    · rw [List.mem_singleton.mp ha]
      exact ⟨6, r, rfl, hr, by decide, Or.inr rfl, rfl⟩
  · rintro k i hi ⟨rfl | rfl, rfl⟩
    · exact ⟨_, h1, rfl⟩
    · exact ⟨_, h2, f, rfl, hrow⟩
  · intro k i hi hk
    by_cases hA : k = 5
    · subst hA
      have hne : i ≠ r := fun z => hk ⟨Or.inl rfl, z⟩
      exact (hoth i hne).1
    · by_cases hB : k = 6
      · subst hB
        have hne : i ≠ r := fun z => hk ⟨Or.inr rfl, z⟩
        exact hoth i hne
      · have hk15 := rng_k hi
        refine eqK_of (fun x hx => hN x ?_) (fun x hx => hS x ?_)
        · have hz : ∀ k, k < 15 → ¬ (k = 5 ∨ k = 6) → ∀ x ∈ depN k, x ∉ [0, 13] := by decide
          exact hz k hk15 (fun z => z.elim hA hB) x hx
        · have hz : ∀ k, k < 15 → ¬ (k = 5 ∨ k = 6) → ∀ x ∈ depS k, x ∉ [14] := by decide
          exact hz k hk15 (fun z => z.elim hA hB) x hx
theorem cRep.stoU {G : xT} {M M' : xMem} {fz : Nat} {ad : Nat → Nat → Nat} {nu nu' : Nat → Nat → Nat} {sg sg' : Nat → Nat → Int32} {r : Nat} {f : Nat → Int32} (h : cRep G M fz ad nu sg) (hz9 : M' fz = none) (hfm : ∀ u, u < nu 7 0 → nu 9 u < nu 6 0) (hr : r < nu 21 0) (fr : xfr M M' [ad 8 r, ad 9 r]) (h1 : M' (ad 8 r) = some (.inr (6, [.int (sg 22 r), .int (nI (nu' 23 r)), .ref (ad 9 r)]))) (h2 : M' (ad 9 r) = some (.inl (G.2.1 1, 60, .inl f))) (hN : eqx [0, 23] nu nu') (hS : eqx [24] sg sg') (hrow : ∀ j, j < nu' 23 r → sg' 24 (60 * r + j) = (f j &&& nI 255) ∧ byP (f j)) (hoth : ∀ i, i ≠ r → nu' 23 i = nu 23 i ∧ ∀ j, j < nu 23 i → sg' 24 (60 * i + j) = sg 24 (60 * i + j)) : cRep G M' fz ad nu' sg' := by
  have hrg : ∀ k, rng nu' k = rng nu k := by
    intro k
    unfold rng
    rw [hN 6 (by decide), hN 7 (by decide), hN 12 (by decide), hN 15 (by decide), hN 21 (by decide)]
  refine h.inpl hz9 fr hrg hfm (fun k i => (k = 8 ∨ k = 9) ∧ i = r) ?_ ?_ ?_
  · intro a ha
    rcases List.mem_cons.mp ha with rfl | ha
    · exact ⟨8, r, rfl, hr, by decide, Or.inl rfl, rfl⟩
    · rw [List.mem_singleton.mp ha]
      exact ⟨9, r, rfl, hr, by decide, Or.inr rfl, rfl⟩
  · rintro k i hi ⟨rfl | rfl, rfl⟩
    · exact ⟨_, h1, (by show _ = _; rw [congrFun (hS 22 (by decide)) _])⟩
    · exact ⟨_, h2, f, rfl, hrow⟩
  · intro k i hi hk
    by_cases hA : k = 8
    · subst hA
      have hne : i ≠ r := fun z => hk ⟨Or.inl rfl, z⟩
      exact ⟨congrFun (hS 22 (by decide)) i, (hoth i hne).1⟩
    · by_cases hB : k = 9
      · subst hB
        have hne : i ≠ r := fun z => hk ⟨Or.inr rfl, z⟩
        exact hoth i hne
      · have hk15 := rng_k hi
        refine eqK_of (fun x hx => hN x ?_) (fun x hx => hS x ?_)
        · have hz : ∀ k, k < 15 → ¬ (k = 8 ∨ k = 9) → ∀ x ∈ depN k, x ∉ [0, 23] := by decide
          exact hz k hk15 (fun z => z.elim hA hB) x hx
        · have hz : ∀ k, k < 15 → ¬ (k = 8 ∨ k = 9) → ∀ x ∈ depS k, x ∉ [24] := by decide
          exact hz k hk15 (fun z => z.elim hA hB) x hx
theorem own2 {ad : Nat → Nat → Nat} {nu : Nat → Nat → Nat} {M : xMem} {k i k' i' : Nat} (h : i < rng nu k) (h2 : i' < rng nu k') : ∀ a ∈ [ad k i, ad k' i'], own ad nu a ∨ M a = none := by
  intro a ha
  rcases List.mem_cons.mp ha with rfl | ha
  · exact Or.inl (own.i h)
  · rw [List.mem_singleton.mp ha]
    exact Or.inl (own.i h2)
/-- a sign has been laid -/
def laidN (nu : Nat → Nat → Nat) (r : Nat) : Nat → Nat → Nat := va_up nu 1 (va_up (nu 1) r (nu 1 r + 1))
def laidS (nu : Nat → Nat → Nat) (sg : Nat → Nat → Int32) (r : Nat) (a b c d : Int32) : Nat → Nat → Int32 := va_up (va_up (va_up (va_up sg 2 (va_up (sg 2) (40 * r + nu 1 r) a)) 3 (va_up (sg 3) (40 * r + nu 1 r) b)) 4 (va_up (sg 4) (40 * r + nu 1 r) c)) 5 (va_up (sg 5) (40 * r + nu 1 r) d)
section LD
variable {nu : Nat → Nat → Nat} {sg : Nat → Nat → Int32} {r : Nat} {a b c d : Int32}
theorem laid_1 : laidN nu r 1 = va_up (nu 1) r (nu 1 r + 1) := va_up_self _ _ _
theorem laid_2 : laidS nu sg r a b c d 2 = va_up (sg 2) (40 * r + nu 1 r) a := by unfold laidS; rw [va_up_ne _ _ (by decide), va_up_ne _ _ (by decide), va_up_ne _ _ (by decide), va_up_self]
theorem laid_3 : laidS nu sg r a b c d 3 = va_up (sg 3) (40 * r + nu 1 r) b := by unfold laidS; rw [va_up_ne _ _ (by decide), va_up_ne _ _ (by decide), va_up_self]
theorem laid_4 : laidS nu sg r a b c d 4 = va_up (sg 4) (40 * r + nu 1 r) c := by unfold laidS; rw [va_up_ne _ _ (by decide), va_up_self]
theorem laid_5 : laidS nu sg r a b c d 5 = va_up (sg 5) (40 * r + nu 1 r) d := by unfold laidS; rw [va_up_self]
theorem laid_N : eqx [1] nu (laidN nu r) := eqx.up _ _ _
theorem laid_S : eqx [2, 3, 4, 5] sg (laidS nu sg r a b c d) := by
  intro k hk
  simp only [List.mem_cons, List.not_mem_nil, or_false, not_or] at hk
  unfold laidS
  rw [va_up_ne _ _ hk.2.2.2, va_up_ne _ _ hk.2.2.1, va_up_ne _ _ hk.2.1, va_up_ne _ _ hk.1]
theorem laid_P : laidP nu (laidN nu r) sg (laidS nu sg r a b c d) r a b c d := ⟨laid_1, laid_2, laid_3, laid_4, laid_5⟩
theorem laid_ok {G : xT} {M M' : xMem} {fz : Nat} {ad : Nat → Nat → Nat} {f : Nat → Int32} (h : cRep G M fz ad nu sg) (hz9 : M' fz = none) (hfm : ∀ u, u < nu 7 0 → nu 9 u < nu 6 0) (h40 : ∀ r, nu 1 r ≤ 40) (hr : r < 4 + nu 6 0) (hn : nu 1 r < 40) (fr : xfr M M' [ad 2 r, ad 3 r]) (h1 : M' (ad 2 r) = some (.inr (1, [.int (nI (nmb r)), .ref (ad 3 r), .int (nI (nu 1 r + 1))]))) (h2 : M' (ad 3 r) = some (.inl (G.2.1 0, 160, .inl (rowUp f (nu 1 r) a b c d))))
    (hf : ∀ j, j < nu 1 r → f (j * 4 + 0) = sg 2 (40 * r + j) ∧ f (j * 4 + 1) = sg 3 (40 * r + j) ∧ f (j * 4 + 2) = sg 4 (40 * r + j) ∧ f (j * 4 + 3) = sg 5 (40 * r + j)) : cRep G M' fz ad (laidN nu r) (laidS nu sg r a b c d) := by
  refine h.rowU hz9 hfm hr fr ?_ h2 (laid_N.wide (by decide)) laid_S ?_ ?_
  · rw [laid_1, va_up_self]
    exact h1
  · rw [laid_1, va_up_self, laid_2, laid_3, laid_4, laid_5]
    intro j hj
    by_cases hz : j = nu 1 r
    · rw [hz, rowUp_0, rowUp_1, rowUp_2, rowUp_3, va_up_self, va_up_self, va_up_self, va_up_self]
      exact ⟨rfl, rfl, rfl, rfl⟩
    · rw [rowUp_ne _ _ _ _ _ (by omega), rowUp_ne _ _ _ _ _ (by omega), rowUp_ne _ _ _ _ _ (by omega), rowUp_ne _ _ _ _ _ (by omega), va_up_ne _ _ (by omega), va_up_ne _ _ (by omega), va_up_ne _ _ (by omega), va_up_ne _ _ (by omega)]
      exact hf j (by omega)
  · intro i hi
    rw [laid_1, va_up_ne _ _ hi, laid_2, laid_3, laid_4, laid_5]
    refine ⟨rfl, fun j hj => ?_⟩
    have h9 := h40 i
    rw [va_up_ne _ _ (by omega), va_up_ne _ _ (by omega), va_up_ne _ _ (by omega), va_up_ne _ _ (by omega)]
    exact ⟨rfl, rfl, rfl, rfl⟩
end LD
set_option maxHeartbeats 400000 in
set_option maxRecDepth 100000 in
/-- addSign -/
theorem c_R_addSign (l : Launch) (hfl : l.flags = flags0) (G : xT) (M : xMem) (sz : Nat) (fz : Nat) (ad : Nat → Nat → Nat) (nu : Nat → Nat → Nat) (sg : Nat → Nat → Int32) (hR : cRep G M fz ad nu sg) (r : Nat) (a0 a1 a2 a3 : Int32) (hrr : r < 4 + nu 6 0) (h20 : nu 6 0 ≤ 20) (h40 : ∀ r, nu 1 r ≤ 40) (hfm : ∀ u, u < nu 7 0 → nu 9 u < nu 6 0) : xMet l G y_R_addSign (Cond.code y_R_addSign b_R_addSign 5 (Option.some Jvm.ClassFile.FieldType.int) :: x_tbl) { frames := 7, cells := 5, slots := 30, locals := 104 } [.ref (ad 2 r), .int a0, .int a1, .int a2, .int a3] M sz (fun u M' => u = some (.int (nI (nu 1 r + 1))) ∧ addK nu r a0 a1 a2 a3 = 0 ∧ ∃ (nu' : Nat → Nat → Nat) (sg' : Nat → Nat → Int32), cRep G M' fz ad nu' sg' ∧ eqx [1] nu nu' ∧ eqx [2, 3, 4, 5] sg sg' ∧ laidP nu nu' sg sg' (r) a0 a1 a2 a3 ∧ cFr M M' ad nu) (fun X M' => M' = M ∧ (addK nu r a0 a1 a2 a3 = 2 ∧ X = "java/lang/IllegalArgumentException" ∨ addK nu r a0 a1 a2 a3 = 3 ∧ X = "java/lang/UnsupportedOperationException")) := by
  refine xMet.of (by decide) (Nat.le_of_ble_eq_true rfl) ?_
  intro p e s m below meth c ls hC hr hnm hno hsz hw hl
  obtain ⟨hx, hb, hown, hts, hK, hml, hlk, hz⟩ := id hC
  have hl : lv_has ls 5 [(0, .ref (ad 2 r)), (1, .int a0), (2, .int a1), (3, .int a2), (4, .int a3)] := hl
  have h40r := h40 r
  refine lv_iload_n hx hb d_R_addSign_0 rfl (lv_at hl 1 rfl) ?_
  refine lv_bipush (v := nI 33) hx hb d_R_addSign_1 (by decide) ?_
  refine lv_bipush (v := nI 126) hx hb d_R_addSign_3 (by decide) ?_
  refine x_callG hC (c_R_checkWithin l hfl G M (Array.size s.heap) (a0) (nI 33) (nI 126)) k_372 k_1 ⟨Nat.le_of_ble_eq_true rfl, Nat.le_of_ble_eq_true rfl⟩ ⟨Nat.le_of_ble_eq_true rfl, Nat.le_of_ble_eq_true rfl⟩ hw hl.1 (Nat.le_of_ble_eq_true rfl) d_R_addSign_5 (x_ivS hC k_372 k_370 k_371 k_1 (show _ ∧ _ ∧ _ = some 3 from by decide +kernel) rfl d_R_addSign_5) (fun rv M1 H locs hq hw => ?_) (fun x X M9 H locs hth hxT hw => x_out hC hno hw hxT (by obtain ⟨rfl, hno9, rfl⟩ := hth; exact ⟨rfl, Or.inl ⟨by unfold addK; rw [kt_t (fun z => hno9 z.1)], rfl⟩⟩) (Nat.le_of_ble_eq_true rfl) (Nat.le_of_ble_eq_true rfl))
  obtain ⟨rfl, i1, hM⟩ := hq
  subst M1
  refine W.eq (g2 := F0 m 8 ls []) rfl ?_
  refine lv_iload_n hx hb d_R_addSign_8 rfl (lv_at hl 2 rfl) ?_
  refine lv_iconst (v := nI 0) hx hb d_R_addSign_9 (by decide) ?_
  refine lv_sipush (v := nI 999) hx hb d_R_addSign_10 (by decide) ?_
  refine x_callG hC (c_R_checkWithin l hfl G M (Array.size H) (a1) (nI 0) (nI 999)) k_372 k_1 ⟨Nat.le_of_ble_eq_true rfl, Nat.le_of_ble_eq_true rfl⟩ ⟨Nat.le_of_ble_eq_true rfl, Nat.le_of_ble_eq_true rfl⟩ hw hl.1 (Nat.le_of_ble_eq_true rfl) d_R_addSign_13 (x_ivS hC k_372 k_370 k_371 k_1 (show _ ∧ _ ∧ _ = some 3 from by decide +kernel) rfl d_R_addSign_13) (fun rv M2 H locs hq hw => ?_) (fun x X M9 H locs hth hxT hw => x_out hC hno hw hxT (by obtain ⟨rfl, hno9, rfl⟩ := hth; exact ⟨rfl, Or.inl ⟨by unfold addK; rw [kt_t (fun z => hno9 z.2.1)], rfl⟩⟩) (Nat.le_of_ble_eq_true rfl) (Nat.le_of_ble_eq_true rfl))
  obtain ⟨rfl, i2, hM⟩ := hq
  subst M2
  refine W.eq (g2 := F0 m 16 ls []) rfl ?_
  refine lv_iload_n hx hb d_R_addSign_16 rfl (lv_at hl 3 rfl) ?_
  refine lv_iconst (v := nI 0) hx hb d_R_addSign_17 (by decide) ?_
  refine lv_sipush (v := nI 999) hx hb d_R_addSign_18 (by decide) ?_
  refine x_callG hC (c_R_checkWithin l hfl G M (Array.size H) (a2) (nI 0) (nI 999)) k_372 k_1 ⟨Nat.le_of_ble_eq_true rfl, Nat.le_of_ble_eq_true rfl⟩ ⟨Nat.le_of_ble_eq_true rfl, Nat.le_of_ble_eq_true rfl⟩ hw hl.1 (Nat.le_of_ble_eq_true rfl) d_R_addSign_21 (x_ivS hC k_372 k_370 k_371 k_1 (show _ ∧ _ ∧ _ = some 3 from by decide +kernel) rfl d_R_addSign_21) (fun rv M3 H locs hq hw => ?_) (fun x X M9 H locs hth hxT hw => x_out hC hno hw hxT (by obtain ⟨rfl, hno9, rfl⟩ := hth; exact ⟨rfl, Or.inl ⟨by unfold addK; rw [kt_t (fun z => hno9 z.2.2.1)], rfl⟩⟩) (Nat.le_of_ble_eq_true rfl) (Nat.le_of_ble_eq_true rfl))
  obtain ⟨rfl, i3, hM⟩ := hq
  subst M3
  refine W.eq (g2 := F0 m 24 ls []) rfl ?_
  refine lv_iload hx hb d_R_addSign_24 (lv_at hl 4 rfl) ?_
  refine lv_iconst (v := nI 1) hx hb d_R_addSign_26 (by decide) ?_
  refine lv_bipush (v := nI 50) hx hb d_R_addSign_27 (by decide) ?_
  refine x_callG hC (c_R_checkWithin l hfl G M (Array.size H) (a3) (nI 1) (nI 50)) k_372 k_1 ⟨Nat.le_of_ble_eq_true rfl, Nat.le_of_ble_eq_true rfl⟩ ⟨Nat.le_of_ble_eq_true rfl, Nat.le_of_ble_eq_true rfl⟩ hw hl.1 (Nat.le_of_ble_eq_true rfl) d_R_addSign_29 (x_ivS hC k_372 k_370 k_371 k_1 (show _ ∧ _ ∧ _ = some 3 from by decide +kernel) rfl d_R_addSign_29) (fun rv M4 H locs hq hw => ?_) (fun x X M9 H locs hth hxT hw => x_out hC hno hw hxT (by obtain ⟨rfl, hno9, rfl⟩ := hth; exact ⟨rfl, Or.inl ⟨by unfold addK; rw [kt_t (fun z => hno9 z.2.2.2)], rfl⟩⟩) (Nat.le_of_ble_eq_true rfl) (Nat.le_of_ble_eq_true rfl))
  obtain ⟨rfl, i4, hM⟩ := hq
  subst M4
  refine W.eq (g2 := F0 m 32 ls []) rfl ?_
  refine lv_aload_n hx hb d_R_addSign_32 rfl (lv_at hl 0 rfl) ?_
  have hc5 := hR.row (r := r) (by omega)
  refine x_get hC hw hc5 rfl 2 (by decide) (hts _ k_94) (u_same (hts _ k_87)) rfl d_R_addSign_33 ?_
  refine lv_bipush (v := nI 40) hx hb d_R_addSign_36 (by decide) ?_
  refine x_callG hC (c_R_checkRoom l hfl G M (Array.size H) (nu 1 r) 40 (by omega) (by decide)) k_391 k_1 ⟨Nat.le_of_ble_eq_true rfl, Nat.le_of_ble_eq_true rfl⟩ ⟨Nat.le_of_ble_eq_true rfl, Nat.le_of_ble_eq_true rfl⟩ hw hl.1 (Nat.le_of_ble_eq_true rfl) d_R_addSign_38 (x_ivS hC k_391 k_389 k_390 k_1 (show _ ∧ _ ∧ _ = some 2 from by decide +kernel) rfl d_R_addSign_38) (fun rv M6 H locs hq hw => ?_) (fun x X M9 H locs hth hxT hw => x_out hC hno hw hxT (by obtain ⟨rfl, hno9, rfl⟩ := hth; exact ⟨rfl, Or.inr ⟨by unfold addK; rw [kt_f (not_not_intro ⟨i1, i2, i3, i4⟩), kt_t (by omega)], rfl⟩⟩) (Nat.le_of_ble_eq_true rfl) (Nat.le_of_ble_eq_true rfl))
  obtain ⟨rfl, hroom, hM⟩ := hq
  subst M6
  refine W.eq (g2 := F0 m 41 ls []) rfl ?_
  refine lv_aload_n hx hb d_R_addSign_41 rfl (lv_at hl 0 rfl) ?_
  refine lv_iload_n hx hb d_R_addSign_42 rfl (lv_at hl 1 rfl) ?_
  refine lv_iload_n hx hb d_R_addSign_43 rfl (lv_at hl 2 rfl) ?_
  refine lv_iload_n hx hb d_R_addSign_44 rfl (lv_at hl 3 rfl) ?_
  refine lv_iload hx hb d_R_addSign_45 (lv_at hl 4 rfl) ?_
  obtain ⟨p7, hc7, hp7⟩ := hR.pa (r := r) (by omega)
  refine x_callG hC (c_S_add l G M (Array.size H) (ad 2 r) (ad 3 r) (nu 1 r) (nI (nmb r)) a0 a1 a2 a3 p7 (by omega) hc5 hc7) k_411 k_8 ⟨Nat.le_of_ble_eq_true rfl, Nat.le_of_ble_eq_true rfl⟩ ⟨Nat.le_of_ble_eq_true rfl, Nat.le_of_ble_eq_true rfl⟩ hw hl.1 (Nat.le_of_ble_eq_true rfl) d_R_addSign_47 (x_ivV hC k_411 k_408 k_409 k_410 (show _ ∧ _ ∧ _ = some 4 from by decide +kernel) (x_recv hC hw hc5 rfl) rfl d_R_addSign_47) (fun rv M8 H locs hq hw => ?_) (fun _ _ _ _ _ h _ _ => h.elim)
  obtain ⟨rfl, h_r, h_p, fr⟩ := hq
  refine W.eq (g2 := F0 m 50 ls []) rfl ?_
  refine lv_aload_n hx hb d_R_addSign_50 rfl (lv_at hl 0 rfl) ?_
  refine x_get hC hw h_r rfl 2 (by decide) (hts _ k_94) (u_same (hts _ k_87)) rfl d_R_addSign_51 ?_
  exact x_iret hC hr hw (⟨rfl, by unfold addK; rw [kt_f (not_not_intro ⟨i1, i2, i3, i4⟩), kt_f (by omega)], _, _, laid_ok hR (x_fz0 hC hw hR.2.1.1) hfm h40 hrr hroom fr h_r h_p hp7, laid_N, laid_S, laid_P, cFr.of fr (own2 (k := 2) (k' := 3) hrr hrr)⟩) (Nat.le_of_ble_eq_true rfl) (Nat.le_of_ble_eq_true rfl) d_R_addSign_54

set_option maxHeartbeats 400000 in
set_option maxRecDepth 100000 in
/-- sign -/
theorem c_R_sign (l : Launch) (hfl : l.flags = flags0) (G : xT) (M : xMem) (sz : Nat) (fz : Nat) (ad : Nat → Nat → Nat) (nu : Nat → Nat → Nat) (sg : Nat → Nat → Int32) (hR : cRep G M fz ad nu sg) (v a0 a1 a2 a3 : Int32) (h20 : nu 6 0 ≤ 20) (h40 : ∀ r, nu 1 r ≤ 40) (hfm : ∀ u, u < nu 7 0 → nu 9 u < nu 6 0) : xMet l G y_R_sign (Cond.code y_R_sign b_R_sign 6 (Option.some Jvm.ClassFile.FieldType.int) :: x_tbl) { frames := 8, cells := 6, slots := 36, locals := 128 } [.ref (ad 14 0), .int v, .int a0, .int a1, .int a2, .int a3] M sz (fun u M' => u = some (.int (nI (nu 1 (cN v) + 1))) ∧ signK nu v a0 a1 a2 a3 = 0 ∧ ∃ (nu' : Nat → Nat → Nat) (sg' : Nat → Nat → Int32), cRep G M' fz ad nu' sg' ∧ eqx [1] nu nu' ∧ eqx [2, 3, 4, 5] sg sg' ∧ laidP nu nu' sg sg' (cN v) a0 a1 a2 a3 ∧ cFr M M' ad nu) (fun X M' => M' = M ∧ (signK nu v a0 a1 a2 a3 = 1 ∧ X = "java/lang/IndexOutOfBoundsException" ∨ signK nu v a0 a1 a2 a3 = 2 ∧ X = "java/lang/IllegalArgumentException" ∨ signK nu v a0 a1 a2 a3 = 3 ∧ X = "java/lang/UnsupportedOperationException")) := by
  refine xMet.of (by decide) (Nat.le_of_ble_eq_true rfl) ?_
  intro p e s m below meth c ls hC hr hnm hno hsz hw hl
  obtain ⟨hx, hb, hown, hts, hK, hml, hlk, hz⟩ := id hC
  have hl : lv_has ls 6 [(0, .ref (ad 14 0)), (1, .int v), (2, .int a0), (3, .int a1), (4, .int a2), (5, .int a3)] := hl
  refine lv_aload_n hx hb d_R_sign_0 rfl (lv_at hl 0 rfl) ?_
  have hc1 := hR.rc
  refine x_get hC hw hc1 rfl 0 (by decide) (hts _ k_176) (fun _ h9 => h9) rfl d_R_sign_1 ?_
  refine lv_iload_n hx hb d_R_sign_4 rfl (lv_at hl 1 rfl) ?_
  obtain ⟨mc2, hc2⟩ := hR.la (k := 0) (by decide)
  refine x_callG hC (c_R_rowOf0 l hfl G M (Array.size s.heap) fz ad nu sg hR v h20) k_298 k_1 ⟨Nat.le_of_ble_eq_true rfl, Nat.le_of_ble_eq_true rfl⟩ ⟨Nat.le_of_ble_eq_true rfl, Nat.le_of_ble_eq_true rfl⟩ hw hl.1 (Nat.le_of_ble_eq_true rfl) d_R_sign_5 (x_ivS hC k_298 k_296 k_297 k_1 (show _ ∧ _ ∧ _ = some 2 from by decide +kernel) rfl d_R_sign_5) (fun rv M3 H locs hq hw => ?_) (fun x X M9 H locs hth hxT hw => x_out hC hno hw hxT (by obtain ⟨rfl, hno9, rfl⟩ := hth; exact ⟨rfl, Or.inl ⟨by unfold signK; rw [kt_t hno9], rfl⟩⟩) (Nat.le_of_ble_eq_true rfl) (Nat.le_of_ble_eq_true rfl))
  obtain ⟨rfl, hn1, hM⟩ := hq
  subst M3
  refine W.eq (g2 := F0 m 8 ls [.ref (ad 2 (cN v))]) rfl ?_
  have hs9 : cN v < 4 := hn1.2
  refine lv_iload_n hx hb d_R_sign_8 rfl (lv_at hl 2 rfl) ?_
  refine lv_iload_n hx hb d_R_sign_9 rfl (lv_at hl 3 rfl) ?_
  refine lv_iload hx hb d_R_sign_10 (lv_at hl 4 rfl) ?_
  refine lv_iload hx hb d_R_sign_12 (lv_at hl 5 rfl) ?_
  refine x_callG hC (c_R_addSign l hfl G M (Array.size H) fz ad nu sg hR (cN v) a0 a1 a2 a3 (by omega) h20 h40 hfm) k_369 k_1 ⟨Nat.le_of_ble_eq_true rfl, Nat.le_of_ble_eq_true rfl⟩ ⟨Nat.le_of_ble_eq_true rfl, Nat.le_of_ble_eq_true rfl⟩ hw hl.1 (Nat.le_of_ble_eq_true rfl) d_R_sign_14 (x_ivS hC k_369 k_367 k_368 k_1 (show _ ∧ _ ∧ _ = some 5 from by decide +kernel) rfl d_R_sign_14) (fun rv M4 H locs hq hw => ?_) (fun x X M9 H locs hth hxT hw => x_out hC hno hw hxT (by obtain ⟨rfl, hno9⟩ := hth; exact ⟨rfl, Or.inr (by unfold signK; rw [kt_f (not_not_intro hn1)]; exact hno9)⟩) (Nat.le_of_ble_eq_true rfl) (Nat.le_of_ble_eq_true rfl))
  obtain ⟨rfl, hK, nu', sg', q1, q2, q3, q4, q5⟩ := hq
  refine W.eq (g2 := F0 m 17 ls [.int (nI (nu 1 (cN v) + 1))]) rfl ?_
  exact x_iret hC hr hw (⟨rfl, by unfold signK; rw [kt_f (not_not_intro hn1)]; exact hK, nu', sg', q1, q2, q3, q4, q5⟩) (Nat.le_of_ble_eq_true rfl) (Nat.le_of_ble_eq_true rfl) d_R_sign_17

set_option maxHeartbeats 400000 in
set_option maxRecDepth 100000 in
/-- formSign -/
theorem c_R_formSign (l : Launch) (hfl : l.flags = flags0) (G : xT) (M : xMem) (sz : Nat) (fz : Nat) (ad : Nat → Nat → Nat) (nu : Nat → Nat → Nat) (sg : Nat → Nat → Int32) (hR : cRep G M fz ad nu sg) (v a0 a1 a2 a3 : Int32) (h20 : nu 6 0 ≤ 20) (h40 : ∀ r, nu 1 r ≤ 40) (hfm : ∀ u, u < nu 7 0 → nu 9 u < nu 6 0) : xMet l G y_R_formSign (Cond.code y_R_formSign b_R_formSign 6 (Option.some Jvm.ClassFile.FieldType.int) :: x_tbl) { frames := 8, cells := 6, slots := 36, locals := 128 } [.ref (ad 14 0), .int v, .int a0, .int a1, .int a2, .int a3] M sz (fun u M' => u = some (.int (nI (nu 1 (4 + cN v) + 1))) ∧ formSignK nu v a0 a1 a2 a3 = 0 ∧ ∃ (nu' : Nat → Nat → Nat) (sg' : Nat → Nat → Int32), cRep G M' fz ad nu' sg' ∧ eqx [1] nu nu' ∧ eqx [2, 3, 4, 5] sg sg' ∧ laidP nu nu' sg sg' (4 + cN v) a0 a1 a2 a3 ∧ cFr M M' ad nu) (fun X M' => M' = M ∧ (formSignK nu v a0 a1 a2 a3 = 1 ∧ X = "java/lang/IndexOutOfBoundsException" ∨ formSignK nu v a0 a1 a2 a3 = 2 ∧ X = "java/lang/IllegalArgumentException" ∨ formSignK nu v a0 a1 a2 a3 = 3 ∧ X = "java/lang/UnsupportedOperationException")) := by
  refine xMet.of (by decide) (Nat.le_of_ble_eq_true rfl) ?_
  intro p e s m below meth c ls hC hr hnm hno hsz hw hl
  obtain ⟨hx, hb, hown, hts, hK, hml, hlk, hz⟩ := id hC
  have hl : lv_has ls 6 [(0, .ref (ad 14 0)), (1, .int v), (2, .int a0), (3, .int a1), (4, .int a2), (5, .int a3)] := hl
  refine lv_aload_n hx hb d_R_formSign_0 rfl (lv_at hl 0 rfl) ?_
  have hc1 := hR.rc
  refine x_get hC hw hc1 rfl 1 (by decide) (hts _ k_177) (fun _ h9 => h9) rfl d_R_formSign_1 ?_
  refine lv_iload_n hx hb d_R_formSign_4 rfl (lv_at hl 1 rfl) ?_
  obtain ⟨mc2, hc2⟩ := hR.la (k := 1) (by decide)
  refine x_callG hC (c_R_rowOf1 l hfl G M (Array.size s.heap) fz ad nu sg hR v h20) k_298 k_1 ⟨Nat.le_of_ble_eq_true rfl, Nat.le_of_ble_eq_true rfl⟩ ⟨Nat.le_of_ble_eq_true rfl, Nat.le_of_ble_eq_true rfl⟩ hw hl.1 (Nat.le_of_ble_eq_true rfl) d_R_formSign_5 (x_ivS hC k_298 k_296 k_297 k_1 (show _ ∧ _ ∧ _ = some 2 from by decide +kernel) rfl d_R_formSign_5) (fun rv M3 H locs hq hw => ?_) (fun x X M9 H locs hth hxT hw => x_out hC hno hw hxT (by obtain ⟨rfl, hno9, rfl⟩ := hth; exact ⟨rfl, Or.inl ⟨by unfold formSignK; rw [kt_t hno9], rfl⟩⟩) (Nat.le_of_ble_eq_true rfl) (Nat.le_of_ble_eq_true rfl))
  obtain ⟨rfl, hn1, hM⟩ := hq
  subst M3
  refine W.eq (g2 := F0 m 8 ls [.ref (ad 2 (4 + cN v))]) rfl ?_
  have hs9 : cN v < nu 6 0 := hn1.2
  refine lv_iload_n hx hb d_R_formSign_8 rfl (lv_at hl 2 rfl) ?_
  refine lv_iload_n hx hb d_R_formSign_9 rfl (lv_at hl 3 rfl) ?_
  refine lv_iload hx hb d_R_formSign_10 (lv_at hl 4 rfl) ?_
  refine lv_iload hx hb d_R_formSign_12 (lv_at hl 5 rfl) ?_
  refine x_callG hC (c_R_addSign l hfl G M (Array.size H) fz ad nu sg hR (4 + cN v) a0 a1 a2 a3 (by omega) h20 h40 hfm) k_369 k_1 ⟨Nat.le_of_ble_eq_true rfl, Nat.le_of_ble_eq_true rfl⟩ ⟨Nat.le_of_ble_eq_true rfl, Nat.le_of_ble_eq_true rfl⟩ hw hl.1 (Nat.le_of_ble_eq_true rfl) d_R_formSign_14 (x_ivS hC k_369 k_367 k_368 k_1 (show _ ∧ _ ∧ _ = some 5 from by decide +kernel) rfl d_R_formSign_14) (fun rv M4 H locs hq hw => ?_) (fun x X M9 H locs hth hxT hw => x_out hC hno hw hxT (by obtain ⟨rfl, hno9⟩ := hth; exact ⟨rfl, Or.inr (by unfold formSignK; rw [kt_f (not_not_intro hn1)]; exact hno9)⟩) (Nat.le_of_ble_eq_true rfl) (Nat.le_of_ble_eq_true rfl))
  obtain ⟨rfl, hK, nu', sg', q1, q2, q3, q4, q5⟩ := hq
  refine W.eq (g2 := F0 m 17 ls [.int (nI (nu 1 (4 + cN v) + 1))]) rfl ?_
  exact x_iret hC hr hw (⟨rfl, by unfold formSignK; rw [kt_f (not_not_intro hn1)]; exact hK, nu', sg', q1, q2, q3, q4, q5⟩) (Nat.le_of_ble_eq_true rfl) (Nat.le_of_ble_eq_true rfl) d_R_formSign_17

section LW
variable {nu : Nat → Nat → Nat} {sg : Nat → Nat → Int32} {r : Nat} {x : Int32} {G : xT} {M M' : xMem} {fz : Nat} {ad : Nat → Nat → Nat} {f : Nat → Int32}
theorem lett_ok (h : cRep G M fz ad nu sg) (hz9 : M' fz = none) (hfm : ∀ u, u < nu 7 0 → nu 9 u < nu 6 0) (h8 : ∀ w, nu 13 w ≤ 8) (hr : r < nu 12 0) (hn : nu 13 r < 8) (fr : xfr M M' [ad 5 r, ad 6 r]) (h1 : M' (ad 5 r) = some (.inr (3, [.int (nI (nu 13 r + 1)), .ref (ad 6 r)]))) (h2 : M' (ad 6 r) = some (.inl (G.2.1 0, 8, .inl (va_up f (nu 13 r) x)))) (hf : ∀ j, j < nu 13 r → f j = sg 14 (8 * r + j)) : cRep G M' fz ad (va_up nu 13 (va_up (nu 13) r (nu 13 r + 1))) (va_up sg 14 (va_up (sg 14) (8 * r + nu 13 r) x)) := by
  refine h.wordU hz9 hfm hr fr ?_ h2 ((eqx.up nu 13 _).wide (by decide)) (eqx.up sg 14 _) ?_ ?_
  · rw [va_up_self, va_up_self]
    exact h1
  · rw [va_up_self, va_up_self, va_up_self]
    intro j hj
    by_cases hz : j = nu 13 r
    · rw [hz, va_up_self, va_up_self]
    · rw [va_up_ne _ _ hz, va_up_ne _ _ (by omega)]
      exact hf j (by omega)
  · intro i hi
    rw [va_up_self, va_up_ne _ _ hi, va_up_self]
    refine ⟨rfl, fun j hj => ?_⟩
    have h9 := h8 i
    rw [va_up_ne _ _ (by omega)]
theorem octe_ok (h : cRep G M fz ad nu sg) (hz9 : M' fz = none) (hfm : ∀ u, u < nu 7 0 → nu 9 u < nu 6 0) (h60 : ∀ t, nu 23 t ≤ 60) (hr : r < nu 21 0) (hn : nu 23 r < 60) (hb : byP x) (fr : xfr M M' [ad 8 r, ad 9 r]) (h1 : M' (ad 8 r) = some (.inr (6, [.int (sg 22 r), .int (nI (nu 23 r + 1)), .ref (ad 9 r)]))) (h2 : M' (ad 9 r) = some (.inl (G.2.1 1, 60, .inl (va_up f (nu 23 r) x)))) (hf : ∀ j, j < nu 23 r → sg 24 (60 * r + j) = (f j &&& nI 255) ∧ byP (f j)) : cRep G M' fz ad (va_up nu 23 (va_up (nu 23) r (nu 23 r + 1))) (va_up sg 24 (va_up (sg 24) (60 * r + nu 23 r) (x &&& nI 255))) := by
  refine h.stoU hz9 hfm hr fr ?_ h2 ((eqx.up nu 23 _).wide (by decide)) (eqx.up sg 24 _) ?_ ?_
  · rw [va_up_self, va_up_self]
    exact h1
  · rw [va_up_self, va_up_self, va_up_self]
    intro j hj
    by_cases hz : j = nu 23 r
    · rw [hz, va_up_self, va_up_self]
      exact ⟨rfl, hb⟩
    · rw [va_up_ne _ _ hz, va_up_ne _ _ (by omega)]
      exact hf j (by omega)
  · intro i hi
    rw [va_up_self, va_up_ne _ _ hi, va_up_self]
    refine ⟨rfl, fun j hj => ?_⟩
    have h9 := h60 i
    rw [va_up_ne _ _ (by omega)]
end LW
set_option maxHeartbeats 400000 in
set_option maxRecDepth 100000 in
/-- letter -/
theorem c_R_letter (l : Launch) (hfl : l.flags = flags0) (G : xT) (M : xMem) (sz : Nat) (fz : Nat) (ad : Nat → Nat → Nat) (nu : Nat → Nat → Nat) (sg : Nat → Nat → Int32) (hR : cRep G M fz ad nu sg) (v co : Int32) (h4 : nu 12 0 ≤ 4) (h8 : ∀ w, nu 13 w ≤ 8) (hfm : ∀ u, u < nu 7 0 → nu 9 u < nu 6 0) : xMet l G y_R_letter (Cond.code y_R_letter b_R_letter 4 (Option.some Jvm.ClassFile.FieldType.int) :: x_tbl) { frames := 7, cells := 3, slots := 18, locals := 104 } [.ref (ad 14 0), .int v, .int co] M sz (fun u M' => u = some (.int (nI (nu 13 (cN v) + 1))) ∧ letterK nu v co = 0 ∧ ∃ (nu' : Nat → Nat → Nat) (sg' : Nat → Nat → Int32), cRep G M' fz ad nu' sg' ∧ eqx [13] nu nu' ∧ eqx [14] sg sg' ∧ (nu' 13 = va_up (nu 13) (cN v) (nu 13 (cN v) + 1) ∧ sg' 14 = va_up (sg 14) (8 * cN v + nu 13 (cN v)) co) ∧ cFr M M' ad nu) (fun X M' => M' = M ∧ (letterK nu v co = 1 ∧ X = "java/lang/IndexOutOfBoundsException" ∨ letterK nu v co = 2 ∧ X = "java/lang/IllegalArgumentException" ∨ letterK nu v co = 3 ∧ X = "java/lang/UnsupportedOperationException")) := by
  refine xMet.of (by decide) (Nat.le_of_ble_eq_true rfl) ?_
  intro p e s m below meth c ls hC hr hnm hno hsz hw hl
  obtain ⟨hx, hb, hown, hts, hK, hml, hlk, hz⟩ := id hC
  have hl : lv_has ls 4 [(0, .ref (ad 14 0)), (1, .int v), (2, .int co)] := hl
  refine lv_aload_n hx hb d_R_letter_0 rfl (lv_at hl 0 rfl) ?_
  refine lv_iload_n hx hb d_R_letter_1 rfl (lv_at hl 1 rfl) ?_
  have hc1 := hR.rc
  refine x_callG hC (c_R_wordOf l hfl G M (Array.size s.heap) fz ad nu sg hR v h4) k_499 k_1 ⟨Nat.le_of_ble_eq_true rfl, Nat.le_of_ble_eq_true rfl⟩ ⟨Nat.le_of_ble_eq_true rfl, Nat.le_of_ble_eq_true rfl⟩ hw hl.1 (Nat.le_of_ble_eq_true rfl) d_R_letter_2 (x_ivV hC k_499 k_496 k_498 kp_8 (show _ ∧ _ ∧ _ = some 1 from by decide +kernel) (x_recv hC hw hc1 rfl) rfl d_R_letter_2) (fun rv M2 H locs hq hw => ?_) (fun x X M9 H locs hth hxT hw => x_out hC hno hw hxT (by obtain ⟨rfl, hno9, rfl⟩ := hth; exact ⟨rfl, Or.inl ⟨by unfold letterK; rw [kt_t hno9], rfl⟩⟩) (Nat.le_of_ble_eq_true rfl) (Nat.le_of_ble_eq_true rfl))
  obtain ⟨rfl, hn1, hM⟩ := hq
  subst M2
  refine W.eq (g2 := F0 m 5 ls [.ref (ad 5 (cN v))]) rfl ?_
  have hs9 : cN v < nu 12 0 := hn1.2
  have h8r := h8 (cN v)
  refine lv_astore_n (lv' := [(3, .ref (ad 5 (cN v))), (0, .ref (ad 14 0)), (1, .int v), (2, .int co)]) hx hb d_R_letter_5 rfl hl (by decide) rfl (fun ls hl => ?_)
  refine lv_iload_n hx hb d_R_letter_6 rfl (lv_at hl 3 rfl) ?_
  refine lv_bipush (v := nI 33) hx hb d_R_letter_7 (by decide) ?_
  refine lv_bipush (v := nI 126) hx hb d_R_letter_9 (by decide) ?_
  refine x_callG hC (c_R_checkWithin l hfl G M (Array.size H) (co) (nI 33) (nI 126)) k_372 k_1 ⟨Nat.le_of_ble_eq_true rfl, Nat.le_of_ble_eq_true rfl⟩ ⟨Nat.le_of_ble_eq_true rfl, Nat.le_of_ble_eq_true rfl⟩ hw hl.1 (Nat.le_of_ble_eq_true rfl) d_R_letter_11 (x_ivS hC k_372 k_370 k_371 k_1 (show _ ∧ _ ∧ _ = some 3 from by decide +kernel) rfl d_R_letter_11) (fun rv M3 H locs hq hw => ?_) (fun x X M9 H locs hth hxT hw => x_out hC hno hw hxT (by obtain ⟨rfl, hno9, rfl⟩ := hth; exact ⟨rfl, Or.inr (Or.inl ⟨by unfold letterK; rw [kt_f (not_not_intro hn1), kt_t (fun z => hno9 z.1)], rfl⟩)⟩) (Nat.le_of_ble_eq_true rfl) (Nat.le_of_ble_eq_true rfl))
  obtain ⟨rfl, i1, hM⟩ := hq
  subst M3
  refine W.eq (g2 := F0 m 14 ls []) rfl ?_
  refine lv_iload_n hx hb d_R_letter_14 rfl (lv_at hl 3 rfl) ?_
  refine lv_bipush (v := nI 42) hx hb d_R_letter_15 (by decide) ?_
  refine lv_icmp_ne (tgt := 30) hx hb d_R_letter_17 (by decide) (fun c_17 => ?_) (fun c_17 => ?_)
  · refine lv_aload_n hx hb d_R_letter_30 rfl (lv_at hl 0 rfl) ?_
    have hc4 := hR.wo (w := cN v) (by omega)
    refine x_get hC hw hc4 rfl 0 (by decide) (hts _ k_482) (fun _ h9 => h9) rfl d_R_letter_31 ?_
    refine lv_bipush (v := nI 8) hx hb d_R_letter_34 (by decide) ?_
    refine x_callG hC (c_R_checkRoom l hfl G M (Array.size H) (nu 13 (cN v)) 8 (by omega) (by decide)) k_391 k_1 ⟨Nat.le_of_ble_eq_true rfl, Nat.le_of_ble_eq_true rfl⟩ ⟨Nat.le_of_ble_eq_true rfl, Nat.le_of_ble_eq_true rfl⟩ hw hl.1 (Nat.le_of_ble_eq_true rfl) d_R_letter_36 (x_ivS hC k_391 k_389 k_390 k_1 (show _ ∧ _ ∧ _ = some 2 from by decide +kernel) rfl d_R_letter_36) (fun rv M5 H locs hq hw => ?_) (fun x X M9 H locs hth hxT hw => x_out hC hno hw hxT (by obtain ⟨rfl, hno9, rfl⟩ := hth; exact ⟨rfl, Or.inr (Or.inr ⟨by unfold letterK; rw [kt_f (not_not_intro hn1), kt_f (not_not_intro ⟨i1, c_17⟩), kt_t (by omega)], rfl⟩)⟩) (Nat.le_of_ble_eq_true rfl) (Nat.le_of_ble_eq_true rfl))
    obtain ⟨rfl, hroom, hM⟩ := hq
    subst M5
    refine W.eq (g2 := F0 m 39 ls []) rfl ?_
    refine lv_aload_n hx hb d_R_letter_39 rfl (lv_at hl 0 rfl) ?_
    refine lv_iload_n hx hb d_R_letter_40 rfl (lv_at hl 3 rfl) ?_
    obtain ⟨p6, hc6, hp6⟩ := hR.lt (w := cN v) (by omega)
    refine x_callG hC (c_D_add l G M (Array.size H) (ad 5 (cN v)) (ad 6 (cN v)) (nu 13 (cN v)) p6 co (by omega) hc4 hc6) k_505 k_23 ⟨Nat.le_of_ble_eq_true rfl, Nat.le_of_ble_eq_true rfl⟩ ⟨Nat.le_of_ble_eq_true rfl, Nat.le_of_ble_eq_true rfl⟩ hw hl.1 (Nat.le_of_ble_eq_true rfl) d_R_letter_41 (x_ivV hC k_505 k_502 k_503 k_504 (show _ ∧ _ ∧ _ = some 1 from by decide +kernel) (x_recv hC hw hc4 rfl) rfl d_R_letter_41) (fun rv M7 H locs hq hw => ?_) (fun _ _ _ _ _ h _ _ => h.elim)
    obtain ⟨rfl, h_r, h_p, fr⟩ := hq
    refine W.eq (g2 := F0 m 44 ls []) rfl ?_
    refine lv_aload_n hx hb d_R_letter_44 rfl (lv_at hl 0 rfl) ?_
    refine x_get hC hw h_r rfl 0 (by decide) (hts _ k_482) (fun _ h9 => h9) rfl d_R_letter_45 ?_
    exact x_iret hC hr hw (⟨rfl, by unfold letterK; rw [kt_f (not_not_intro hn1), kt_f (not_not_intro ⟨i1, c_17⟩), kt_f (by omega)], _, _, lett_ok hR (x_fz0 hC hw hR.2.1.1) hfm h8 hs9 hroom fr h_r h_p hp6, eqx.up nu 13 _, eqx.up sg 14 _, ⟨va_up_self _ _ _, va_up_self _ _ _⟩, cFr.of fr (own2 (k := 5) (k' := 6) hs9 hs9)⟩) (Nat.le_of_ble_eq_true rfl) (Nat.le_of_ble_eq_true rfl) d_R_letter_48
  · exact x_throw hfl hC hno hw k_373 k_374 k_20 x_str_91 (by decide +kernel) hat_IA d_R_letter_20 d_R_letter_23 d_R_letter_24 d_R_letter_26 d_R_letter_29 hl.1 (Nat.le_of_ble_eq_true rfl) (Nat.le_of_ble_eq_true rfl) (Nat.le_of_ble_eq_true rfl) (Nat.le_of_ble_eq_true rfl) (⟨rfl, Or.inr (Or.inl ⟨by unfold letterK; rw [kt_f (not_not_intro hn1), kt_t (fun z => z.2 c_17)], rfl⟩)⟩) (Nat.le_of_ble_eq_true rfl) (Nat.le_of_ble_eq_true rfl)

set_option maxHeartbeats 400000 in
set_option maxRecDepth 100000 in
/-- octet -/
theorem c_R_octet (l : Launch) (hfl : l.flags = flags0) (G : xT) (M : xMem) (sz : Nat) (fz : Nat) (ad : Nat → Nat → Nat) (nu : Nat → Nat → Nat) (sg : Nat → Nat → Int32) (hR : cRep G M fz ad nu sg) (v b : Int32) (hb0 : byP b) (h8 : nu 21 0 ≤ 8) (h60 : ∀ t, nu 23 t ≤ 60) (hfm : ∀ u, u < nu 7 0 → nu 9 u < nu 6 0) : xMet l G y_R_octet (Cond.code y_R_octet b_R_octet 4 (Option.some Jvm.ClassFile.FieldType.int) :: x_tbl) { frames := 7, cells := 2, slots := 12, locals := 103 } [.ref (ad 14 0), .int v, .int b] M sz (fun u M' => u = some (.int (nI (nu 23 (cN v) + 1))) ∧ octetK nu v = 0 ∧ ∃ (nu' : Nat → Nat → Nat) (sg' : Nat → Nat → Int32), cRep G M' fz ad nu' sg' ∧ eqx [23] nu nu' ∧ eqx [24] sg sg' ∧ (nu' 23 = va_up (nu 23) (cN v) (nu 23 (cN v) + 1) ∧ sg' 24 = va_up (sg 24) (60 * cN v + nu 23 (cN v)) (b &&& nI 255)) ∧ cFr M M' ad nu) (fun X M' => M' = M ∧ (octetK nu v = 1 ∧ X = "java/lang/IndexOutOfBoundsException" ∨ octetK nu v = 2 ∧ X = "java/lang/UnsupportedOperationException")) := by
  refine xMet.of (by decide) (Nat.le_of_ble_eq_true rfl) ?_
  intro p e s m below meth c ls hC hr hnm hno hsz hw hl
  obtain ⟨hx, hb, hown, hts, hK, hml, hlk, hz⟩ := id hC
  have hl : lv_has ls 4 [(0, .ref (ad 14 0)), (1, .int v), (2, .int b)] := hl
  refine lv_aload_n hx hb d_R_octet_0 rfl (lv_at hl 0 rfl) ?_
  refine lv_iload_n hx hb d_R_octet_1 rfl (lv_at hl 1 rfl) ?_
  have hc1 := hR.rc
  refine x_callG hC (c_R_storeOf l hfl G M (Array.size s.heap) fz ad nu sg hR v h8) k_569 k_1 ⟨Nat.le_of_ble_eq_true rfl, Nat.le_of_ble_eq_true rfl⟩ ⟨Nat.le_of_ble_eq_true rfl, Nat.le_of_ble_eq_true rfl⟩ hw hl.1 (Nat.le_of_ble_eq_true rfl) d_R_octet_2 (x_ivV hC k_569 k_566 k_568 kp_9 (show _ ∧ _ ∧ _ = some 1 from by decide +kernel) (x_recv hC hw hc1 rfl) rfl d_R_octet_2) (fun rv M2 H locs hq hw => ?_) (fun x X M9 H locs hth hxT hw => x_out hC hno hw hxT (by obtain ⟨rfl, hno9, rfl⟩ := hth; exact ⟨rfl, Or.inl ⟨by unfold octetK; rw [kt_t hno9], rfl⟩⟩) (Nat.le_of_ble_eq_true rfl) (Nat.le_of_ble_eq_true rfl))
  obtain ⟨rfl, hn1, hM⟩ := hq
  subst M2
  refine W.eq (g2 := F0 m 5 ls [.ref (ad 8 (cN v))]) rfl ?_
  have hs9 : cN v < nu 21 0 := hn1.2
  have h60r := h60 (cN v)
  refine lv_astore_n (lv' := [(3, .ref (ad 8 (cN v))), (0, .ref (ad 14 0)), (1, .int v), (2, .int b)]) hx hb d_R_octet_5 rfl hl (by decide) rfl (fun ls hl => ?_)
  refine lv_aload_n hx hb d_R_octet_6 rfl (lv_at hl 0 rfl) ?_
  have hc3 := hR.so (t := cN v) (by omega)
  refine x_get hC hw hc3 rfl 1 (by decide) (hts _ k_550) (fun _ h9 => h9) rfl d_R_octet_7 ?_
  refine lv_bipush (v := nI 60) hx hb d_R_octet_10 (by decide) ?_
  refine x_callG hC (c_R_checkRoom l hfl G M (Array.size H) (nu 23 (cN v)) 60 (by omega) (by decide)) k_391 k_1 ⟨Nat.le_of_ble_eq_true rfl, Nat.le_of_ble_eq_true rfl⟩ ⟨Nat.le_of_ble_eq_true rfl, Nat.le_of_ble_eq_true rfl⟩ hw hl.1 (Nat.le_of_ble_eq_true rfl) d_R_octet_12 (x_ivS hC k_391 k_389 k_390 k_1 (show _ ∧ _ ∧ _ = some 2 from by decide +kernel) rfl d_R_octet_12) (fun rv M4 H locs hq hw => ?_) (fun x X M9 H locs hth hxT hw => x_out hC hno hw hxT (by obtain ⟨rfl, hno9, rfl⟩ := hth; exact ⟨rfl, Or.inr ⟨by unfold octetK; rw [kt_f (not_not_intro hn1), kt_t (by omega)], rfl⟩⟩) (Nat.le_of_ble_eq_true rfl) (Nat.le_of_ble_eq_true rfl))
  obtain ⟨rfl, hroom, hM⟩ := hq
  subst M4
  refine W.eq (g2 := F0 m 15 ls []) rfl ?_
  refine lv_aload_n hx hb d_R_octet_15 rfl (lv_at hl 0 rfl) ?_
  refine lv_iload_n hx hb d_R_octet_16 rfl (lv_at hl 3 rfl) ?_
  obtain ⟨p5, hc5, hp5⟩ := hR.by (t := cN v) (by omega)
  refine x_callG hC (c_T_add l G M (Array.size H) (ad 8 (cN v)) (ad 9 (cN v)) (nu 23 (cN v)) (sg 22 (cN v)) b p5 (by omega) hb0 hc3 hc5) k_574 k_25 ⟨Nat.le_of_ble_eq_true rfl, Nat.le_of_ble_eq_true rfl⟩ ⟨Nat.le_of_ble_eq_true rfl, Nat.le_of_ble_eq_true rfl⟩ hw hl.1 (Nat.le_of_ble_eq_true rfl) d_R_octet_17 (x_ivV hC k_574 k_571 k_572 k_573 (show _ ∧ _ ∧ _ = some 1 from by decide +kernel) (x_recv hC hw hc3 rfl) rfl d_R_octet_17) (fun rv M6 H locs hq hw => ?_) (fun _ _ _ _ _ h _ _ => h.elim)
  obtain ⟨rfl, h_r, h_p, fr⟩ := hq
  refine W.eq (g2 := F0 m 20 ls []) rfl ?_
  refine lv_aload_n hx hb d_R_octet_20 rfl (lv_at hl 0 rfl) ?_
  refine x_get hC hw h_r rfl 1 (by decide) (hts _ k_550) (fun _ h9 => h9) rfl d_R_octet_21 ?_
  exact x_iret hC hr hw (⟨rfl, by unfold octetK; rw [kt_f (not_not_intro hn1), kt_f (by omega)], _, _, octe_ok hR (x_fz0 hC hw hR.2.1.1) hfm h60 hs9 hroom hb0 fr h_r h_p hp5, eqx.up nu 23 _, eqx.up sg 24 _, ⟨va_up_self _ _ _, va_up_self _ _ _⟩, cFr.of fr (own2 (k := 8) (k' := 9) hs9 hs9)⟩) (Nat.le_of_ble_eq_true rfl) (Nat.le_of_ble_eq_true rfl) d_R_octet_24
