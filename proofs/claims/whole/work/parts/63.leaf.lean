set_option maxHeartbeats 400000 in
set_option maxRecDepth 100000 in
/-- Store.readInto 0 -/
theorem c_T_readInto0 (l : Launch) (G : xT) (M : xMem) (sz : Nat) (r v q cv n b : Nat) (en0 k0 : Int32) (f g0 F : Nat → Int32) (hn : n ≤ 60) (hb0 : ∀ j, j < n → byP (f j)) (hFB : ∀ i, i < n → F (b + i) = f i &&& nI 255) (hok : ∀ j, okB (F j)) (hvc : v ≠ cv) (h_r : M r = some (.inr (6, [.int en0, .int (nI n), .ref v]))) (h_v : M v = some (.inl (G.2.1 1, 60, .inl f))) (h_q : M q = some (.inr (2, [.ref cv, .int k0]))) (h_cv : M cv = some (.inl (G.2.1 0, 60, .inl g0))) : xMet l G y_T_readInto (Cond.code y_T_readInto b_T_readInto 6 (Option.some Jvm.ClassFile.FieldType.boolean) :: x_tbl) { frames := 2, cells := 0, slots := 0, locals := 44 } [.ref r, .ref q, .int (nI 0)] M sz (fun u M' => u = some (.int (zI (wellP F 0 b n))) ∧ ∃ k' g', M' q = some (.inr (2, [.ref cv, .int k'])) ∧ M' cv = some (.inl (G.2.1 0, 60, .inl g')) ∧ (wellP F 0 b n → k' = nI (stN 0 n) ∧ ∀ j, j < stN 0 n → g' j = sRow F 0 b j) ∧ xfr M M' [q, cv]) (fun _ _ => False) := by
  refine xMet.of (by decide) (Nat.le_of_ble_eq_true rfl) ?_
  intro p e s m below meth c ls hC hr hnm hno hsz hw hl
  obtain ⟨hx, hb, hown, hts, hK, hml, hlk, hz⟩ := id hC
  have hl : lv_has ls 6 [(0, .ref r), (1, .ref q), (2, .int (nI 0))] := hl
  have hF : xfr M M [q, cv] := xfr.rf
  refine lv_aload_n hx hb d_T_readInto_0 rfl (lv_at hl 1 rfl) ?_
  refine lv_iconst (v := nI 0) hx hb d_T_readInto_1 (by decide) ?_
  refine x_put (ty := .int) hC hw h_q rfl 1 (by decide) (hts _ k_92) (u_same (hts _ k_89)) rfl (by decide +kernel) rfl rfl (Nat.le_of_ble_eq_true rfl) d_T_readInto_2 (fun M1 H locs em fr hw => ?_)
  have em : M1 q = some (.inr (2, [.ref cv, .int (nI 0)])) := em
  have h_r := (fr _ (x_ne h_r h_q (by intro z; cases z))).trans h_r
  have h_v := (fr _ (x_ne h_v h_q (by intro z; cases z))).trans h_v
  have h_cv := (fr _ (x_ne h_cv h_q (by intro z; cases z))).trans h_cv
  have h_q := em
  have hF := hF.put em fr (Or.inl (by simp))
  refine lv_iload_n hx hb d_T_readInto_5 rfl (lv_at hl 2 rfl) ?_
  refine lv_if_ne (tgt := 13) hx hb d_T_readInto_6 (by decide) (fun c_6 => ?_) (fun c_6 => ?_)
  · exact absurd c_6 (by decide +kernel)
  · refine lv_iconst (v := nI 1) hx hb d_T_readInto_9 (by decide) ?_
    refine lv_goto (tgt := 14) hx hb d_T_readInto_10 (by decide) ?_
    refine lv_istore_n (lv' := [(3, .int (nI 1)), (0, .ref r), (1, .ref q), (2, .int (nI 0))]) hx hb d_T_readInto_14 rfl hl (by decide) rfl (fun ls hl => ?_)
    refine lv_iconst (v := nI 0) hx hb d_T_readInto_15 (by decide) ?_
    refine lv_istore (lv' := [(4, .int (nI 0)), (3, .int (nI 1)), (0, .ref r), (1, .ref q), (2, .int (nI 0))]) hx hb d_T_readInto_16 hl (by decide) rfl (fun ls hl => ?_)
    have HL18 : ∀ (z18 i : Nat) (g : Nat → Int32), i ≤ n → n + 1 ≤ i + z18 → (∀ j, j < i → goodP 0 (F (b + stI 0 j)) (F (b + stI 0 j + 1))) → (∀ j, j < i → g j = sRow F 0 b j) → ∀ (M1 : xMem), ∀ (H : Heap) (locs : List Loc) (ls : Array Slot), M1 r = some (.inr (6, [.int en0, .int (nI n), .ref v])) → M1 v = some (.inl (G.2.1 1, 60, .inl f)) → M1 q = some (.inr (2, [.ref cv, .int (nI i)])) → M1 cv = some (.inl (G.2.1 0, 60, .inl g)) → xfr M M1 [q, cv] → xWd G (xA M sz) s.heap M1 H locs → lv_has ls 6 [(0, .ref r), (1, .ref q), (2, .int (nI 0)), (3, .int (nI 1)), (4, .int (nI i))] → W p l e { frames := 2, cells := 0, slots := 0, locals := 44 } s m ([.ref r, .ref q, .int (nI 0)] : List Value).toArray below meth c H locs 0 0 (xMQ below G M sz (fun u M' => u = some (.int (zI (wellP F 0 b n))) ∧ ∃ k' g', M' q = some (.inr (2, [.ref cv, .int k'])) ∧ M' cv = some (.inl (G.2.1 0, 60, .inl g')) ∧ (wellP F 0 b n → k' = nI (stN 0 n) ∧ ∀ j, j < stN 0 n → g' j = sRow F 0 b j) ∧ xfr M M' [q, cv]) (fun _ _ => False) s 0 0) (F0 m 18 ls []) := by
      intro z18
      induction z18 with
      | zero =>
        intro i g h1 h2
        omega
      | succ z18 ih18 =>
        intro i g hi18 hz18 hgd hrw M1 H locs ls h_r h_v h_q h_cv hF hw hl
        refine lv_iload hx hb d_T_readInto_18 (lv_at hl 4 rfl) ?_
        refine lv_aload_n hx hb d_T_readInto_20 rfl (lv_at hl 0 rfl) ?_
        refine x_get hC hw h_r rfl 1 (by decide) (hts _ k_549) (fun _ h9 => h9) rfl d_T_readInto_21 ?_
        refine lv_icmp_ge (tgt := 70) hx hb d_T_readInto_24 (by decide) (fun c_24 => ?_) (fun c_24 => ?_)
        · have c_24 := (nI_leI (by omega) (by omega)).mp c_24
          refine lv_iconst (v := nI 1) hx hb d_T_readInto_70 (by decide) ?_
          have hen : i = stN 0 n := by simp only [stN]; omega
          have hyes : wellP F 0 b n := ⟨by omega, fun j hj => hgd j (by omega)⟩
          exact x_zret hC hr hw (by decide +kernel) (⟨congrArg (fun z => some (Value.int z)) ((zI_t hyes).symm), nI i, g, h_q, h_cv, fun _ => ⟨(by rw [hen]), fun j hj => hrw j (by omega)⟩, hF⟩) (Nat.le_of_ble_eq_true rfl) (Nat.le_of_ble_eq_true rfl) d_T_readInto_71
        · have c_24 := Nat.not_le.mp ((not_congr (nI_leI (by omega) (by omega))).mp c_24)
          refine lv_iload_n hx hb d_T_readInto_27 rfl (lv_at hl 2 rfl) ?_
          refine lv_aload_n hx hb d_T_readInto_28 rfl (lv_at hl 0 rfl) ?_
          refine lv_iload hx hb d_T_readInto_29 (lv_at hl 4 rfl) ?_
          refine x_callG hC (c_T_unsigned l G M1 (Array.size H) r v n (i) en0 f (by omega) (by omega) hb0 h_r h_v) k_270 k_25 ⟨Nat.le_of_ble_eq_true rfl, Nat.le_of_ble_eq_true rfl⟩ ⟨Nat.le_of_ble_eq_true rfl, Nat.le_of_ble_eq_true rfl⟩ hw hl.1 (Nat.le_of_ble_eq_true rfl) d_T_readInto_31 (x_ivV hC k_270 k_266 k_268 kp_5 (show _ ∧ _ ∧ _ = some 1 from by decide +kernel) (x_recv hC hw h_r rfl) rfl d_T_readInto_31) (fun rv M2 H locs hq hw => ?_) (fun _ _ _ _ _ h _ _ => h.elim)
          obtain ⟨rfl, hM⟩ := hq
          subst M2
          refine W.eq (g2 := F0 m 34 ls [.int (unV n f (i)), .int (nI 0)]) rfl ?_
          refine x_vi (y := F (b + i)) (by unfold unV; rw [if_pos (by omega), ← hFB _ (by omega)]) ?_
          refine lv_aload_n hx hb d_T_readInto_34 rfl (lv_at hl 0 rfl) ?_
          refine lv_iload hx hb d_T_readInto_35 (lv_at hl 4 rfl) ?_
          refine lv_iconst (v := nI 1) hx hb d_T_readInto_37 (by decide) ?_
          refine lv_iadd hx hb d_T_readInto_38 ?_
          refine x_vi (y := nI (i + 1)) (nI_add _ _) ?_
          refine x_callG hC (c_T_unsigned l G M1 (Array.size H) r v n (i + 1) en0 f (by omega) (by omega) hb0 h_r h_v) k_270 k_25 ⟨Nat.le_of_ble_eq_true rfl, Nat.le_of_ble_eq_true rfl⟩ ⟨Nat.le_of_ble_eq_true rfl, Nat.le_of_ble_eq_true rfl⟩ hw hl.1 (Nat.le_of_ble_eq_true rfl) d_T_readInto_39 (x_ivV hC k_270 k_266 k_268 kp_5 (show _ ∧ _ ∧ _ = some 1 from by decide +kernel) (x_recv hC hw h_r rfl) rfl d_T_readInto_39) (fun rv M3 H locs hq hw => ?_) (fun _ _ _ _ _ h _ _ => h.elim)
          obtain ⟨rfl, hM⟩ := hq
          subst M3
          refine W.eq (g2 := F0 m 42 ls [.int (unV n f (i + 1)), .int (F (b + i)), .int (nI 0)]) rfl ?_
          refine x_callG hC (c_T_decode0 l G M1 (Array.size H) (F (b + i)) (unV n f (i + 1))) k_277 k_25 ⟨Nat.le_of_ble_eq_true rfl, Nat.le_of_ble_eq_true rfl⟩ ⟨Nat.le_of_ble_eq_true rfl, Nat.le_of_ble_eq_true rfl⟩ hw hl.1 (Nat.le_of_ble_eq_true rfl) d_T_readInto_42 (x_ivS hC k_277 k_275 k_276 k_25 (show _ ∧ _ ∧ _ = some 3 from by decide +kernel) rfl d_T_readInto_42) (fun rv M4 H locs hq hw => ?_) (fun _ _ _ _ _ h _ _ => h.elim)
          obtain ⟨rfl, hM⟩ := hq
          subst M4
          refine W.eq (g2 := F0 m 45 ls [.int (dcV 0 (F (b + i)) (unV n f (i + 1)))]) rfl ?_
          refine lv_istore (lv' := [(5, .int (dcV 0 (F (b + i)) (unV n f (i + 1)))), (0, .ref r), (1, .ref q), (2, .int (nI 0)), (3, .int (nI 1)), (4, .int (nI i))]) hx hb d_T_readInto_45 hl (by decide) rfl (fun ls hl => ?_)
          refine lv_iload hx hb d_T_readInto_47 (lv_at hl 0 rfl) ?_
          refine lv_iconst (v := (-1)) hx hb d_T_readInto_49 (by decide) ?_
          refine lv_icmp_ne (tgt := 55) hx hb d_T_readInto_50 (by decide) (fun c_50 => ?_) (fun c_50 => ?_)
          · refine lv_aload_n hx hb d_T_readInto_55 rfl (lv_at hl 2 rfl) ?_
            refine lv_iload hx hb d_T_readInto_56 (lv_at hl 0 rfl) ?_
            have ne_h_r_h_q : r ≠ q := x_ne h_r h_q (by intro z; cases z)
            have ne_h_r_h_cv : r ≠ cv := x_ne h_r h_cv (by intro z; cases z)
            have ne_h_v_h_q : v ≠ q := x_ne h_v h_q (by intro z; cases z)
            refine x_callG hC (c_C_add l G M1 (Array.size H) q cv i g (dcV 0 (F (b + i)) (unV n f (i + 1))) (by omega) h_q h_cv) k_238 k_7 ⟨Nat.le_of_ble_eq_true rfl, Nat.le_of_ble_eq_true rfl⟩ ⟨Nat.le_of_ble_eq_true rfl, Nat.le_of_ble_eq_true rfl⟩ hw hl.1 (Nat.le_of_ble_eq_true rfl) d_T_readInto_58 (x_ivV hC k_238 k_281 k_236 k_237 (show _ ∧ _ ∧ _ = some 1 from by decide +kernel) (x_recv hC hw h_q rfl) rfl d_T_readInto_58) (fun rv M5 H locs hq hw => ?_) (fun _ _ _ _ _ h _ _ => h.elim)
            obtain ⟨rfl, h_q, h_cv, fr⟩ := hq
            have hF := hF.trans fr (by intro a ha; exact Or.inl ha)
            have h_r := fr.get h_r (by simp [ne_h_r_h_q, ne_h_r_h_cv])
            have h_v := fr.get h_v (by simp [ne_h_v_h_q, hvc])
            refine W.eq (g2 := F0 m 61 ls []) rfl ?_
            refine lv_iload hx hb d_T_readInto_61 (lv_at hl 5 rfl) ?_
            refine lv_iload_n hx hb d_T_readInto_63 rfl (lv_at hl 4 rfl) ?_
            refine lv_iadd hx hb d_T_readInto_64 ?_
            refine x_vi (y := nI (i + 1)) (nI_add _ _) ?_
            refine lv_istore (lv' := [(4, .int (nI (i + 1))), (5, .int (dcV 0 (F (b + i)) (unV n f (i + 1)))), (0, .ref r), (1, .ref q), (2, .int (nI 0)), (3, .int (nI 1))]) hx hb d_T_readInto_65 hl (by decide) rfl (fun ls hl => ?_)
            refine lv_goto (tgt := 18) hx hb d_T_readInto_67 (by decide) ?_
            exact ih18 (i + 1) (va_up g i (dcV 0 (F (b + i)) (unV n f (i + 1)))) (by omega) (by omega) (x_all1 hgd (Or.inl rfl)) (x_upS (f := sRow F 0 b) hrw rfl rfl) _ _ _ _ h_r h_v h_q h_cv hF hw (lv_sub hl [2, 3, 4, 5, 0] rfl)
          · exact absurd c_50 (hok _).ne
    exact HL18 (n + 1) (0) (g0) (by omega) (by omega) (fun j hj => absurd hj (Nat.not_lt_zero j)) (fun j hj => absurd hj (Nat.not_lt_zero j)) _ _ _ _ h_r h_v h_q h_cv hF hw (lv_sub hl [2, 3, 4, 1, 0] rfl)

set_option maxHeartbeats 400000 in
set_option maxRecDepth 100000 in
/-- Store.readInto 1 -/
theorem c_T_readInto1 (l : Launch) (G : xT) (M : xMem) (sz : Nat) (r v q cv n b : Nat) (en0 k0 : Int32) (f g0 F : Nat → Int32) (hn : n ≤ 60) (hb0 : ∀ j, j < n → byP (f j)) (hFB : ∀ i, i < n → F (b + i) = f i &&& nI 255) (hok : ∀ j, okB (F j)) (hvc : v ≠ cv) (h_r : M r = some (.inr (6, [.int en0, .int (nI n), .ref v]))) (h_v : M v = some (.inl (G.2.1 1, 60, .inl f))) (h_q : M q = some (.inr (2, [.ref cv, .int k0]))) (h_cv : M cv = some (.inl (G.2.1 0, 60, .inl g0))) : xMet l G y_T_readInto (Cond.code y_T_readInto b_T_readInto 6 (Option.some Jvm.ClassFile.FieldType.boolean) :: x_tbl) { frames := 2, cells := 0, slots := 0, locals := 44 } [.ref r, .ref q, .int (nI 1)] M sz (fun u M' => u = some (.int (zI (wellP F 1 b n))) ∧ ∃ k' g', M' q = some (.inr (2, [.ref cv, .int k'])) ∧ M' cv = some (.inl (G.2.1 0, 60, .inl g')) ∧ (wellP F 1 b n → k' = nI (stN 1 n) ∧ ∀ j, j < stN 1 n → g' j = sRow F 1 b j) ∧ xfr M M' [q, cv]) (fun _ _ => False) := by
  refine xMet.of (by decide) (Nat.le_of_ble_eq_true rfl) ?_
  intro p e s m below meth c ls hC hr hnm hno hsz hw hl
  obtain ⟨hx, hb, hown, hts, hK, hml, hlk, hz⟩ := id hC
  have hl : lv_has ls 6 [(0, .ref r), (1, .ref q), (2, .int (nI 1))] := hl
  have hF : xfr M M [q, cv] := xfr.rf
  refine lv_aload_n hx hb d_T_readInto_0 rfl (lv_at hl 1 rfl) ?_
  refine lv_iconst (v := nI 0) hx hb d_T_readInto_1 (by decide) ?_
  refine x_put (ty := .int) hC hw h_q rfl 1 (by decide) (hts _ k_92) (u_same (hts _ k_89)) rfl (by decide +kernel) rfl rfl (Nat.le_of_ble_eq_true rfl) d_T_readInto_2 (fun M1 H locs em fr hw => ?_)
  have em : M1 q = some (.inr (2, [.ref cv, .int (nI 0)])) := em
  have h_r := (fr _ (x_ne h_r h_q (by intro z; cases z))).trans h_r
  have h_v := (fr _ (x_ne h_v h_q (by intro z; cases z))).trans h_v
  have h_cv := (fr _ (x_ne h_cv h_q (by intro z; cases z))).trans h_cv
  have h_q := em
  have hF := hF.put em fr (Or.inl (by simp))
  refine lv_iload_n hx hb d_T_readInto_5 rfl (lv_at hl 2 rfl) ?_
  refine lv_if_ne (tgt := 13) hx hb d_T_readInto_6 (by decide) (fun c_6 => ?_) (fun c_6 => ?_)
  · refine lv_iconst (v := nI 2) hx hb d_T_readInto_13 (by decide) ?_
    refine lv_istore_n (lv' := [(3, .int (nI 2)), (0, .ref r), (1, .ref q), (2, .int (nI 1))]) hx hb d_T_readInto_14 rfl hl (by decide) rfl (fun ls hl => ?_)
    refine lv_iconst (v := nI 0) hx hb d_T_readInto_15 (by decide) ?_
    refine lv_istore (lv' := [(4, .int (nI 0)), (3, .int (nI 2)), (0, .ref r), (1, .ref q), (2, .int (nI 1))]) hx hb d_T_readInto_16 hl (by decide) rfl (fun ls hl => ?_)
    have HL18 : ∀ (z18 i : Nat) (g : Nat → Int32), i ≤ n / 2 → n / 2 + 1 ≤ i + z18 → (∀ j, j < i → goodP 1 (F (b + stI 1 j)) (F (b + stI 1 j + 1))) → (∀ j, j < i → g j = sRow F 1 b j) → (2 * i ≤ n) → ∀ (M1 : xMem), ∀ (H : Heap) (locs : List Loc) (ls : Array Slot), M1 r = some (.inr (6, [.int en0, .int (nI n), .ref v])) → M1 v = some (.inl (G.2.1 1, 60, .inl f)) → M1 q = some (.inr (2, [.ref cv, .int (nI i)])) → M1 cv = some (.inl (G.2.1 0, 60, .inl g)) → xfr M M1 [q, cv] → xWd G (xA M sz) s.heap M1 H locs → lv_has ls 6 [(0, .ref r), (1, .ref q), (2, .int (nI 1)), (3, .int (nI 2)), (4, .int (nI (2 * i)))] → W p l e { frames := 2, cells := 0, slots := 0, locals := 44 } s m ([.ref r, .ref q, .int (nI 1)] : List Value).toArray below meth c H locs 0 0 (xMQ below G M sz (fun u M' => u = some (.int (zI (wellP F 1 b n))) ∧ ∃ k' g', M' q = some (.inr (2, [.ref cv, .int k'])) ∧ M' cv = some (.inl (G.2.1 0, 60, .inl g')) ∧ (wellP F 1 b n → k' = nI (stN 1 n) ∧ ∀ j, j < stN 1 n → g' j = sRow F 1 b j) ∧ xfr M M' [q, cv]) (fun _ _ => False) s 0 0) (F0 m 18 ls []) := by
      intro z18
      induction z18 with
      | zero =>
        intro i g h1 h2
        omega
      | succ z18 ih18 =>
        intro i g hi18 hz18 hgd hrw hpar M1 H locs ls h_r h_v h_q h_cv hF hw hl
        refine lv_iload hx hb d_T_readInto_18 (lv_at hl 4 rfl) ?_
        refine lv_aload_n hx hb d_T_readInto_20 rfl (lv_at hl 0 rfl) ?_
        refine x_get hC hw h_r rfl 1 (by decide) (hts _ k_549) (fun _ h9 => h9) rfl d_T_readInto_21 ?_
        refine lv_icmp_ge (tgt := 70) hx hb d_T_readInto_24 (by decide) (fun c_24 => ?_) (fun c_24 => ?_)
        · have c_24 := (nI_leI (by omega) (by omega)).mp c_24
          refine lv_iconst (v := nI 1) hx hb d_T_readInto_70 (by decide) ?_
          have hen : i = stN 1 n := by simp only [stN]; omega
          have hyes : wellP F 1 b n := ⟨by omega, fun j hj => hgd j (by omega)⟩
          exact x_zret hC hr hw (by decide +kernel) (⟨congrArg (fun z => some (Value.int z)) ((zI_t hyes).symm), nI i, g, h_q, h_cv, fun _ => ⟨(by rw [hen]), fun j hj => hrw j (by omega)⟩, hF⟩) (Nat.le_of_ble_eq_true rfl) (Nat.le_of_ble_eq_true rfl) d_T_readInto_71
        · have c_24 := Nat.not_le.mp ((not_congr (nI_leI (by omega) (by omega))).mp c_24)
          refine lv_iload_n hx hb d_T_readInto_27 rfl (lv_at hl 2 rfl) ?_
          refine lv_aload_n hx hb d_T_readInto_28 rfl (lv_at hl 0 rfl) ?_
          refine lv_iload hx hb d_T_readInto_29 (lv_at hl 4 rfl) ?_
          refine x_callG hC (c_T_unsigned l G M1 (Array.size H) r v n (2 * i) en0 f (by omega) (by omega) hb0 h_r h_v) k_270 k_25 ⟨Nat.le_of_ble_eq_true rfl, Nat.le_of_ble_eq_true rfl⟩ ⟨Nat.le_of_ble_eq_true rfl, Nat.le_of_ble_eq_true rfl⟩ hw hl.1 (Nat.le_of_ble_eq_true rfl) d_T_readInto_31 (x_ivV hC k_270 k_266 k_268 kp_5 (show _ ∧ _ ∧ _ = some 1 from by decide +kernel) (x_recv hC hw h_r rfl) rfl d_T_readInto_31) (fun rv M2 H locs hq hw => ?_) (fun _ _ _ _ _ h _ _ => h.elim)
          obtain ⟨rfl, hM⟩ := hq
          subst M2
          refine W.eq (g2 := F0 m 34 ls [.int (unV n f (2 * i)), .int (nI 1)]) rfl ?_
          refine x_vi (y := F (b + 2 * i)) (by unfold unV; rw [if_pos (by omega), ← hFB _ (by omega)]) ?_
          refine lv_aload_n hx hb d_T_readInto_34 rfl (lv_at hl 0 rfl) ?_
          refine lv_iload hx hb d_T_readInto_35 (lv_at hl 4 rfl) ?_
          refine lv_iconst (v := nI 1) hx hb d_T_readInto_37 (by decide) ?_
          refine lv_iadd hx hb d_T_readInto_38 ?_
          refine x_vi (y := nI ((2 * i) + 1)) (nI_add _ _) ?_
          refine x_callG hC (c_T_unsigned l G M1 (Array.size H) r v n (2 * i + 1) en0 f (by omega) (by omega) hb0 h_r h_v) k_270 k_25 ⟨Nat.le_of_ble_eq_true rfl, Nat.le_of_ble_eq_true rfl⟩ ⟨Nat.le_of_ble_eq_true rfl, Nat.le_of_ble_eq_true rfl⟩ hw hl.1 (Nat.le_of_ble_eq_true rfl) d_T_readInto_39 (x_ivV hC k_270 k_266 k_268 kp_5 (show _ ∧ _ ∧ _ = some 1 from by decide +kernel) (x_recv hC hw h_r rfl) rfl d_T_readInto_39) (fun rv M3 H locs hq hw => ?_) (fun _ _ _ _ _ h _ _ => h.elim)
          obtain ⟨rfl, hM⟩ := hq
          subst M3
          refine W.eq (g2 := F0 m 42 ls [.int (unV n f (2 * i + 1)), .int (F (b + 2 * i)), .int (nI 1)]) rfl ?_
          refine x_callG hC (c_T_decode1 l G M1 (Array.size H) (F (b + 2 * i)) (unV n f (2 * i + 1))) k_277 k_25 ⟨Nat.le_of_ble_eq_true rfl, Nat.le_of_ble_eq_true rfl⟩ ⟨Nat.le_of_ble_eq_true rfl, Nat.le_of_ble_eq_true rfl⟩ hw hl.1 (Nat.le_of_ble_eq_true rfl) d_T_readInto_42 (x_ivS hC k_277 k_275 k_276 k_25 (show _ ∧ _ ∧ _ = some 3 from by decide +kernel) rfl d_T_readInto_42) (fun rv M4 H locs hq hw => ?_) (fun _ _ _ _ _ h _ _ => h.elim)
          obtain ⟨rfl, hM⟩ := hq
          subst M4
          refine W.eq (g2 := F0 m 45 ls [.int (dcV 1 (F (b + 2 * i)) (unV n f (2 * i + 1)))]) rfl ?_
          refine lv_istore (lv' := [(5, .int (dcV 1 (F (b + 2 * i)) (unV n f (2 * i + 1)))), (0, .ref r), (1, .ref q), (2, .int (nI 1)), (3, .int (nI 2)), (4, .int (nI (2 * i)))]) hx hb d_T_readInto_45 hl (by decide) rfl (fun ls hl => ?_)
          refine lv_iload hx hb d_T_readInto_47 (lv_at hl 0 rfl) ?_
          refine lv_iconst (v := (-1)) hx hb d_T_readInto_49 (by decide) ?_
          refine lv_icmp_ne (tgt := 55) hx hb d_T_readInto_50 (by decide) (fun c_50 => ?_) (fun c_50 => ?_)
          · have hrd := rd_ok (by decide) (by decide) hFB hok (by omega) c_50
            refine lv_aload_n hx hb d_T_readInto_55 rfl (lv_at hl 2 rfl) ?_
            refine lv_iload hx hb d_T_readInto_56 (lv_at hl 0 rfl) ?_
            have ne_h_r_h_q : r ≠ q := x_ne h_r h_q (by intro z; cases z)
            have ne_h_r_h_cv : r ≠ cv := x_ne h_r h_cv (by intro z; cases z)
            have ne_h_v_h_q : v ≠ q := x_ne h_v h_q (by intro z; cases z)
            refine x_callG hC (c_C_add l G M1 (Array.size H) q cv i g (dcV 1 (F (b + 2 * i)) (unV n f (2 * i + 1))) (by omega) h_q h_cv) k_238 k_7 ⟨Nat.le_of_ble_eq_true rfl, Nat.le_of_ble_eq_true rfl⟩ ⟨Nat.le_of_ble_eq_true rfl, Nat.le_of_ble_eq_true rfl⟩ hw hl.1 (Nat.le_of_ble_eq_true rfl) d_T_readInto_58 (x_ivV hC k_238 k_281 k_236 k_237 (show _ ∧ _ ∧ _ = some 1 from by decide +kernel) (x_recv hC hw h_q rfl) rfl d_T_readInto_58) (fun rv M5 H locs hq hw => ?_) (fun _ _ _ _ _ h _ _ => h.elim)
            obtain ⟨rfl, h_q, h_cv, fr⟩ := hq
            have hF := hF.trans fr (by intro a ha; exact Or.inl ha)
            have h_r := fr.get h_r (by simp [ne_h_r_h_q, ne_h_r_h_cv])
            have h_v := fr.get h_v (by simp [ne_h_v_h_q, hvc])
            refine W.eq (g2 := F0 m 61 ls []) rfl ?_
            refine lv_iload hx hb d_T_readInto_61 (lv_at hl 5 rfl) ?_
            refine lv_iload_n hx hb d_T_readInto_63 rfl (lv_at hl 4 rfl) ?_
            refine lv_iadd hx hb d_T_readInto_64 ?_
            refine x_vi (y := nI ((2 * i) + 2)) (nI_add _ _) ?_
            refine x_vi (y := nI (2 * (i + 1))) (congrArg nI (by omega)) ?_
            refine lv_istore (lv' := [(4, .int (nI (2 * (i + 1)))), (5, .int (dcV 1 (F (b + 2 * i)) (unV n f (2 * i + 1)))), (0, .ref r), (1, .ref q), (2, .int (nI 1)), (3, .int (nI 2))]) hx hb d_T_readInto_65 hl (by decide) rfl (fun ls hl => ?_)
            refine lv_goto (tgt := 18) hx hb d_T_readInto_67 (by decide) ?_
            exact ih18 (i + 1) (va_up g i (dcV 1 (F (b + 2 * i)) (unV n f (2 * i + 1)))) (by omega) (by omega) (x_all1 hgd (hrd.2.1)) (x_upS (f := sRow F 1 b) hrw rfl hrd.2.2) (by omega) _ _ _ _ h_r h_v h_q h_cv hF hw (lv_sub hl [2, 3, 4, 5, 0] rfl)
          · refine lv_iconst (v := nI 0) hx hb d_T_readInto_53 (by decide) ?_
            have hno := rd_no (by decide) (by decide) hFB hok (by omega) c_50
            exact x_zret hC hr hw (by decide +kernel) (⟨congrArg (fun z => some (Value.int z)) ((zI_f hno).symm), nI i, g, h_q, h_cv, fun h => absurd h hno, hF⟩) (Nat.le_of_ble_eq_true rfl) (Nat.le_of_ble_eq_true rfl) d_T_readInto_54
    exact HL18 (n / 2 + 1) (0) (g0) (by omega) (by omega) (fun j hj => absurd hj (Nat.not_lt_zero j)) (fun j hj => absurd hj (Nat.not_lt_zero j)) (by omega) _ _ _ _ h_r h_v h_q h_cv hF hw (lv_sub hl [2, 3, 4, 1, 0] rfl)
  · exact absurd c_6 (by decide +kernel)

set_option maxHeartbeats 400000 in
set_option maxRecDepth 100000 in
/-- Store.readInto 2 -/
theorem c_T_readInto2 (l : Launch) (G : xT) (M : xMem) (sz : Nat) (r v q cv n b : Nat) (en0 k0 : Int32) (f g0 F : Nat → Int32) (hn : n ≤ 60) (hb0 : ∀ j, j < n → byP (f j)) (hFB : ∀ i, i < n → F (b + i) = f i &&& nI 255) (hok : ∀ j, okB (F j)) (hvc : v ≠ cv) (h_r : M r = some (.inr (6, [.int en0, .int (nI n), .ref v]))) (h_v : M v = some (.inl (G.2.1 1, 60, .inl f))) (h_q : M q = some (.inr (2, [.ref cv, .int k0]))) (h_cv : M cv = some (.inl (G.2.1 0, 60, .inl g0))) : xMet l G y_T_readInto (Cond.code y_T_readInto b_T_readInto 6 (Option.some Jvm.ClassFile.FieldType.boolean) :: x_tbl) { frames := 2, cells := 0, slots := 0, locals := 44 } [.ref r, .ref q, .int (nI 2)] M sz (fun u M' => u = some (.int (zI (wellP F 2 b n))) ∧ ∃ k' g', M' q = some (.inr (2, [.ref cv, .int k'])) ∧ M' cv = some (.inl (G.2.1 0, 60, .inl g')) ∧ (wellP F 2 b n → k' = nI (stN 2 n) ∧ ∀ j, j < stN 2 n → g' j = sRow F 2 b j) ∧ xfr M M' [q, cv]) (fun _ _ => False) := by
  refine xMet.of (by decide) (Nat.le_of_ble_eq_true rfl) ?_
  intro p e s m below meth c ls hC hr hnm hno hsz hw hl
  obtain ⟨hx, hb, hown, hts, hK, hml, hlk, hz⟩ := id hC
  have hl : lv_has ls 6 [(0, .ref r), (1, .ref q), (2, .int (nI 2))] := hl
  have hF : xfr M M [q, cv] := xfr.rf
  refine lv_aload_n hx hb d_T_readInto_0 rfl (lv_at hl 1 rfl) ?_
  refine lv_iconst (v := nI 0) hx hb d_T_readInto_1 (by decide) ?_
  refine x_put (ty := .int) hC hw h_q rfl 1 (by decide) (hts _ k_92) (u_same (hts _ k_89)) rfl (by decide +kernel) rfl rfl (Nat.le_of_ble_eq_true rfl) d_T_readInto_2 (fun M1 H locs em fr hw => ?_)
  have em : M1 q = some (.inr (2, [.ref cv, .int (nI 0)])) := em
  have h_r := (fr _ (x_ne h_r h_q (by intro z; cases z))).trans h_r
  have h_v := (fr _ (x_ne h_v h_q (by intro z; cases z))).trans h_v
  have h_cv := (fr _ (x_ne h_cv h_q (by intro z; cases z))).trans h_cv
  have h_q := em
  have hF := hF.put em fr (Or.inl (by simp))
  refine lv_iload_n hx hb d_T_readInto_5 rfl (lv_at hl 2 rfl) ?_
  refine lv_if_ne (tgt := 13) hx hb d_T_readInto_6 (by decide) (fun c_6 => ?_) (fun c_6 => ?_)
  · refine lv_iconst (v := nI 2) hx hb d_T_readInto_13 (by decide) ?_
    refine lv_istore_n (lv' := [(3, .int (nI 2)), (0, .ref r), (1, .ref q), (2, .int (nI 2))]) hx hb d_T_readInto_14 rfl hl (by decide) rfl (fun ls hl => ?_)
    refine lv_iconst (v := nI 0) hx hb d_T_readInto_15 (by decide) ?_
    refine lv_istore (lv' := [(4, .int (nI 0)), (3, .int (nI 2)), (0, .ref r), (1, .ref q), (2, .int (nI 2))]) hx hb d_T_readInto_16 hl (by decide) rfl (fun ls hl => ?_)
    have HL18 : ∀ (z18 i : Nat) (g : Nat → Int32), i ≤ n / 2 → n / 2 + 1 ≤ i + z18 → (∀ j, j < i → goodP 2 (F (b + stI 2 j)) (F (b + stI 2 j + 1))) → (∀ j, j < i → g j = sRow F 2 b j) → (2 * i ≤ n) → ∀ (M1 : xMem), ∀ (H : Heap) (locs : List Loc) (ls : Array Slot), M1 r = some (.inr (6, [.int en0, .int (nI n), .ref v])) → M1 v = some (.inl (G.2.1 1, 60, .inl f)) → M1 q = some (.inr (2, [.ref cv, .int (nI i)])) → M1 cv = some (.inl (G.2.1 0, 60, .inl g)) → xfr M M1 [q, cv] → xWd G (xA M sz) s.heap M1 H locs → lv_has ls 6 [(0, .ref r), (1, .ref q), (2, .int (nI 2)), (3, .int (nI 2)), (4, .int (nI (2 * i)))] → W p l e { frames := 2, cells := 0, slots := 0, locals := 44 } s m ([.ref r, .ref q, .int (nI 2)] : List Value).toArray below meth c H locs 0 0 (xMQ below G M sz (fun u M' => u = some (.int (zI (wellP F 2 b n))) ∧ ∃ k' g', M' q = some (.inr (2, [.ref cv, .int k'])) ∧ M' cv = some (.inl (G.2.1 0, 60, .inl g')) ∧ (wellP F 2 b n → k' = nI (stN 2 n) ∧ ∀ j, j < stN 2 n → g' j = sRow F 2 b j) ∧ xfr M M' [q, cv]) (fun _ _ => False) s 0 0) (F0 m 18 ls []) := by
      intro z18
      induction z18 with
      | zero =>
        intro i g h1 h2
        omega
      | succ z18 ih18 =>
        intro i g hi18 hz18 hgd hrw hpar M1 H locs ls h_r h_v h_q h_cv hF hw hl
        refine lv_iload hx hb d_T_readInto_18 (lv_at hl 4 rfl) ?_
        refine lv_aload_n hx hb d_T_readInto_20 rfl (lv_at hl 0 rfl) ?_
        refine x_get hC hw h_r rfl 1 (by decide) (hts _ k_549) (fun _ h9 => h9) rfl d_T_readInto_21 ?_
        refine lv_icmp_ge (tgt := 70) hx hb d_T_readInto_24 (by decide) (fun c_24 => ?_) (fun c_24 => ?_)
        · have c_24 := (nI_leI (by omega) (by omega)).mp c_24
          refine lv_iconst (v := nI 1) hx hb d_T_readInto_70 (by decide) ?_
          have hen : i = stN 2 n := by simp only [stN]; omega
          have hyes : wellP F 2 b n := ⟨by omega, fun j hj => hgd j (by omega)⟩
          exact x_zret hC hr hw (by decide +kernel) (⟨congrArg (fun z => some (Value.int z)) ((zI_t hyes).symm), nI i, g, h_q, h_cv, fun _ => ⟨(by rw [hen]), fun j hj => hrw j (by omega)⟩, hF⟩) (Nat.le_of_ble_eq_true rfl) (Nat.le_of_ble_eq_true rfl) d_T_readInto_71
        · have c_24 := Nat.not_le.mp ((not_congr (nI_leI (by omega) (by omega))).mp c_24)
          refine lv_iload_n hx hb d_T_readInto_27 rfl (lv_at hl 2 rfl) ?_
          refine lv_aload_n hx hb d_T_readInto_28 rfl (lv_at hl 0 rfl) ?_
          refine lv_iload hx hb d_T_readInto_29 (lv_at hl 4 rfl) ?_
          refine x_callG hC (c_T_unsigned l G M1 (Array.size H) r v n (2 * i) en0 f (by omega) (by omega) hb0 h_r h_v) k_270 k_25 ⟨Nat.le_of_ble_eq_true rfl, Nat.le_of_ble_eq_true rfl⟩ ⟨Nat.le_of_ble_eq_true rfl, Nat.le_of_ble_eq_true rfl⟩ hw hl.1 (Nat.le_of_ble_eq_true rfl) d_T_readInto_31 (x_ivV hC k_270 k_266 k_268 kp_5 (show _ ∧ _ ∧ _ = some 1 from by decide +kernel) (x_recv hC hw h_r rfl) rfl d_T_readInto_31) (fun rv M2 H locs hq hw => ?_) (fun _ _ _ _ _ h _ _ => h.elim)
          obtain ⟨rfl, hM⟩ := hq
          subst M2
          refine W.eq (g2 := F0 m 34 ls [.int (unV n f (2 * i)), .int (nI 2)]) rfl ?_
          refine x_vi (y := F (b + 2 * i)) (by unfold unV; rw [if_pos (by omega), ← hFB _ (by omega)]) ?_
          refine lv_aload_n hx hb d_T_readInto_34 rfl (lv_at hl 0 rfl) ?_
          refine lv_iload hx hb d_T_readInto_35 (lv_at hl 4 rfl) ?_
          refine lv_iconst (v := nI 1) hx hb d_T_readInto_37 (by decide) ?_
          refine lv_iadd hx hb d_T_readInto_38 ?_
          refine x_vi (y := nI ((2 * i) + 1)) (nI_add _ _) ?_
          refine x_callG hC (c_T_unsigned l G M1 (Array.size H) r v n (2 * i + 1) en0 f (by omega) (by omega) hb0 h_r h_v) k_270 k_25 ⟨Nat.le_of_ble_eq_true rfl, Nat.le_of_ble_eq_true rfl⟩ ⟨Nat.le_of_ble_eq_true rfl, Nat.le_of_ble_eq_true rfl⟩ hw hl.1 (Nat.le_of_ble_eq_true rfl) d_T_readInto_39 (x_ivV hC k_270 k_266 k_268 kp_5 (show _ ∧ _ ∧ _ = some 1 from by decide +kernel) (x_recv hC hw h_r rfl) rfl d_T_readInto_39) (fun rv M3 H locs hq hw => ?_) (fun _ _ _ _ _ h _ _ => h.elim)
          obtain ⟨rfl, hM⟩ := hq
          subst M3
          refine W.eq (g2 := F0 m 42 ls [.int (unV n f (2 * i + 1)), .int (F (b + 2 * i)), .int (nI 2)]) rfl ?_
          refine x_callG hC (c_T_decode2 l G M1 (Array.size H) (F (b + 2 * i)) (unV n f (2 * i + 1))) k_277 k_25 ⟨Nat.le_of_ble_eq_true rfl, Nat.le_of_ble_eq_true rfl⟩ ⟨Nat.le_of_ble_eq_true rfl, Nat.le_of_ble_eq_true rfl⟩ hw hl.1 (Nat.le_of_ble_eq_true rfl) d_T_readInto_42 (x_ivS hC k_277 k_275 k_276 k_25 (show _ ∧ _ ∧ _ = some 3 from by decide +kernel) rfl d_T_readInto_42) (fun rv M4 H locs hq hw => ?_) (fun _ _ _ _ _ h _ _ => h.elim)
          obtain ⟨rfl, hM⟩ := hq
          subst M4
          refine W.eq (g2 := F0 m 45 ls [.int (dcV 2 (F (b + 2 * i)) (unV n f (2 * i + 1)))]) rfl ?_
          refine lv_istore (lv' := [(5, .int (dcV 2 (F (b + 2 * i)) (unV n f (2 * i + 1)))), (0, .ref r), (1, .ref q), (2, .int (nI 2)), (3, .int (nI 2)), (4, .int (nI (2 * i)))]) hx hb d_T_readInto_45 hl (by decide) rfl (fun ls hl => ?_)
          refine lv_iload hx hb d_T_readInto_47 (lv_at hl 0 rfl) ?_
          refine lv_iconst (v := (-1)) hx hb d_T_readInto_49 (by decide) ?_
          refine lv_icmp_ne (tgt := 55) hx hb d_T_readInto_50 (by decide) (fun c_50 => ?_) (fun c_50 => ?_)
          · have hrd := rd_ok (by decide) (by decide) hFB hok (by omega) c_50
            refine lv_aload_n hx hb d_T_readInto_55 rfl (lv_at hl 2 rfl) ?_
            refine lv_iload hx hb d_T_readInto_56 (lv_at hl 0 rfl) ?_
            have ne_h_r_h_q : r ≠ q := x_ne h_r h_q (by intro z; cases z)
            have ne_h_r_h_cv : r ≠ cv := x_ne h_r h_cv (by intro z; cases z)
            have ne_h_v_h_q : v ≠ q := x_ne h_v h_q (by intro z; cases z)
            refine x_callG hC (c_C_add l G M1 (Array.size H) q cv i g (dcV 2 (F (b + 2 * i)) (unV n f (2 * i + 1))) (by omega) h_q h_cv) k_238 k_7 ⟨Nat.le_of_ble_eq_true rfl, Nat.le_of_ble_eq_true rfl⟩ ⟨Nat.le_of_ble_eq_true rfl, Nat.le_of_ble_eq_true rfl⟩ hw hl.1 (Nat.le_of_ble_eq_true rfl) d_T_readInto_58 (x_ivV hC k_238 k_281 k_236 k_237 (show _ ∧ _ ∧ _ = some 1 from by decide +kernel) (x_recv hC hw h_q rfl) rfl d_T_readInto_58) (fun rv M5 H locs hq hw => ?_) (fun _ _ _ _ _ h _ _ => h.elim)
            obtain ⟨rfl, h_q, h_cv, fr⟩ := hq
            have hF := hF.trans fr (by intro a ha; exact Or.inl ha)
            have h_r := fr.get h_r (by simp [ne_h_r_h_q, ne_h_r_h_cv])
            have h_v := fr.get h_v (by simp [ne_h_v_h_q, hvc])
            refine W.eq (g2 := F0 m 61 ls []) rfl ?_
            refine lv_iload hx hb d_T_readInto_61 (lv_at hl 5 rfl) ?_
            refine lv_iload_n hx hb d_T_readInto_63 rfl (lv_at hl 4 rfl) ?_
            refine lv_iadd hx hb d_T_readInto_64 ?_
            refine x_vi (y := nI ((2 * i) + 2)) (nI_add _ _) ?_
            refine x_vi (y := nI (2 * (i + 1))) (congrArg nI (by omega)) ?_
            refine lv_istore (lv' := [(4, .int (nI (2 * (i + 1)))), (5, .int (dcV 2 (F (b + 2 * i)) (unV n f (2 * i + 1)))), (0, .ref r), (1, .ref q), (2, .int (nI 2)), (3, .int (nI 2))]) hx hb d_T_readInto_65 hl (by decide) rfl (fun ls hl => ?_)
            refine lv_goto (tgt := 18) hx hb d_T_readInto_67 (by decide) ?_
            exact ih18 (i + 1) (va_up g i (dcV 2 (F (b + 2 * i)) (unV n f (2 * i + 1)))) (by omega) (by omega) (x_all1 hgd (hrd.2.1)) (x_upS (f := sRow F 2 b) hrw rfl hrd.2.2) (by omega) _ _ _ _ h_r h_v h_q h_cv hF hw (lv_sub hl [2, 3, 4, 5, 0] rfl)
          · refine lv_iconst (v := nI 0) hx hb d_T_readInto_53 (by decide) ?_
            have hno := rd_no (by decide) (by decide) hFB hok (by omega) c_50
            exact x_zret hC hr hw (by decide +kernel) (⟨congrArg (fun z => some (Value.int z)) ((zI_f hno).symm), nI i, g, h_q, h_cv, fun h => absurd h hno, hF⟩) (Nat.le_of_ble_eq_true rfl) (Nat.le_of_ble_eq_true rfl) d_T_readInto_54
    exact HL18 (n / 2 + 1) (0) (g0) (by omega) (by omega) (fun j hj => absurd hj (Nat.not_lt_zero j)) (fun j hj => absurd hj (Nat.not_lt_zero j)) (by omega) _ _ _ _ h_r h_v h_q h_cv hF hw (lv_sub hl [2, 3, 4, 1, 0] rfl)
  · exact absurd c_6 (by decide +kernel)

set_option maxHeartbeats 400000 in
set_option maxRecDepth 100000 in
/-- Store.readInto 3 -/
theorem c_T_readInto3 (l : Launch) (G : xT) (M : xMem) (sz : Nat) (r v q cv n b : Nat) (en0 k0 : Int32) (f g0 F : Nat → Int32) (hn : n ≤ 60) (hb0 : ∀ j, j < n → byP (f j)) (hFB : ∀ i, i < n → F (b + i) = f i &&& nI 255) (hok : ∀ j, okB (F j)) (hvc : v ≠ cv) (h_r : M r = some (.inr (6, [.int en0, .int (nI n), .ref v]))) (h_v : M v = some (.inl (G.2.1 1, 60, .inl f))) (h_q : M q = some (.inr (2, [.ref cv, .int k0]))) (h_cv : M cv = some (.inl (G.2.1 0, 60, .inl g0))) : xMet l G y_T_readInto (Cond.code y_T_readInto b_T_readInto 6 (Option.some Jvm.ClassFile.FieldType.boolean) :: x_tbl) { frames := 2, cells := 0, slots := 0, locals := 44 } [.ref r, .ref q, .int (nI 3)] M sz (fun u M' => u = some (.int (zI (wellP F 3 b n))) ∧ ∃ k' g', M' q = some (.inr (2, [.ref cv, .int k'])) ∧ M' cv = some (.inl (G.2.1 0, 60, .inl g')) ∧ (wellP F 3 b n → k' = nI (stN 3 n) ∧ ∀ j, j < stN 3 n → g' j = sRow F 3 b j) ∧ xfr M M' [q, cv]) (fun _ _ => False) := by
  refine xMet.of (by decide) (Nat.le_of_ble_eq_true rfl) ?_
  intro p e s m below meth c ls hC hr hnm hno hsz hw hl
  obtain ⟨hx, hb, hown, hts, hK, hml, hlk, hz⟩ := id hC
  have hl : lv_has ls 6 [(0, .ref r), (1, .ref q), (2, .int (nI 3))] := hl
  have hF : xfr M M [q, cv] := xfr.rf
  refine lv_aload_n hx hb d_T_readInto_0 rfl (lv_at hl 1 rfl) ?_
  refine lv_iconst (v := nI 0) hx hb d_T_readInto_1 (by decide) ?_
  refine x_put (ty := .int) hC hw h_q rfl 1 (by decide) (hts _ k_92) (u_same (hts _ k_89)) rfl (by decide +kernel) rfl rfl (Nat.le_of_ble_eq_true rfl) d_T_readInto_2 (fun M1 H locs em fr hw => ?_)
  have em : M1 q = some (.inr (2, [.ref cv, .int (nI 0)])) := em
  have h_r := (fr _ (x_ne h_r h_q (by intro z; cases z))).trans h_r
  have h_v := (fr _ (x_ne h_v h_q (by intro z; cases z))).trans h_v
  have h_cv := (fr _ (x_ne h_cv h_q (by intro z; cases z))).trans h_cv
  have h_q := em
  have hF := hF.put em fr (Or.inl (by simp))
  refine lv_iload_n hx hb d_T_readInto_5 rfl (lv_at hl 2 rfl) ?_
  refine lv_if_ne (tgt := 13) hx hb d_T_readInto_6 (by decide) (fun c_6 => ?_) (fun c_6 => ?_)
  · refine lv_iconst (v := nI 2) hx hb d_T_readInto_13 (by decide) ?_
    refine lv_istore_n (lv' := [(3, .int (nI 2)), (0, .ref r), (1, .ref q), (2, .int (nI 3))]) hx hb d_T_readInto_14 rfl hl (by decide) rfl (fun ls hl => ?_)
    refine lv_iconst (v := nI 0) hx hb d_T_readInto_15 (by decide) ?_
    refine lv_istore (lv' := [(4, .int (nI 0)), (3, .int (nI 2)), (0, .ref r), (1, .ref q), (2, .int (nI 3))]) hx hb d_T_readInto_16 hl (by decide) rfl (fun ls hl => ?_)
    have HL18 : ∀ (z18 i : Nat) (g : Nat → Int32), i ≤ n / 2 → n / 2 + 1 ≤ i + z18 → (∀ j, j < i → goodP 3 (F (b + stI 3 j)) (F (b + stI 3 j + 1))) → (∀ j, j < i → g j = sRow F 3 b j) → (2 * i ≤ n) → ∀ (M1 : xMem), ∀ (H : Heap) (locs : List Loc) (ls : Array Slot), M1 r = some (.inr (6, [.int en0, .int (nI n), .ref v])) → M1 v = some (.inl (G.2.1 1, 60, .inl f)) → M1 q = some (.inr (2, [.ref cv, .int (nI i)])) → M1 cv = some (.inl (G.2.1 0, 60, .inl g)) → xfr M M1 [q, cv] → xWd G (xA M sz) s.heap M1 H locs → lv_has ls 6 [(0, .ref r), (1, .ref q), (2, .int (nI 3)), (3, .int (nI 2)), (4, .int (nI (2 * i)))] → W p l e { frames := 2, cells := 0, slots := 0, locals := 44 } s m ([.ref r, .ref q, .int (nI 3)] : List Value).toArray below meth c H locs 0 0 (xMQ below G M sz (fun u M' => u = some (.int (zI (wellP F 3 b n))) ∧ ∃ k' g', M' q = some (.inr (2, [.ref cv, .int k'])) ∧ M' cv = some (.inl (G.2.1 0, 60, .inl g')) ∧ (wellP F 3 b n → k' = nI (stN 3 n) ∧ ∀ j, j < stN 3 n → g' j = sRow F 3 b j) ∧ xfr M M' [q, cv]) (fun _ _ => False) s 0 0) (F0 m 18 ls []) := by
      intro z18
      induction z18 with
      | zero =>
        intro i g h1 h2
        omega
      | succ z18 ih18 =>
        intro i g hi18 hz18 hgd hrw hpar M1 H locs ls h_r h_v h_q h_cv hF hw hl
        refine lv_iload hx hb d_T_readInto_18 (lv_at hl 4 rfl) ?_
        refine lv_aload_n hx hb d_T_readInto_20 rfl (lv_at hl 0 rfl) ?_
        refine x_get hC hw h_r rfl 1 (by decide) (hts _ k_549) (fun _ h9 => h9) rfl d_T_readInto_21 ?_
        refine lv_icmp_ge (tgt := 70) hx hb d_T_readInto_24 (by decide) (fun c_24 => ?_) (fun c_24 => ?_)
        · have c_24 := (nI_leI (by omega) (by omega)).mp c_24
          refine lv_iconst (v := nI 1) hx hb d_T_readInto_70 (by decide) ?_
          have hen : i = stN 3 n := by simp only [stN]; omega
          have hyes : wellP F 3 b n := ⟨by omega, fun j hj => hgd j (by omega)⟩
          exact x_zret hC hr hw (by decide +kernel) (⟨congrArg (fun z => some (Value.int z)) ((zI_t hyes).symm), nI i, g, h_q, h_cv, fun _ => ⟨(by rw [hen]), fun j hj => hrw j (by omega)⟩, hF⟩) (Nat.le_of_ble_eq_true rfl) (Nat.le_of_ble_eq_true rfl) d_T_readInto_71
        · have c_24 := Nat.not_le.mp ((not_congr (nI_leI (by omega) (by omega))).mp c_24)
          refine lv_iload_n hx hb d_T_readInto_27 rfl (lv_at hl 2 rfl) ?_
          refine lv_aload_n hx hb d_T_readInto_28 rfl (lv_at hl 0 rfl) ?_
          refine lv_iload hx hb d_T_readInto_29 (lv_at hl 4 rfl) ?_
          refine x_callG hC (c_T_unsigned l G M1 (Array.size H) r v n (2 * i) en0 f (by omega) (by omega) hb0 h_r h_v) k_270 k_25 ⟨Nat.le_of_ble_eq_true rfl, Nat.le_of_ble_eq_true rfl⟩ ⟨Nat.le_of_ble_eq_true rfl, Nat.le_of_ble_eq_true rfl⟩ hw hl.1 (Nat.le_of_ble_eq_true rfl) d_T_readInto_31 (x_ivV hC k_270 k_266 k_268 kp_5 (show _ ∧ _ ∧ _ = some 1 from by decide +kernel) (x_recv hC hw h_r rfl) rfl d_T_readInto_31) (fun rv M2 H locs hq hw => ?_) (fun _ _ _ _ _ h _ _ => h.elim)
          obtain ⟨rfl, hM⟩ := hq
          subst M2
          refine W.eq (g2 := F0 m 34 ls [.int (unV n f (2 * i)), .int (nI 3)]) rfl ?_
          refine x_vi (y := F (b + 2 * i)) (by unfold unV; rw [if_pos (by omega), ← hFB _ (by omega)]) ?_
          refine lv_aload_n hx hb d_T_readInto_34 rfl (lv_at hl 0 rfl) ?_
          refine lv_iload hx hb d_T_readInto_35 (lv_at hl 4 rfl) ?_
          refine lv_iconst (v := nI 1) hx hb d_T_readInto_37 (by decide) ?_
          refine lv_iadd hx hb d_T_readInto_38 ?_
          refine x_vi (y := nI ((2 * i) + 1)) (nI_add _ _) ?_
          refine x_callG hC (c_T_unsigned l G M1 (Array.size H) r v n (2 * i + 1) en0 f (by omega) (by omega) hb0 h_r h_v) k_270 k_25 ⟨Nat.le_of_ble_eq_true rfl, Nat.le_of_ble_eq_true rfl⟩ ⟨Nat.le_of_ble_eq_true rfl, Nat.le_of_ble_eq_true rfl⟩ hw hl.1 (Nat.le_of_ble_eq_true rfl) d_T_readInto_39 (x_ivV hC k_270 k_266 k_268 kp_5 (show _ ∧ _ ∧ _ = some 1 from by decide +kernel) (x_recv hC hw h_r rfl) rfl d_T_readInto_39) (fun rv M3 H locs hq hw => ?_) (fun _ _ _ _ _ h _ _ => h.elim)
          obtain ⟨rfl, hM⟩ := hq
          subst M3
          refine W.eq (g2 := F0 m 42 ls [.int (unV n f (2 * i + 1)), .int (F (b + 2 * i)), .int (nI 3)]) rfl ?_
          refine x_callG hC (c_T_decode3 l G M1 (Array.size H) (F (b + 2 * i)) (unV n f (2 * i + 1))) k_277 k_25 ⟨Nat.le_of_ble_eq_true rfl, Nat.le_of_ble_eq_true rfl⟩ ⟨Nat.le_of_ble_eq_true rfl, Nat.le_of_ble_eq_true rfl⟩ hw hl.1 (Nat.le_of_ble_eq_true rfl) d_T_readInto_42 (x_ivS hC k_277 k_275 k_276 k_25 (show _ ∧ _ ∧ _ = some 3 from by decide +kernel) rfl d_T_readInto_42) (fun rv M4 H locs hq hw => ?_) (fun _ _ _ _ _ h _ _ => h.elim)
          obtain ⟨rfl, hM⟩ := hq
          subst M4
          refine W.eq (g2 := F0 m 45 ls [.int (dcV 3 (F (b + 2 * i)) (unV n f (2 * i + 1)))]) rfl ?_
          refine lv_istore (lv' := [(5, .int (dcV 3 (F (b + 2 * i)) (unV n f (2 * i + 1)))), (0, .ref r), (1, .ref q), (2, .int (nI 3)), (3, .int (nI 2)), (4, .int (nI (2 * i)))]) hx hb d_T_readInto_45 hl (by decide) rfl (fun ls hl => ?_)
          refine lv_iload hx hb d_T_readInto_47 (lv_at hl 0 rfl) ?_
          refine lv_iconst (v := (-1)) hx hb d_T_readInto_49 (by decide) ?_
          refine lv_icmp_ne (tgt := 55) hx hb d_T_readInto_50 (by decide) (fun c_50 => ?_) (fun c_50 => ?_)
          · have hrd := rd_ok (by decide) (by decide) hFB hok (by omega) c_50
            refine lv_aload_n hx hb d_T_readInto_55 rfl (lv_at hl 2 rfl) ?_
            refine lv_iload hx hb d_T_readInto_56 (lv_at hl 0 rfl) ?_
            have ne_h_r_h_q : r ≠ q := x_ne h_r h_q (by intro z; cases z)
            have ne_h_r_h_cv : r ≠ cv := x_ne h_r h_cv (by intro z; cases z)
            have ne_h_v_h_q : v ≠ q := x_ne h_v h_q (by intro z; cases z)
            refine x_callG hC (c_C_add l G M1 (Array.size H) q cv i g (dcV 3 (F (b + 2 * i)) (unV n f (2 * i + 1))) (by omega) h_q h_cv) k_238 k_7 ⟨Nat.le_of_ble_eq_true rfl, Nat.le_of_ble_eq_true rfl⟩ ⟨Nat.le_of_ble_eq_true rfl, Nat.le_of_ble_eq_true rfl⟩ hw hl.1 (Nat.le_of_ble_eq_true rfl) d_T_readInto_58 (x_ivV hC k_238 k_281 k_236 k_237 (show _ ∧ _ ∧ _ = some 1 from by decide +kernel) (x_recv hC hw h_q rfl) rfl d_T_readInto_58) (fun rv M5 H locs hq hw => ?_) (fun _ _ _ _ _ h _ _ => h.elim)
            obtain ⟨rfl, h_q, h_cv, fr⟩ := hq
            have hF := hF.trans fr (by intro a ha; exact Or.inl ha)
            have h_r := fr.get h_r (by simp [ne_h_r_h_q, ne_h_r_h_cv])
            have h_v := fr.get h_v (by simp [ne_h_v_h_q, hvc])
            refine W.eq (g2 := F0 m 61 ls []) rfl ?_
            refine lv_iload hx hb d_T_readInto_61 (lv_at hl 5 rfl) ?_
            refine lv_iload_n hx hb d_T_readInto_63 rfl (lv_at hl 4 rfl) ?_
            refine lv_iadd hx hb d_T_readInto_64 ?_
            refine x_vi (y := nI ((2 * i) + 2)) (nI_add _ _) ?_
            refine x_vi (y := nI (2 * (i + 1))) (congrArg nI (by omega)) ?_
            refine lv_istore (lv' := [(4, .int (nI (2 * (i + 1)))), (5, .int (dcV 3 (F (b + 2 * i)) (unV n f (2 * i + 1)))), (0, .ref r), (1, .ref q), (2, .int (nI 3)), (3, .int (nI 2))]) hx hb d_T_readInto_65 hl (by decide) rfl (fun ls hl => ?_)
            refine lv_goto (tgt := 18) hx hb d_T_readInto_67 (by decide) ?_
            exact ih18 (i + 1) (va_up g i (dcV 3 (F (b + 2 * i)) (unV n f (2 * i + 1)))) (by omega) (by omega) (x_all1 hgd (hrd.2.1)) (x_upS (f := sRow F 3 b) hrw rfl hrd.2.2) (by omega) _ _ _ _ h_r h_v h_q h_cv hF hw (lv_sub hl [2, 3, 4, 5, 0] rfl)
          · refine lv_iconst (v := nI 0) hx hb d_T_readInto_53 (by decide) ?_
            have hno := rd_no (by decide) (by decide) hFB hok (by omega) c_50
            exact x_zret hC hr hw (by decide +kernel) (⟨congrArg (fun z => some (Value.int z)) ((zI_f hno).symm), nI i, g, h_q, h_cv, fun h => absurd h hno, hF⟩) (Nat.le_of_ble_eq_true rfl) (Nat.le_of_ble_eq_true rfl) d_T_readInto_54
    exact HL18 (n / 2 + 1) (0) (g0) (by omega) (by omega) (fun j hj => absurd hj (Nat.not_lt_zero j)) (fun j hj => absurd hj (Nat.not_lt_zero j)) (by omega) _ _ _ _ h_r h_v h_q h_cv hF hw (lv_sub hl [2, 3, 4, 1, 0] rfl)
  · exact absurd c_6 (by decide +kernel)

set_option maxHeartbeats 400000 in
set_option maxRecDepth 100000 in
/-- writeCode 0 -/
theorem c_T_writeCode0 (l : Launch) (G : xT) (M : xMem) (sz : Nat) (r v n cn : Nat) (f : Nat → Int32) (hcn : cn < 256) (hroom : n + stS 0 ≤ 60) (h_r : M r = some (.inr (6, [.int (nI 0), .int (nI n), .ref v]))) (h_v : M v = some (.inl (G.2.1 1, 60, .inl f))) : xMet l G y_T_writeCode (Cond.code y_T_writeCode b_T_writeCode 2 none :: x_tbl) { frames := 1, cells := 0, slots := 0, locals := 21 } [.ref r, .int (nI cn)] M sz (fun u M' => u = none ∧ ∃ f' : Nat → Int32, M' r = some (.inr (6, [.int (nI 0), .int (nI (n + stS 0)), .ref v])) ∧ M' v = some (.inl (G.2.1 1, 60, .inl f')) ∧ ((f' n &&& nI 255) = nI (w0 0 cn) ∧ byP (f' n)) ∧ (0 ≠ 0 → (f' (n + 1) &&& nI 255) = nI (w1 0 cn) ∧ byP (f' (n + 1))) ∧ (∀ j, j < n → f' j = f j) ∧ xfr M M' [r, v]) (fun _ _ => False) := by
  refine xMet.of (by decide) (Nat.le_of_ble_eq_true rfl) ?_
  intro p e s m below meth c ls hC hr hnm hno hsz hw hl
  obtain ⟨hx, hb, hown, hts, hK, hml, hlk, hz⟩ := id hC
  have hl : lv_has ls 2 [(0, .ref r), (1, .int (nI cn))] := hl
  have hF : xfr M M [r, v] := xfr.rf
  have hroom : n + 1 ≤ 60 := hroom
  refine lv_aload_n hx hb d_T_writeCode_0 rfl (lv_at hl 0 rfl) ?_
  refine x_get hC hw h_r rfl 0 (by decide) (hts _ k_547) (fun _ h9 => h9) rfl d_T_writeCode_1 ?_
  refine lv_tableIn (off := 28) (tgt := 32) hx hb d_T_writeCode_4 (by decide +kernel) (by decide +kernel) (by decide +kernel) (by decide) ?_
  refine lv_aload_n hx hb d_T_writeCode_32 rfl (lv_at hl 0 rfl) ?_
  refine lv_iload_n hx hb d_T_writeCode_33 rfl (lv_at hl 1 rfl) ?_
  refine lv_i2b (v := (Int32.toInt8 (nI cn)).toInt32) hx hb d_T_writeCode_34 rfl ?_
  refine x_callG hC (c_T_add l G M (Array.size s.heap) r v (n) (nI 0) ((Int32.toInt8 (nI cn)).toInt32) (f) (by omega) (x_i2bV _) h_r h_v) k_574 k_25 ⟨Nat.le_of_ble_eq_true rfl, Nat.le_of_ble_eq_true rfl⟩ ⟨Nat.le_of_ble_eq_true rfl, Nat.le_of_ble_eq_true rfl⟩ hw hl.1 (Nat.le_of_ble_eq_true rfl) d_T_writeCode_35 (x_ivV hC k_574 k_682 k_572 k_573 (show _ ∧ _ ∧ _ = some 1 from by decide +kernel) (x_recv hC hw h_r rfl) rfl d_T_writeCode_35) (fun rv M1 H locs hq hw => ?_) (fun _ _ _ _ _ h _ _ => h.elim)
  obtain ⟨rfl, h_r, h_v, fr⟩ := hq
  have hF := hF.trans fr (by intro a ha; exact Or.inl ha)
  refine W.eq (g2 := F0 m 38 ls []) rfl ?_
  refine lv_goto (tgt := 93) hx hb d_T_writeCode_38 (by decide) ?_
  exact x_vret hC hr hw (⟨rfl, _, h_r, h_v, (by rw [va_up_self]; exact ⟨(by_w _ (hcn)).2, x_i2bV _⟩), (fun h => absurd rfl h), (fun j hj => va_up_ne _ _ (by omega)), hF⟩) (Nat.le_of_ble_eq_true rfl) (Nat.le_of_ble_eq_true rfl) d_T_writeCode_93

set_option maxHeartbeats 400000 in
set_option maxRecDepth 100000 in
/-- writeCode 1 -/
theorem c_T_writeCode1 (l : Launch) (G : xT) (M : xMem) (sz : Nat) (r v n cn : Nat) (f : Nat → Int32) (hcn : cn < 256) (hroom : n + stS 1 ≤ 60) (h_r : M r = some (.inr (6, [.int (nI 1), .int (nI n), .ref v]))) (h_v : M v = some (.inl (G.2.1 1, 60, .inl f))) : xMet l G y_T_writeCode (Cond.code y_T_writeCode b_T_writeCode 2 none :: x_tbl) { frames := 1, cells := 0, slots := 0, locals := 21 } [.ref r, .int (nI cn)] M sz (fun u M' => u = none ∧ ∃ f' : Nat → Int32, M' r = some (.inr (6, [.int (nI 1), .int (nI (n + stS 1)), .ref v])) ∧ M' v = some (.inl (G.2.1 1, 60, .inl f')) ∧ ((f' n &&& nI 255) = nI (w0 1 cn) ∧ byP (f' n)) ∧ (1 ≠ 0 → (f' (n + 1) &&& nI 255) = nI (w1 1 cn) ∧ byP (f' (n + 1))) ∧ (∀ j, j < n → f' j = f j) ∧ xfr M M' [r, v]) (fun _ _ => False) := by
  refine xMet.of (by decide) (Nat.le_of_ble_eq_true rfl) ?_
  intro p e s m below meth c ls hC hr hnm hno hsz hw hl
  obtain ⟨hx, hb, hown, hts, hK, hml, hlk, hz⟩ := id hC
  have hl : lv_has ls 2 [(0, .ref r), (1, .int (nI cn))] := hl
  have hF : xfr M M [r, v] := xfr.rf
  have hroom : n + 2 ≤ 60 := hroom
  refine lv_aload_n hx hb d_T_writeCode_0 rfl (lv_at hl 0 rfl) ?_
  refine x_get hC hw h_r rfl 0 (by decide) (hts _ k_547) (fun _ h9 => h9) rfl d_T_writeCode_1 ?_
  refine lv_tableIn (off := 37) (tgt := 41) hx hb d_T_writeCode_4 (by decide +kernel) (by decide +kernel) (by decide +kernel) (by decide) ?_
  refine lv_aload_n hx hb d_T_writeCode_41 rfl (lv_at hl 0 rfl) ?_
  refine lv_iconst (v := nI 0) hx hb d_T_writeCode_42 (by decide) ?_
  refine x_callG hC (c_T_add l G M (Array.size s.heap) r v (n) (nI 1) (nI 0) (f) (by omega) (byP_0) h_r h_v) k_574 k_25 ⟨Nat.le_of_ble_eq_true rfl, Nat.le_of_ble_eq_true rfl⟩ ⟨Nat.le_of_ble_eq_true rfl, Nat.le_of_ble_eq_true rfl⟩ hw hl.1 (Nat.le_of_ble_eq_true rfl) d_T_writeCode_43 (x_ivV hC k_574 k_682 k_572 k_573 (show _ ∧ _ ∧ _ = some 1 from by decide +kernel) (x_recv hC hw h_r rfl) rfl d_T_writeCode_43) (fun rv M1 H locs hq hw => ?_) (fun _ _ _ _ _ h _ _ => h.elim)
  obtain ⟨rfl, h_r, h_v, fr⟩ := hq
  have hF := hF.trans fr (by intro a ha; exact Or.inl ha)
  refine W.eq (g2 := F0 m 46 ls []) rfl ?_
  refine lv_aload_n hx hb d_T_writeCode_46 rfl (lv_at hl 0 rfl) ?_
  refine lv_iload_n hx hb d_T_writeCode_47 rfl (lv_at hl 1 rfl) ?_
  refine lv_i2b (v := (Int32.toInt8 (nI cn)).toInt32) hx hb d_T_writeCode_48 rfl ?_
  refine x_callG hC (c_T_add l G M1 (Array.size H) r v (n + 1) (nI 1) ((Int32.toInt8 (nI cn)).toInt32) (va_up f (n) (nI 0)) (by omega) (x_i2bV _) h_r h_v) k_574 k_25 ⟨Nat.le_of_ble_eq_true rfl, Nat.le_of_ble_eq_true rfl⟩ ⟨Nat.le_of_ble_eq_true rfl, Nat.le_of_ble_eq_true rfl⟩ hw hl.1 (Nat.le_of_ble_eq_true rfl) d_T_writeCode_49 (x_ivV hC k_574 k_682 k_572 k_573 (show _ ∧ _ ∧ _ = some 1 from by decide +kernel) (x_recv hC hw h_r rfl) rfl d_T_writeCode_49) (fun rv M2 H locs hq hw => ?_) (fun _ _ _ _ _ h _ _ => h.elim)
  obtain ⟨rfl, h_r, h_v, fr⟩ := hq
  have hF := hF.trans fr (by intro a ha; exact Or.inl ha)
  refine W.eq (g2 := F0 m 52 ls []) rfl ?_
  refine lv_goto (tgt := 93) hx hb d_T_writeCode_52 (by decide) ?_
  exact x_vret hC hr hw (⟨rfl, _, h_r, h_v, (by rw [va_up_ne _ _ (by omega), va_up_self]; exact ⟨and_0, byP_0⟩), (fun _ => by rw [va_up_self]; exact ⟨(by_w _ (hcn)).2, x_i2bV _⟩), (fun j hj => by rw [va_up_ne _ _ (by omega), va_up_ne _ _ (by omega)]), hF⟩) (Nat.le_of_ble_eq_true rfl) (Nat.le_of_ble_eq_true rfl) d_T_writeCode_93

set_option maxHeartbeats 400000 in
set_option maxRecDepth 100000 in
/-- writeCode 2 -/
theorem c_T_writeCode2 (l : Launch) (G : xT) (M : xMem) (sz : Nat) (r v n cn : Nat) (f : Nat → Int32) (hcn : cn < 256) (hroom : n + stS 2 ≤ 60) (h_r : M r = some (.inr (6, [.int (nI 2), .int (nI n), .ref v]))) (h_v : M v = some (.inl (G.2.1 1, 60, .inl f))) : xMet l G y_T_writeCode (Cond.code y_T_writeCode b_T_writeCode 2 none :: x_tbl) { frames := 1, cells := 0, slots := 0, locals := 21 } [.ref r, .int (nI cn)] M sz (fun u M' => u = none ∧ ∃ f' : Nat → Int32, M' r = some (.inr (6, [.int (nI 2), .int (nI (n + stS 2)), .ref v])) ∧ M' v = some (.inl (G.2.1 1, 60, .inl f')) ∧ ((f' n &&& nI 255) = nI (w0 2 cn) ∧ byP (f' n)) ∧ (2 ≠ 0 → (f' (n + 1) &&& nI 255) = nI (w1 2 cn) ∧ byP (f' (n + 1))) ∧ (∀ j, j < n → f' j = f j) ∧ xfr M M' [r, v]) (fun _ _ => False) := by
  refine xMet.of (by decide) (Nat.le_of_ble_eq_true rfl) ?_
  intro p e s m below meth c ls hC hr hnm hno hsz hw hl
  obtain ⟨hx, hb, hown, hts, hK, hml, hlk, hz⟩ := id hC
  have hl : lv_has ls 2 [(0, .ref r), (1, .int (nI cn))] := hl
  have hF : xfr M M [r, v] := xfr.rf
  have hroom : n + 2 ≤ 60 := hroom
  refine lv_aload_n hx hb d_T_writeCode_0 rfl (lv_at hl 0 rfl) ?_
  refine x_get hC hw h_r rfl 0 (by decide) (hts _ k_547) (fun _ h9 => h9) rfl d_T_writeCode_1 ?_
  refine lv_tableIn (off := 51) (tgt := 55) hx hb d_T_writeCode_4 (by decide +kernel) (by decide +kernel) (by decide +kernel) (by decide) ?_
  refine lv_aload_n hx hb d_T_writeCode_55 rfl (lv_at hl 0 rfl) ?_
  refine lv_iload_n hx hb d_T_writeCode_56 rfl (lv_at hl 1 rfl) ?_
  refine lv_i2b (v := (Int32.toInt8 (nI cn)).toInt32) hx hb d_T_writeCode_57 rfl ?_
  refine x_callG hC (c_T_add l G M (Array.size s.heap) r v (n) (nI 2) ((Int32.toInt8 (nI cn)).toInt32) (f) (by omega) (x_i2bV _) h_r h_v) k_574 k_25 ⟨Nat.le_of_ble_eq_true rfl, Nat.le_of_ble_eq_true rfl⟩ ⟨Nat.le_of_ble_eq_true rfl, Nat.le_of_ble_eq_true rfl⟩ hw hl.1 (Nat.le_of_ble_eq_true rfl) d_T_writeCode_58 (x_ivV hC k_574 k_682 k_572 k_573 (show _ ∧ _ ∧ _ = some 1 from by decide +kernel) (x_recv hC hw h_r rfl) rfl d_T_writeCode_58) (fun rv M1 H locs hq hw => ?_) (fun _ _ _ _ _ h _ _ => h.elim)
  obtain ⟨rfl, h_r, h_v, fr⟩ := hq
  have hF := hF.trans fr (by intro a ha; exact Or.inl ha)
  refine W.eq (g2 := F0 m 61 ls []) rfl ?_
  refine lv_aload_n hx hb d_T_writeCode_61 rfl (lv_at hl 0 rfl) ?_
  refine lv_iconst (v := nI 0) hx hb d_T_writeCode_62 (by decide) ?_
  refine x_callG hC (c_T_add l G M1 (Array.size H) r v (n + 1) (nI 2) (nI 0) (va_up f (n) ((Int32.toInt8 (nI cn)).toInt32)) (by omega) (byP_0) h_r h_v) k_574 k_25 ⟨Nat.le_of_ble_eq_true rfl, Nat.le_of_ble_eq_true rfl⟩ ⟨Nat.le_of_ble_eq_true rfl, Nat.le_of_ble_eq_true rfl⟩ hw hl.1 (Nat.le_of_ble_eq_true rfl) d_T_writeCode_63 (x_ivV hC k_574 k_682 k_572 k_573 (show _ ∧ _ ∧ _ = some 1 from by decide +kernel) (x_recv hC hw h_r rfl) rfl d_T_writeCode_63) (fun rv M2 H locs hq hw => ?_) (fun _ _ _ _ _ h _ _ => h.elim)
  obtain ⟨rfl, h_r, h_v, fr⟩ := hq
  have hF := hF.trans fr (by intro a ha; exact Or.inl ha)
  refine W.eq (g2 := F0 m 66 ls []) rfl ?_
  refine lv_goto (tgt := 93) hx hb d_T_writeCode_66 (by decide) ?_
  exact x_vret hC hr hw (⟨rfl, _, h_r, h_v, (by rw [va_up_ne _ _ (by omega), va_up_self]; exact ⟨(by_w _ (hcn)).2, x_i2bV _⟩), (fun _ => by rw [va_up_self]; exact ⟨and_0, byP_0⟩), (fun j hj => by rw [va_up_ne _ _ (by omega), va_up_ne _ _ (by omega)]), hF⟩) (Nat.le_of_ble_eq_true rfl) (Nat.le_of_ble_eq_true rfl) d_T_writeCode_93

set_option maxHeartbeats 400000 in
set_option maxRecDepth 100000 in
/-- writeCode 3 -/
theorem c_T_writeCode3 (l : Launch) (G : xT) (M : xMem) (sz : Nat) (r v n cn : Nat) (f : Nat → Int32) (hcn : cn < 256) (hroom : n + stS 3 ≤ 60) (h_r : M r = some (.inr (6, [.int (nI 3), .int (nI n), .ref v]))) (h_v : M v = some (.inl (G.2.1 1, 60, .inl f))) : xMet l G y_T_writeCode (Cond.code y_T_writeCode b_T_writeCode 2 none :: x_tbl) { frames := 1, cells := 0, slots := 0, locals := 21 } [.ref r, .int (nI cn)] M sz (fun u M' => u = none ∧ ∃ f' : Nat → Int32, M' r = some (.inr (6, [.int (nI 3), .int (nI (n + stS 3)), .ref v])) ∧ M' v = some (.inl (G.2.1 1, 60, .inl f')) ∧ ((f' n &&& nI 255) = nI (w0 3 cn) ∧ byP (f' n)) ∧ (3 ≠ 0 → (f' (n + 1) &&& nI 255) = nI (w1 3 cn) ∧ byP (f' (n + 1))) ∧ (∀ j, j < n → f' j = f j) ∧ xfr M M' [r, v]) (fun _ _ => False) := by
  refine xMet.of (by decide) (Nat.le_of_ble_eq_true rfl) ?_
  intro p e s m below meth c ls hC hr hnm hno hsz hw hl
  obtain ⟨hx, hb, hown, hts, hK, hml, hlk, hz⟩ := id hC
  have hl : lv_has ls 2 [(0, .ref r), (1, .int (nI cn))] := hl
  have hF : xfr M M [r, v] := xfr.rf
  have hroom : n + 2 ≤ 60 := hroom
  refine lv_aload_n hx hb d_T_writeCode_0 rfl (lv_at hl 0 rfl) ?_
  refine x_get hC hw h_r rfl 0 (by decide) (hts _ k_547) (fun _ h9 => h9) rfl d_T_writeCode_1 ?_
  refine lv_tableOut (tgt := 69) hx hb d_T_writeCode_4 (by decide +kernel) (by decide) ?_
  refine lv_aload_n hx hb d_T_writeCode_69 rfl (lv_at hl 0 rfl) ?_
  refine lv_iload_n hx hb d_T_writeCode_70 rfl (lv_at hl 1 rfl) ?_
  refine lv_iconst (v := nI 4) hx hb d_T_writeCode_71 (by decide) ?_
  refine lv_ishr hx hb d_T_writeCode_72 ?_
  refine lv_bipush (v := nI 15) hx hb d_T_writeCode_73 (by decide) ?_
  refine lv_iand hx hb d_T_writeCode_75 ?_
  refine x_vi (y := nI (cn / 16)) (hx_hi cn hcn) ?_
  refine x_callG hC (c_T_digitOf l G M (Array.size s.heap) (cn / 16) (by omega)) k_685 k_25 ⟨Nat.le_of_ble_eq_true rfl, Nat.le_of_ble_eq_true rfl⟩ ⟨Nat.le_of_ble_eq_true rfl, Nat.le_of_ble_eq_true rfl⟩ hw hl.1 (Nat.le_of_ble_eq_true rfl) d_T_writeCode_76 (x_ivS hC k_685 k_683 k_684 k_25 (show _ ∧ _ ∧ _ = some 1 from by decide +kernel) rfl d_T_writeCode_76) (fun rv M1 H locs hq hw => ?_) (fun _ _ _ _ _ h _ _ => h.elim)
  obtain ⟨rfl, hM⟩ := hq
  subst M1
  refine W.eq (g2 := F0 m 79 ls [.int ((Int32.toInt8 (nI (hxN (cn / 16)))).toInt32), .ref r]) rfl ?_
  refine x_callG hC (c_T_add l G M (Array.size H) r v (n) (nI 3) ((Int32.toInt8 (nI (hxN (cn / 16)))).toInt32) (f) (by omega) (x_i2bV _) h_r h_v) k_574 k_25 ⟨Nat.le_of_ble_eq_true rfl, Nat.le_of_ble_eq_true rfl⟩ ⟨Nat.le_of_ble_eq_true rfl, Nat.le_of_ble_eq_true rfl⟩ hw hl.1 (Nat.le_of_ble_eq_true rfl) d_T_writeCode_79 (x_ivV hC k_574 k_682 k_572 k_573 (show _ ∧ _ ∧ _ = some 1 from by decide +kernel) (x_recv hC hw h_r rfl) rfl d_T_writeCode_79) (fun rv M2 H locs hq hw => ?_) (fun _ _ _ _ _ h _ _ => h.elim)
  obtain ⟨rfl, h_r, h_v, fr⟩ := hq
  have hF := hF.trans fr (by intro a ha; exact Or.inl ha)
  refine W.eq (g2 := F0 m 82 ls []) rfl ?_
  refine lv_aload_n hx hb d_T_writeCode_82 rfl (lv_at hl 0 rfl) ?_
  refine lv_iload_n hx hb d_T_writeCode_83 rfl (lv_at hl 1 rfl) ?_
  refine lv_bipush (v := nI 15) hx hb d_T_writeCode_84 (by decide) ?_
  refine lv_iand hx hb d_T_writeCode_86 ?_
  refine x_vi (y := nI (cn % 16)) (hx_lo cn hcn) ?_
  refine x_callG hC (c_T_digitOf l G M2 (Array.size H) (cn % 16) (by omega)) k_685 k_25 ⟨Nat.le_of_ble_eq_true rfl, Nat.le_of_ble_eq_true rfl⟩ ⟨Nat.le_of_ble_eq_true rfl, Nat.le_of_ble_eq_true rfl⟩ hw hl.1 (Nat.le_of_ble_eq_true rfl) d_T_writeCode_87 (x_ivS hC k_685 k_683 k_684 k_25 (show _ ∧ _ ∧ _ = some 1 from by decide +kernel) rfl d_T_writeCode_87) (fun rv M3 H locs hq hw => ?_) (fun _ _ _ _ _ h _ _ => h.elim)
  obtain ⟨rfl, hM⟩ := hq
  subst M3
  refine W.eq (g2 := F0 m 90 ls [.int ((Int32.toInt8 (nI (hxN (cn % 16)))).toInt32), .ref r]) rfl ?_
  refine x_callG hC (c_T_add l G M2 (Array.size H) r v (n + 1) (nI 3) ((Int32.toInt8 (nI (hxN (cn % 16)))).toInt32) (va_up f (n) ((Int32.toInt8 (nI (hxN (cn / 16)))).toInt32)) (by omega) (x_i2bV _) h_r h_v) k_574 k_25 ⟨Nat.le_of_ble_eq_true rfl, Nat.le_of_ble_eq_true rfl⟩ ⟨Nat.le_of_ble_eq_true rfl, Nat.le_of_ble_eq_true rfl⟩ hw hl.1 (Nat.le_of_ble_eq_true rfl) d_T_writeCode_90 (x_ivV hC k_574 k_682 k_572 k_573 (show _ ∧ _ ∧ _ = some 1 from by decide +kernel) (x_recv hC hw h_r rfl) rfl d_T_writeCode_90) (fun rv M4 H locs hq hw => ?_) (fun _ _ _ _ _ h _ _ => h.elim)
  obtain ⟨rfl, h_r, h_v, fr⟩ := hq
  have hF := hF.trans fr (by intro a ha; exact Or.inl ha)
  refine W.eq (g2 := F0 m 93 ls []) rfl ?_
  exact x_vret hC hr hw (⟨rfl, _, h_r, h_v, (by rw [va_up_ne _ _ (by omega), va_up_self]; exact ⟨(by_w _ (hxN_lt (by omega))).2, x_i2bV _⟩), (fun _ => by rw [va_up_self]; exact ⟨(by_w _ (hxN_lt (by omega))).2, x_i2bV _⟩), (fun j hj => by rw [va_up_ne _ _ (by omega), va_up_ne _ _ (by omega)]), hF⟩) (Nat.le_of_ble_eq_true rfl) (Nat.le_of_ble_eq_true rfl) d_T_writeCode_93

theorem c_T_writeCode (l : Launch) (G : xT) (M : xMem) (sz : Nat) (r v n cn en : Nat) (f : Nat → Int32) (hen : en < 4) (hcn : cn < 256) (hroom : n + stS en ≤ 60) (h_r : M r = some (.inr (6, [.int (nI en), .int (nI n), .ref v]))) (h_v : M v = some (.inl (G.2.1 1, 60, .inl f))) : xMet l G y_T_writeCode (Cond.code y_T_writeCode b_T_writeCode 2 none :: x_tbl) { frames := 1, cells := 0, slots := 0, locals := 21 } [.ref r, .int (nI cn)] M sz (fun u M' => u = none ∧ ∃ f' : Nat → Int32, M' r = some (.inr (6, [.int (nI en), .int (nI (n + stS en)), .ref v])) ∧ M' v = some (.inl (G.2.1 1, 60, .inl f')) ∧ ((f' n &&& nI 255) = nI (w0 en cn) ∧ byP (f' n)) ∧ (en ≠ 0 → (f' (n + 1) &&& nI 255) = nI (w1 en cn) ∧ byP (f' (n + 1))) ∧ (∀ j, j < n → f' j = f j) ∧ xfr M M' [r, v]) (fun _ _ => False) := by
  match en, hen, hroom, h_r with
  | 0, _, hroom, h_r => exact c_T_writeCode0 l G M sz r v n cn f hcn hroom h_r h_v
  | 1, _, hroom, h_r => exact c_T_writeCode1 l G M sz r v n cn f hcn hroom h_r h_v
  | 2, _, hroom, h_r => exact c_T_writeCode2 l G M sz r v n cn f hcn hroom h_r h_v
  | 3, _, hroom, h_r => exact c_T_writeCode3 l G M sz r v n cn f hcn hroom h_r h_v
theorem c_T_readInto (l : Launch) (G : xT) (M : xMem) (sz : Nat) (r v q cv n b en : Nat) (en0 k0 : Int32) (f g0 F : Nat → Int32) (hen : en < 4) (hn : n ≤ 60) (hb0 : ∀ j, j < n → byP (f j)) (hFB : ∀ i, i < n → F (b + i) = f i &&& nI 255) (hok : ∀ j, okB (F j)) (hvc : v ≠ cv) (h_r : M r = some (.inr (6, [.int en0, .int (nI n), .ref v]))) (h_v : M v = some (.inl (G.2.1 1, 60, .inl f))) (h_q : M q = some (.inr (2, [.ref cv, .int k0]))) (h_cv : M cv = some (.inl (G.2.1 0, 60, .inl g0))) : xMet l G y_T_readInto (Cond.code y_T_readInto b_T_readInto 6 (Option.some Jvm.ClassFile.FieldType.boolean) :: x_tbl) { frames := 2, cells := 0, slots := 0, locals := 44 } [.ref r, .ref q, .int (nI en)] M sz (fun u M' => u = some (.int (zI (wellP F en b n))) ∧ ∃ k' g', M' q = some (.inr (2, [.ref cv, .int k'])) ∧ M' cv = some (.inl (G.2.1 0, 60, .inl g')) ∧ (wellP F en b n → k' = nI (stN en n) ∧ ∀ j, j < stN en n → g' j = sRow F en b j) ∧ xfr M M' [q, cv]) (fun _ _ => False) := by
  match en, hen with
  | 0, _ => exact c_T_readInto0 l G M sz r v q cv n b en0 k0 f g0 F hn hb0 hFB hok hvc h_r h_v h_q h_cv
  | 1, _ => exact c_T_readInto1 l G M sz r v q cv n b en0 k0 f g0 F hn hb0 hFB hok hvc h_r h_v h_q h_cv
  | 2, _ => exact c_T_readInto2 l G M sz r v q cv n b en0 k0 f g0 F hn hb0 hFB hok hvc h_r h_v h_q h_cv
  | 3, _ => exact c_T_readInto3 l G M sz r v q cv n b en0 k0 f g0 F hn hb0 hFB hok hvc h_r h_v h_q h_cv
set_option maxHeartbeats 400000 in
set_option maxRecDepth 100000 in
/-- Store.write -/
theorem c_T_write (l : Launch) (G : xT) (M : xMem) (sz : Nat) (r v q cv k en : Nat) (n0 : Int32) (f0 g : Nat → Int32) (hen : en < 4) (hk : k ≤ 60) (hroom : stI en k ≤ 60) (hg : ∀ i, i < k → okB (g i)) (hvc : v ≠ cv) (h_r : M r = some (.inr (6, [.int (nI en), .int n0, .ref v]))) (h_v : M v = some (.inl (G.2.1 1, 60, .inl f0))) (h_q : M q = some (.inr (2, [.ref cv, .int (nI k)]))) (h_cv : M cv = some (.inl (G.2.1 0, 60, .inl g))) : xMet l G y_T_write (Cond.code y_T_write b_T_write 3 none :: x_tbl) { frames := 2, cells := 0, slots := 0, locals := 42 } [.ref r, .ref q] M sz (fun u M' => u = none ∧ ∃ f' : Nat → Int32, M' r = some (.inr (6, [.int (nI en), .int (nI (stI en k)), .ref v])) ∧ M' v = some (.inl (G.2.1 1, 60, .inl f')) ∧ wrS en k g f' ∧ xfr M M' [r, v]) (fun _ _ => False) := by
  refine xMet.of (by decide) (Nat.le_of_ble_eq_true rfl) ?_
  intro p e s m below meth c ls hC hr hnm hno hsz hw hl
  obtain ⟨hx, hb, hown, hts, hK, hml, hlk, hz⟩ := id hC
  have hl : lv_has ls 3 [(0, .ref r), (1, .ref q)] := hl
  have hF : xfr M M [r, v] := xfr.rf
  refine lv_aload_n hx hb d_T_write_0 rfl (lv_at hl 0 rfl) ?_
  refine lv_iconst (v := nI 0) hx hb d_T_write_1 (by decide) ?_
  refine x_put (ty := .int) hC hw h_r rfl 1 (by decide) (hts _ k_549) (fun _ h9 => h9) rfl (by decide +kernel) rfl rfl (Nat.le_of_ble_eq_true rfl) d_T_write_2 (fun M1 H locs em fr hw => ?_)
  have em : M1 r = some (.inr (6, [.int (nI en), .int (nI 0), .ref v])) := em
  have h_v := (fr _ (x_ne h_v h_r (by intro z; cases z))).trans h_v
  have h_q := (fr _ (x_ne h_q h_r (by intro z; cases z))).trans h_q
  have h_cv := (fr _ (x_ne h_cv h_r (by intro z; cases z))).trans h_cv
  have h_r := em
  have hF := hF.put em fr (Or.inl (by simp))
  refine lv_iconst (v := nI 0) hx hb d_T_write_5 (by decide) ?_
  refine lv_istore_n (lv' := [(2, .int (nI 0)), (0, .ref r), (1, .ref q)]) hx hb d_T_write_6 rfl hl (by decide) rfl (fun ls hl => ?_)
  have h_r : M1 r = some (.inr (6, [.int (nI en), .int (nI (stI en 0)), .ref v])) := by rw [show stI en 0 = 0 by unfold stI; split <;> rfl]; exact h_r
  have HL7 : ∀ (z7 i : Nat) (f : Nat → Int32), i ≤ k → k + 1 ≤ i + z7 → (wrS en i g f) → ∀ (M1 : xMem), ∀ (H : Heap) (locs : List Loc) (ls : Array Slot), M1 r = some (.inr (6, [.int (nI en), .int (nI (stI en i)), .ref v])) → M1 v = some (.inl (G.2.1 1, 60, .inl f)) → M1 q = some (.inr (2, [.ref cv, .int (nI k)])) → M1 cv = some (.inl (G.2.1 0, 60, .inl g)) → xfr M M1 [r, v] → xWd G (xA M sz) s.heap M1 H locs → lv_has ls 3 [(0, .ref r), (1, .ref q), (2, .int (nI i))] → W p l e { frames := 2, cells := 0, slots := 0, locals := 42 } s m ([.ref r, .ref q] : List Value).toArray below meth c H locs 0 0 (xMQ below G M sz (fun u M' => u = none ∧ ∃ f' : Nat → Int32, M' r = some (.inr (6, [.int (nI en), .int (nI (stI en k)), .ref v])) ∧ M' v = some (.inl (G.2.1 1, 60, .inl f')) ∧ wrS en k g f' ∧ xfr M M' [r, v]) (fun _ _ => False) s 0 0) (F0 m 7 ls []) := by
    intro z7
    induction z7 with
    | zero =>
      intro i f h1 h2
      omega
    | succ z7 ih7 =>
      intro i f hi7 hz7 hwr M1 H locs ls h_r h_v h_q h_cv hF hw hl
      have hrm := Nat.le_trans (stI_lt (en := en) (show i < i + 1 by omega)) (Nat.le_refl _)
      refine lv_iload_n hx hb d_T_write_7 rfl (lv_at hl 2 rfl) ?_
      refine lv_aload_n hx hb d_T_write_8 rfl (lv_at hl 1 rfl) ?_
      refine x_get hC hw h_q rfl 1 (by decide) (hts _ k_92) (u_same (hts _ k_89)) rfl d_T_write_9 ?_
      refine lv_icmp_ge (tgt := 30) hx hb d_T_write_12 (by decide) (fun c_12 => ?_) (fun c_12 => ?_)
      · have c_12 := (nI_leI (by omega) (by omega)).mp c_12
        exact x_vret hC hr hw (⟨rfl, f, (by rw [show k = i by omega]; exact h_r), h_v, (by rw [show k = i by omega]; exact hwr), hF⟩) (Nat.le_of_ble_eq_true rfl) (Nat.le_of_ble_eq_true rfl) d_T_write_30
      · have c_12 := Nat.not_le.mp ((not_congr (nI_leI (by omega) (by omega))).mp c_12)
        refine lv_aload_n hx hb d_T_write_15 rfl (lv_at hl 0 rfl) ?_
        refine lv_aload_n hx hb d_T_write_16 rfl (lv_at hl 1 rfl) ?_
        refine lv_iload_n hx hb d_T_write_17 rfl (lv_at hl 2 rfl) ?_
        have hgi := (hg i (by omega)).eq
        refine x_callG hC (c_C_value l G M1 (Array.size H) q cv k i g (by omega) (by omega) h_q h_cv) k_251 k_7 ⟨Nat.le_of_ble_eq_true rfl, Nat.le_of_ble_eq_true rfl⟩ ⟨Nat.le_of_ble_eq_true rfl, Nat.le_of_ble_eq_true rfl⟩ hw hl.1 (Nat.le_of_ble_eq_true rfl) d_T_write_18 (x_ivV hC k_251 k_677 k_249 k_250 (show _ ∧ _ ∧ _ = some 1 from by decide +kernel) (x_recv hC hw h_q rfl) rfl d_T_write_18) (fun rv M2 H locs hq hw => ?_) (fun _ _ _ _ _ h _ _ => h.elim)
        obtain ⟨rfl, hM⟩ := hq
        subst M2
        refine W.eq (g2 := F0 m 21 ls [.int (g i), .ref r]) rfl ?_
        refine x_vi (y := nI (cN (g i))) hgi.1 ?_
        have hr1 : stI en i + stS en ≤ 60 := Nat.le_trans (stI_lt (en := en) (show i < k by omega)) hroom
        have ne_h_q_h_r : q ≠ r := x_ne h_q h_r (by intro z; cases z)
        have ne_h_q_h_v : q ≠ v := x_ne h_q h_v (by intro z; cases z)
        have ne_h_cv_h_r : cv ≠ r := x_ne h_cv h_r (by intro z; cases z)
        refine x_callG hC (c_T_writeCode l G M1 (Array.size H) r v (stI en i) (cN (g i)) en f hen hgi.2 hr1 h_r h_v) k_681 k_25 ⟨Nat.le_of_ble_eq_true rfl, Nat.le_of_ble_eq_true rfl⟩ ⟨Nat.le_of_ble_eq_true rfl, Nat.le_of_ble_eq_true rfl⟩ hw hl.1 (Nat.le_of_ble_eq_true rfl) d_T_write_21 (x_ivV hC k_681 k_678 k_680 kp_21 (show _ ∧ _ ∧ _ = some 1 from by decide +kernel) (x_recv hC hw h_r rfl) rfl d_T_write_21) (fun rv M3 H locs hq hw => ?_) (fun _ _ _ _ _ h _ _ => h.elim)
        obtain ⟨rfl, f', h_r, h_v, w1, w2, w3, fr⟩ := hq
        have hF := hF.trans fr (by intro a ha; exact Or.inl ha)
        rw [← stI_s] at h_r
        have h_q := fr.get h_q (by simp [ne_h_q_h_r, ne_h_q_h_v])
        have h_cv := fr.get h_cv (by simp [ne_h_cv_h_r, (Ne.symm hvc)])
        refine W.eq (g2 := F0 m 24 ls []) rfl ?_
        refine lv_iinc (v := nI (i + 1)) (lv' := [(2, .int (nI (i + 1))), (0, .ref r), (1, .ref q)]) hx hb d_T_write_24 hl (k := 2) rfl (by exact nI_1 _) (by decide) rfl (fun ls hl => ?_)
        refine lv_goto (tgt := 7) hx hb d_T_write_27 (by decide) ?_
        exact ih7 (i + 1) (f') (by omega) (by omega) (hwr.next w1 w2 w3) _ _ _ _ h_r h_v h_q h_cv hF hw (lv_sub hl [1, 2, 0] rfl)
  exact HL7 (k + 1) (0) (f0) (by omega) (by omega) (fun j hj => absurd hj (Nat.not_lt_zero j)) _ _ _ _ h_r h_v h_q h_cv hF hw (lv_sub hl [1, 2, 0] rfl)
