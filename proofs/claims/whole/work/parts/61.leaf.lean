set_option maxHeartbeats 400000 in
set_option maxRecDepth 100000 in
/-- Word.standsIn -/
theorem c_D_standsIn (l : Launch) (G : xT) (M : xMem) (sz : Nat) (r lt q v n rs pl : Nat) (f g : Nat → Int32) (hn : n ≤ 8) (hrs : rs ≤ 60) (hpl : pl < 60) (h_r : M r = some (.inr (3, [.int (nI n), .ref lt]))) (h_lt : M lt = some (.inl (G.2.1 0, 8, .inl f))) (h_q : M q = some (.inr (2, [.ref v, .int (nI rs)]))) (h_v : M v = some (.inl (G.2.1 0, 60, .inl g))) : xMet l G y_D_standsIn (Cond.code y_D_standsIn b_D_standsIn 4 (Option.some Jvm.ClassFile.FieldType.boolean) :: x_tbl) { frames := 1, cells := 0, slots := 0, locals := 21 } [.ref r, .ref q, .int (nI pl)] M sz (fun u M' => u = some (.int (zI (swP n f g rs pl))) ∧ M' = M) (fun _ _ => False) := by
  refine xMet.of (by decide) (Nat.le_of_ble_eq_true rfl) ?_
  intro p e s m below meth c ls hC hr hnm hno hsz hw hl
  obtain ⟨hx, hb, hown, hts, hK, hml, hlk, hz⟩ := id hC
  have hl : lv_has ls 4 [(0, .ref r), (1, .ref q), (2, .int (nI pl))] := hl
  refine lv_aload_n hx hb d_D_standsIn_0 rfl (lv_at hl 0 rfl) ?_
  refine x_get hC hw h_r rfl 0 (by decide) (hts _ k_481) (fun _ h9 => h9) rfl d_D_standsIn_1 ?_
  refine lv_if_eq (tgt := 20) hx hb d_D_standsIn_4 (by decide) (fun c_4 => ?_) (fun c_4 => ?_)
  · have c_4 := (x_eq0 (by omega)).mp c_4
    refine lv_iconst (v := nI 0) hx hb d_D_standsIn_20 (by decide) ?_
    exact x_zret hC hr hw (by decide +kernel) (⟨congrArg (fun z => some (Value.int z)) ((zI_f (fun h => by have := h.1; omega)).symm), rfl⟩) (Nat.le_of_ble_eq_true rfl) (Nat.le_of_ble_eq_true rfl) d_D_standsIn_21
  · have c_4 := (not_congr (x_eq0 (by omega))).mp c_4
    refine lv_iload_n hx hb d_D_standsIn_7 rfl (lv_at hl 2 rfl) ?_
    refine lv_aload_n hx hb d_D_standsIn_8 rfl (lv_at hl 0 rfl) ?_
    refine x_get hC hw h_r rfl 0 (by decide) (hts _ k_481) (fun _ h9 => h9) rfl d_D_standsIn_9 ?_
    refine lv_iadd hx hb d_D_standsIn_12 ?_
    refine x_vi (y := nI (pl + n)) (nI_add _ _) ?_
    refine lv_aload_n hx hb d_D_standsIn_13 rfl (lv_at hl 1 rfl) ?_
    refine x_get hC hw h_q rfl 1 (by decide) (hts _ k_90) (u_same (hts _ k_89)) rfl d_D_standsIn_14 ?_
    refine lv_icmp_le (tgt := 22) hx hb d_D_standsIn_17 (by decide) (fun c_17 => ?_) (fun c_17 => ?_)
    · have c_17 := (nI_leI (by omega) (by omega)).mp c_17
      refine lv_iconst (v := nI 0) hx hb d_D_standsIn_22 (by decide) ?_
      refine lv_istore_n (lv' := [(3, .int (nI 0)), (0, .ref r), (1, .ref q), (2, .int (nI pl))]) hx hb d_D_standsIn_23 rfl hl (by decide) rfl (fun ls hl => ?_)
      have HL24 : ∀ (z24 i : Nat), i ≤ n → n + 1 ≤ i + z24 → (∀ j, j < i → g (pl + j) = f j) → ∀ (H : Heap) (locs : List Loc) (ls : Array Slot), xWd G (xA M sz) s.heap M H locs → lv_has ls 4 [(0, .ref r), (1, .ref q), (2, .int (nI pl)), (3, .int (nI i))] → W p l e { frames := 1, cells := 0, slots := 0, locals := 21 } s m ([.ref r, .ref q, .int (nI pl)] : List Value).toArray below meth c H locs 0 0 (xMQ below G M sz (fun u M' => u = some (.int (zI (swP n f g rs pl))) ∧ M' = M) (fun _ _ => False) s 0 0) (F0 m 24 ls []) := by
        intro z24
        induction z24 with
        | zero =>
          intro i  h1 h2
          omega
        | succ z24 ih24 =>
          intro i  hi24 hz24 hg H locs ls  hw hl
          refine lv_iload_n hx hb d_D_standsIn_24 rfl (lv_at hl 3 rfl) ?_
          refine lv_aload_n hx hb d_D_standsIn_25 rfl (lv_at hl 0 rfl) ?_
          refine x_get hC hw h_r rfl 0 (by decide) (hts _ k_481) (fun _ h9 => h9) rfl d_D_standsIn_26 ?_
          refine lv_icmp_ge (tgt := 65) hx hb d_D_standsIn_29 (by decide) (fun c_29 => ?_) (fun c_29 => ?_)
          · have c_29 := (nI_leI (by omega) (by omega)).mp c_29
            refine lv_iconst (v := nI 1) hx hb d_D_standsIn_65 (by decide) ?_
            exact x_zret hC hr hw (by decide +kernel) (⟨congrArg (fun z => some (Value.int z)) ((zI_t ⟨by omega, by omega, fun j hj => hg j (by omega)⟩).symm), rfl⟩) (Nat.le_of_ble_eq_true rfl) (Nat.le_of_ble_eq_true rfl) d_D_standsIn_66
          · have c_29 := Nat.not_le.mp ((not_congr (nI_leI (by omega) (by omega))).mp c_29)
            refine lv_iload_n hx hb d_D_standsIn_32 rfl (lv_at hl 3 rfl) ?_
            refine lv_aload_n hx hb d_D_standsIn_33 rfl (lv_at hl 0 rfl) ?_
            refine x_get hC hw h_r rfl 1 (by decide) (hts _ k_483) (fun _ h9 => h9) rfl d_D_standsIn_34 ?_
            refine x_alen (v := nI 8) hC hw h_lt (t0 := 0) rfl rfl d_D_standsIn_37 ?_
            refine lv_icmp_ge (tgt := 65) hx hb d_D_standsIn_38 (by decide) (fun c_38 => ?_) (fun c_38 => ?_)
            · have c_38 := (nI_leI (by omega) (by omega)).mp c_38
              refine lv_iconst (v := nI 1) hx hb d_D_standsIn_65 (by decide) ?_
              exact x_zret hC hr hw (by decide +kernel) (⟨congrArg (fun z => some (Value.int z)) ((zI_t ⟨by omega, by omega, fun j hj => hg j (by omega)⟩).symm), rfl⟩) (Nat.le_of_ble_eq_true rfl) (Nat.le_of_ble_eq_true rfl) d_D_standsIn_66
            · have c_38 := Nat.not_le.mp ((not_congr (nI_leI (by omega) (by omega))).mp c_38)
              refine lv_aload_n hx hb d_D_standsIn_41 rfl (lv_at hl 1 rfl) ?_
              refine lv_iload_n hx hb d_D_standsIn_42 rfl (lv_at hl 2 rfl) ?_
              refine lv_iload_n hx hb d_D_standsIn_43 rfl (lv_at hl 3 rfl) ?_
              refine lv_iadd hx hb d_D_standsIn_44 ?_
              refine x_vi (y := nI (pl + i)) (nI_add _ _) ?_
              refine x_callG hC (c_C_value l G M (Array.size H) q v rs (pl + i) g (by omega) (by omega) h_q h_v) k_251 k_7 ⟨Nat.le_of_ble_eq_true rfl, Nat.le_of_ble_eq_true rfl⟩ ⟨Nat.le_of_ble_eq_true rfl, Nat.le_of_ble_eq_true rfl⟩ hw hl.1 (Nat.le_of_ble_eq_true rfl) d_D_standsIn_45 (x_ivV hC k_251 k_248 k_249 k_250 (show _ ∧ _ ∧ _ = some 1 from by decide +kernel) (x_recv hC hw h_q rfl) rfl d_D_standsIn_45) (fun rv M1 H locs hq hw => ?_) (fun _ _ _ _ _ h _ _ => h.elim)
              obtain ⟨rfl, hM⟩ := hq
              subst M1
              refine W.eq (g2 := F0 m 48 ls [.int (g (pl + i))]) rfl ?_
              refine lv_aload_n hx hb d_D_standsIn_48 rfl (lv_at hl 0 rfl) ?_
              refine x_get hC hw h_r rfl 1 (by decide) (hts _ k_483) (fun _ h9 => h9) rfl d_D_standsIn_49 ?_
              refine lv_iload_n hx hb d_D_standsIn_52 rfl (lv_at hl 3 rfl) ?_
              refine x_iald (j := i) hC hw h_lt rfl (rfl) (by omega) (by omega) d_D_standsIn_53 ?_
              refine lv_icmp_eq (tgt := 59) hx hb d_D_standsIn_54 (by decide) (fun c_54 => ?_) (fun c_54 => ?_)
              · refine lv_iinc (v := nI (i + 1)) (lv' := [(3, .int (nI (i + 1))), (0, .ref r), (1, .ref q), (2, .int (nI pl))]) hx hb d_D_standsIn_59 hl (k := 3) rfl (by exact nI_1 _) (by decide) rfl (fun ls hl => ?_)
                refine lv_goto (tgt := 24) hx hb d_D_standsIn_62 (by decide) ?_
                exact ih24 (i + 1)  (by omega) (by omega) (x_all1 hg c_54) _ _ _ hw (lv_sub hl [1, 2, 3, 0] rfl)
              · refine lv_iconst (v := nI 0) hx hb d_D_standsIn_57 (by decide) ?_
                exact x_zret hC hr hw (by decide +kernel) (⟨congrArg (fun z => some (Value.int z)) ((zI_f (fun h => c_54 (h.2.2 i (by omega)))).symm), rfl⟩) (Nat.le_of_ble_eq_true rfl) (Nat.le_of_ble_eq_true rfl) d_D_standsIn_58
      exact HL24 (n + 1) (0)  (by omega) (by omega) (fun j hj => absurd hj (Nat.not_lt_zero j)) _ _ _ hw (lv_sub hl [1, 2, 3, 0] rfl)
    · have c_17 := Nat.not_le.mp ((not_congr (nI_leI (by omega) (by omega))).mp c_17)
      refine lv_iconst (v := nI 0) hx hb d_D_standsIn_20 (by decide) ?_
      exact x_zret hC hr hw (by decide +kernel) (⟨congrArg (fun z => some (Value.int z)) ((zI_f (fun h => by have := h.2.1; omega)).symm), rfl⟩) (Nat.le_of_ble_eq_true rfl) (Nat.le_of_ble_eq_true rfl) d_D_standsIn_21

set_option maxHeartbeats 400000 in
set_option maxRecDepth 100000 in
/-- Area.touches -/
theorem c_A_touches (l : Launch) (G : xT) (M : xMem) (sz : Nat) (r : Nat) (pg ax ay aw ah x y wd : Int32) (h_r : M r = some (.inr (4, [.int pg, .int ax, .int ay, .int aw, .int ah]))) : xMet l G y_A_touches (Cond.code y_A_touches b_A_touches 4 (Option.some Jvm.ClassFile.FieldType.boolean) :: x_tbl) { frames := 0, cells := 0, slots := 0, locals := 0 } [.ref r, .int x, .int y, .int wd] M sz (fun u M' => u = some (.int (zI (toP ax ay aw ah x y wd))) ∧ M' = M) (fun _ _ => False) := by
  refine xMet.of (by decide) (Nat.le_of_ble_eq_true rfl) ?_
  intro p e s m below meth c ls hC hr hnm hno hsz hw hl
  obtain ⟨hx, hb, hown, hts, hK, hml, hlk, hz⟩ := id hC
  have hl : lv_has ls 4 [(0, .ref r), (1, .int x), (2, .int y), (3, .int wd)] := hl
  refine lv_aload_n hx hb d_A_touches_0 rfl (lv_at hl 0 rfl) ?_
  refine x_get hC hw h_r rfl 3 (by decide) (hts _ k_523) (fun _ h9 => h9) rfl d_A_touches_1 ?_
  refine lv_if_le (tgt := 65) hx hb d_A_touches_4 (by decide) (fun c_4 => ?_) (fun c_4 => ?_)
  · refine lv_iconst (v := nI 0) hx hb d_A_touches_65 (by decide) ?_
    exact x_zret hC hr hw (by decide +kernel) (⟨congrArg (fun z => some (Value.int z)) ((zI_f (fun h => h.1.1 c_4)).symm), rfl⟩) (Nat.le_of_ble_eq_true rfl) (Nat.le_of_ble_eq_true rfl) d_A_touches_66
  · refine lv_aload_n hx hb d_A_touches_7 rfl (lv_at hl 0 rfl) ?_
    refine x_get hC hw h_r rfl 4 (by decide) (hts _ k_524) (fun _ h9 => h9) rfl d_A_touches_8 ?_
    refine lv_if_le (tgt := 65) hx hb d_A_touches_11 (by decide) (fun c_11 => ?_) (fun c_11 => ?_)
    · refine lv_iconst (v := nI 0) hx hb d_A_touches_65 (by decide) ?_
      exact x_zret hC hr hw (by decide +kernel) (⟨congrArg (fun z => some (Value.int z)) ((zI_f (fun h => h.1.2 c_11)).symm), rfl⟩) (Nat.le_of_ble_eq_true rfl) (Nat.le_of_ble_eq_true rfl) d_A_touches_66
    · refine lv_iload_n hx hb d_A_touches_14 rfl (lv_at hl 1 rfl) ?_
      refine lv_aload_n hx hb d_A_touches_15 rfl (lv_at hl 0 rfl) ?_
      refine x_get hC hw h_r rfl 1 (by decide) (hts _ k_521) (fun _ h9 => h9) rfl d_A_touches_16 ?_
      refine lv_aload_n hx hb d_A_touches_19 rfl (lv_at hl 0 rfl) ?_
      refine x_get hC hw h_r rfl 3 (by decide) (hts _ k_523) (fun _ h9 => h9) rfl d_A_touches_20 ?_
      refine lv_iadd hx hb d_A_touches_23 ?_
      refine lv_icmp_ge (tgt := 65) hx hb d_A_touches_24 (by decide) (fun c_24 => ?_) (fun c_24 => ?_)
      · refine lv_iconst (v := nI 0) hx hb d_A_touches_65 (by decide) ?_
        exact x_zret hC hr hw (by decide +kernel) (⟨congrArg (fun z => some (Value.int z)) ((zI_f (fun h => h.2.1.1 c_24)).symm), rfl⟩) (Nat.le_of_ble_eq_true rfl) (Nat.le_of_ble_eq_true rfl) d_A_touches_66
      · refine lv_aload_n hx hb d_A_touches_27 rfl (lv_at hl 0 rfl) ?_
        refine x_get hC hw h_r rfl 1 (by decide) (hts _ k_521) (fun _ h9 => h9) rfl d_A_touches_28 ?_
        refine lv_iload_n hx hb d_A_touches_31 rfl (lv_at hl 1 rfl) ?_
        refine lv_iload_n hx hb d_A_touches_32 rfl (lv_at hl 3 rfl) ?_
        refine lv_iadd hx hb d_A_touches_33 ?_
        refine lv_icmp_ge (tgt := 65) hx hb d_A_touches_34 (by decide) (fun c_34 => ?_) (fun c_34 => ?_)
        · refine lv_iconst (v := nI 0) hx hb d_A_touches_65 (by decide) ?_
          exact x_zret hC hr hw (by decide +kernel) (⟨congrArg (fun z => some (Value.int z)) ((zI_f (fun h => h.2.1.2 c_34)).symm), rfl⟩) (Nat.le_of_ble_eq_true rfl) (Nat.le_of_ble_eq_true rfl) d_A_touches_66
        · refine lv_iload_n hx hb d_A_touches_37 rfl (lv_at hl 2 rfl) ?_
          refine lv_aload_n hx hb d_A_touches_38 rfl (lv_at hl 0 rfl) ?_
          refine x_get hC hw h_r rfl 2 (by decide) (hts _ k_522) (fun _ h9 => h9) rfl d_A_touches_39 ?_
          refine lv_aload_n hx hb d_A_touches_42 rfl (lv_at hl 0 rfl) ?_
          refine x_get hC hw h_r rfl 4 (by decide) (hts _ k_524) (fun _ h9 => h9) rfl d_A_touches_43 ?_
          refine lv_iadd hx hb d_A_touches_46 ?_
          refine lv_icmp_ge (tgt := 65) hx hb d_A_touches_47 (by decide) (fun c_47 => ?_) (fun c_47 => ?_)
          · refine lv_iconst (v := nI 0) hx hb d_A_touches_65 (by decide) ?_
            exact x_zret hC hr hw (by decide +kernel) (⟨congrArg (fun z => some (Value.int z)) ((zI_f (fun h => h.2.2.1 c_47)).symm), rfl⟩) (Nat.le_of_ble_eq_true rfl) (Nat.le_of_ble_eq_true rfl) d_A_touches_66
          · refine lv_aload_n hx hb d_A_touches_50 rfl (lv_at hl 0 rfl) ?_
            refine x_get hC hw h_r rfl 2 (by decide) (hts _ k_522) (fun _ h9 => h9) rfl d_A_touches_51 ?_
            refine lv_iload_n hx hb d_A_touches_54 rfl (lv_at hl 2 rfl) ?_
            refine lv_bipush (v := nI 10) hx hb d_A_touches_55 (by decide) ?_
            refine lv_iadd hx hb d_A_touches_57 ?_
            refine lv_icmp_ge (tgt := 65) hx hb d_A_touches_58 (by decide) (fun c_58 => ?_) (fun c_58 => ?_)
            · refine lv_iconst (v := nI 0) hx hb d_A_touches_65 (by decide) ?_
              exact x_zret hC hr hw (by decide +kernel) (⟨congrArg (fun z => some (Value.int z)) ((zI_f (fun h => h.2.2.2 c_58)).symm), rfl⟩) (Nat.le_of_ble_eq_true rfl) (Nat.le_of_ble_eq_true rfl) d_A_touches_66
            · refine lv_iconst (v := nI 1) hx hb d_A_touches_61 (by decide) ?_
              refine lv_goto (tgt := 66) hx hb d_A_touches_62 (by decide) ?_
              exact x_zret hC hr hw (by decide +kernel) (⟨congrArg (fun z => some (Value.int z)) ((zI_t ⟨⟨c_4, c_11⟩, ⟨c_24, c_34⟩, c_47, c_58⟩).symm), rfl⟩) (Nat.le_of_ble_eq_true rfl) (Nat.le_of_ble_eq_true rfl) d_A_touches_66

set_option maxHeartbeats 400000 in
set_option maxRecDepth 100000 in
/-- Findings.clear -/
theorem c_F_clear (l : Launch) (G : xT) (M : xMem) (sz : Nat) (r pa : Nat) (n : Int32) (h_r : M r = some (.inr (7, [.int n, .ref pa]))) : xMet l G y_F_clear (Cond.code y_F_clear b_F_clear 1 none :: x_tbl) { frames := 0, cells := 0, slots := 0, locals := 0 } [.ref r] M sz (fun u M' => u = none ∧ M' r = some (.inr (7, [.int (nI 0), .ref pa])) ∧ xfr M M' [r]) (fun _ _ => False) := by
  refine xMet.of (by decide) (Nat.le_of_ble_eq_true rfl) ?_
  intro p e s m below meth c ls hC hr hnm hno hsz hw hl
  obtain ⟨hx, hb, hown, hts, hK, hml, hlk, hz⟩ := id hC
  have hl : lv_has ls 1 [(0, .ref r)] := hl
  have hF : xfr M M [r] := xfr.rf
  refine lv_aload_n hx hb d_F_clear_0 rfl (lv_at hl 0 rfl) ?_
  refine lv_iconst (v := nI 0) hx hb d_F_clear_1 (by decide) ?_
  refine x_put (ty := .int) hC hw h_r rfl 0 (by decide) (hts _ k_67) (fun _ h9 => h9) rfl (by decide +kernel) rfl rfl (Nat.le_of_ble_eq_true rfl) d_F_clear_2 (fun M1 H locs em fr hw => ?_)
  have em : M1 r = some (.inr (7, [.int (nI 0), .ref pa])) := em
  have h_r := em
  have hF := hF.put em fr (Or.inl (by simp))
  exact x_vret hC hr hw (⟨rfl, h_r, hF⟩) (Nat.le_of_ble_eq_true rfl) (Nat.le_of_ble_eq_true rfl) d_F_clear_5

set_option maxHeartbeats 400000 in
set_option maxRecDepth 100000 in
/-- Findings.add -/
theorem c_F_add (l : Launch) (G : xT) (M : xMem) (sz : Nat) (r pa n pl w : Nat) (kd no en : Int32) (f : Nat → Int32) (hn : n ≤ 100) (h_r : M r = some (.inr (7, [.int (nI n), .ref pa]))) (h_p : M pa = some (.inl (G.2.1 0, 500, .inl f))) : xMet l G y_F_add (Cond.code y_F_add b_F_add 7 none :: x_tbl) { frames := 0, cells := 0, slots := 0, locals := 0 } [.ref r, .int kd, .int no, .int (nI pl), .int (nI w), .int en] M sz (fun u M' => u = none ∧ M' r = some (.inr (7, [.int (nI (fAdd kd no en pl w (n, f)).1), .ref pa])) ∧ M' pa = some (.inl (G.2.1 0, 500, .inl ((fAdd kd no en pl w (n, f)).2))) ∧ xfr M M' [r, pa]) (fun _ _ => False) := by
  refine xMet.of (by decide) (Nat.le_of_ble_eq_true rfl) ?_
  intro p e s m below meth c ls hC hr hnm hno hsz hw hl
  obtain ⟨hx, hb, hown, hts, hK, hml, hlk, hz⟩ := id hC
  have hl : lv_has ls 7 [(0, .ref r), (1, .int kd), (2, .int no), (3, .int (nI pl)), (4, .int (nI w)), (5, .int en)] := hl
  have hF : xfr M M [r, pa] := xfr.rf
  refine lv_aload_n hx hb d_F_add_0 rfl (lv_at hl 0 rfl) ?_
  refine x_get hC hw h_r rfl 0 (by decide) (hts _ k_67) (fun _ h9 => h9) rfl d_F_add_1 ?_
  refine lv_if_lt (tgt := 16) hx hb d_F_add_4 (by decide) (fun c_4 => ?_) (fun c_4 => ?_)
  · exact absurd c_4 (nI_pos (by omega))
  · refine lv_aload_n hx hb d_F_add_7 rfl (lv_at hl 0 rfl) ?_
    refine x_get hC hw h_r rfl 0 (by decide) (hts _ k_67) (fun _ h9 => h9) rfl d_F_add_8 ?_
    refine lv_bipush (v := nI 100) hx hb d_F_add_11 (by decide) ?_
    refine lv_icmp_lt (tgt := 17) hx hb d_F_add_13 (by decide) (fun c_13 => ?_) (fun c_13 => ?_)
    · have c_13 := (nI_ltI (by omega) (by omega)).mp c_13
      refine lv_aload_n hx hb d_F_add_17 rfl (lv_at hl 0 rfl) ?_
      refine x_get hC hw h_r rfl 0 (by decide) (hts _ k_67) (fun _ h9 => h9) rfl d_F_add_18 ?_
      refine lv_iconst (v := nI 5) hx hb d_F_add_21 (by decide) ?_
      refine lv_imul hx hb d_F_add_22 ?_
      refine x_vi (y := nI (n * 5)) (pk_mul _ _) ?_
      refine lv_istore (lv' := [(6, .int (nI (n * 5))), (0, .ref r), (1, .int kd), (2, .int no), (3, .int (nI pl)), (4, .int (nI w)), (5, .int en)]) hx hb d_F_add_23 hl (by decide) rfl (fun ls hl => ?_)
      refine lv_aload_n hx hb d_F_add_25 rfl (lv_at hl 1 rfl) ?_
      refine x_get hC hw h_r rfl 1 (by decide) (hts _ k_69) (fun _ h9 => h9) rfl d_F_add_26 ?_
      refine lv_iload hx hb d_F_add_29 (lv_at hl 0 rfl) ?_
      refine lv_iload_n hx hb d_F_add_31 rfl (lv_at hl 2 rfl) ?_
      refine x_iast (j := (n * 5)) hC hw h_p rfl (rfl) (by omega) (by omega) d_F_add_32 (fun M1 H locs em fr hw => ?_)
      have h_r := (fr _ (x_ne h_r h_p (by intro z; cases z))).trans h_r
      have h_p := em
      have hF := hF.put em fr (Or.inl (by simp))
      refine lv_aload_n hx hb d_F_add_33 rfl (lv_at hl 1 rfl) ?_
      refine x_get hC hw h_r rfl 1 (by decide) (hts _ k_69) (fun _ h9 => h9) rfl d_F_add_34 ?_
      refine lv_iload hx hb d_F_add_37 (lv_at hl 0 rfl) ?_
      refine lv_iconst (v := nI 1) hx hb d_F_add_39 (by decide) ?_
      refine lv_iadd hx hb d_F_add_40 ?_
      refine x_vi (y := nI ((n * 5) + 1)) (nI_add _ _) ?_
      refine lv_iload_n hx hb d_F_add_41 rfl (lv_at hl 3 rfl) ?_
      refine x_iast (j := ((n * 5) + 1)) hC hw h_p rfl (rfl) (by omega) (by omega) d_F_add_42 (fun M2 H locs em fr hw => ?_)
      have h_r := (fr _ (x_ne h_r h_p (by intro z; cases z))).trans h_r
      have h_p := em
      have hF := hF.put em fr (Or.inl (by simp))
      refine lv_aload_n hx hb d_F_add_43 rfl (lv_at hl 1 rfl) ?_
      refine x_get hC hw h_r rfl 1 (by decide) (hts _ k_69) (fun _ h9 => h9) rfl d_F_add_44 ?_
      refine lv_iload hx hb d_F_add_47 (lv_at hl 0 rfl) ?_
      refine lv_iconst (v := nI 2) hx hb d_F_add_49 (by decide) ?_
      refine lv_iadd hx hb d_F_add_50 ?_
      refine x_vi (y := nI ((n * 5) + 2)) (nI_add _ _) ?_
      refine lv_iload_n hx hb d_F_add_51 rfl (lv_at hl 4 rfl) ?_
      refine x_iast (j := ((n * 5) + 2)) hC hw h_p rfl (rfl) (by omega) (by omega) d_F_add_52 (fun M3 H locs em fr hw => ?_)
      have h_r := (fr _ (x_ne h_r h_p (by intro z; cases z))).trans h_r
      have h_p := em
      have hF := hF.put em fr (Or.inl (by simp))
      refine lv_aload_n hx hb d_F_add_53 rfl (lv_at hl 1 rfl) ?_
      refine x_get hC hw h_r rfl 1 (by decide) (hts _ k_69) (fun _ h9 => h9) rfl d_F_add_54 ?_
      refine lv_iload hx hb d_F_add_57 (lv_at hl 0 rfl) ?_
      refine lv_iconst (v := nI 3) hx hb d_F_add_59 (by decide) ?_
      refine lv_iadd hx hb d_F_add_60 ?_
      refine x_vi (y := nI ((n * 5) + 3)) (nI_add _ _) ?_
      refine lv_iload hx hb d_F_add_61 (lv_at hl 5 rfl) ?_
      refine x_iast (j := ((n * 5) + 3)) hC hw h_p rfl (rfl) (by omega) (by omega) d_F_add_63 (fun M4 H locs em fr hw => ?_)
      have h_r := (fr _ (x_ne h_r h_p (by intro z; cases z))).trans h_r
      have h_p := em
      have hF := hF.put em fr (Or.inl (by simp))
      refine lv_aload_n hx hb d_F_add_64 rfl (lv_at hl 1 rfl) ?_
      refine x_get hC hw h_r rfl 1 (by decide) (hts _ k_69) (fun _ h9 => h9) rfl d_F_add_65 ?_
      refine lv_iload hx hb d_F_add_68 (lv_at hl 0 rfl) ?_
      refine lv_iconst (v := nI 4) hx hb d_F_add_70 (by decide) ?_
      refine lv_iadd hx hb d_F_add_71 ?_
      refine x_vi (y := nI ((n * 5) + 4)) (nI_add _ _) ?_
      refine lv_iload hx hb d_F_add_72 (lv_at hl 6 rfl) ?_
      refine x_iast (j := ((n * 5) + 4)) hC hw h_p rfl (rfl) (by omega) (by omega) d_F_add_74 (fun M5 H locs em fr hw => ?_)
      have h_r := (fr _ (x_ne h_r h_p (by intro z; cases z))).trans h_r
      have h_p := em
      have hF := hF.put em fr (Or.inl (by simp))
      refine lv_aload_n hx hb d_F_add_75 rfl (lv_at hl 1 rfl) ?_
      refine lv_dup hx hb d_F_add_76 rfl ?_
      refine x_get hC hw h_r rfl 0 (by decide) (hts _ k_67) (fun _ h9 => h9) rfl d_F_add_77 ?_
      refine lv_iconst (v := nI 1) hx hb d_F_add_80 (by decide) ?_
      refine lv_iadd hx hb d_F_add_81 ?_
      refine x_vi (y := nI (n + 1)) (nI_add _ _) ?_
      refine x_put (ty := .int) hC hw h_r rfl 0 (by decide) (hts _ k_67) (fun _ h9 => h9) rfl (by decide +kernel) rfl rfl (Nat.le_of_ble_eq_true rfl) d_F_add_82 (fun M6 H locs em fr hw => ?_)
      have em : M6 r = some (.inr (7, [.int (nI (n + 1)), .ref pa])) := em
      have h_p := (fr _ (x_ne h_p h_r (by intro z; cases z))).trans h_p
      have h_r := em
      have hF := hF.put em fr (Or.inl (by simp))
      exact x_vret hC hr hw (⟨rfl, (by unfold fAdd; rw [if_pos (by omega)]; exact h_r), (by unfold fAdd; rw [if_pos (by omega), Nat.mul_comm 5 n]; exact h_p), hF⟩) (Nat.le_of_ble_eq_true rfl) (Nat.le_of_ble_eq_true rfl) d_F_add_85
    · have c_13 := Nat.not_lt.mp ((not_congr (nI_ltI (by omega) (by omega))).mp c_13)
      exact x_vret hC hr hw (⟨rfl, (by rw [fAdd_full (by omega)]; exact h_r), (by rw [fAdd_full (by omega)]; exact h_p), hF⟩) (Nat.le_of_ble_eq_true rfl) (Nat.le_of_ble_eq_true rfl) d_F_add_16

set_option maxHeartbeats 400000 in
set_option maxRecDepth 100000 in
/-- Findings.part -/
theorem c_F_part (l : Launch) (G : xT) (M : xMem) (sz : Nat) (r pa i w : Nat) (n : Int32) (f : Nat → Int32) (hi : i < 100) (hw5 : w < 5) (h_r : M r = some (.inr (7, [.int n, .ref pa]))) (h_p : M pa = some (.inl (G.2.1 0, 500, .inl f))) : xMet l G y_F_part (Cond.code y_F_part b_F_part 3 (Option.some Jvm.ClassFile.FieldType.int) :: x_tbl) { frames := 0, cells := 0, slots := 0, locals := 0 } [.ref r, .int (nI i), .int (nI w)] M sz (fun u M' => u = some (.int (f (i * 5 + w))) ∧ M' = M) (fun _ _ => False) := by
  refine xMet.of (by decide) (Nat.le_of_ble_eq_true rfl) ?_
  intro p e s m below meth c ls hC hr hnm hno hsz hw hl
  obtain ⟨hx, hb, hown, hts, hK, hml, hlk, hz⟩ := id hC
  have hl : lv_has ls 3 [(0, .ref r), (1, .int (nI i)), (2, .int (nI w))] := hl
  refine lv_iload_n hx hb d_F_part_0 rfl (lv_at hl 1 rfl) ?_
  refine lv_if_lt (tgt := 19) hx hb d_F_part_1 (by decide) (fun c_1 => ?_) (fun c_1 => ?_)
  · exact absurd c_1 (nI_pos (by omega))
  · refine lv_iload_n hx hb d_F_part_4 rfl (lv_at hl 1 rfl) ?_
    refine lv_bipush (v := nI 100) hx hb d_F_part_5 (by decide) ?_
    refine lv_icmp_ge (tgt := 19) hx hb d_F_part_7 (by decide) (fun c_7 => ?_) (fun c_7 => ?_)
    · have c_7 := (nI_leI (by omega) (by omega)).mp c_7
      omega
    · have c_7 := Nat.not_le.mp ((not_congr (nI_leI (by omega) (by omega))).mp c_7)
      refine lv_iload_n hx hb d_F_part_10 rfl (lv_at hl 2 rfl) ?_
      refine lv_if_lt (tgt := 19) hx hb d_F_part_11 (by decide) (fun c_11 => ?_) (fun c_11 => ?_)
      · exact absurd c_11 (nI_pos (by omega))
      · refine lv_iload_n hx hb d_F_part_14 rfl (lv_at hl 2 rfl) ?_
        refine lv_iconst (v := nI 5) hx hb d_F_part_15 (by decide) ?_
        refine lv_icmp_lt (tgt := 21) hx hb d_F_part_16 (by decide) (fun c_16 => ?_) (fun c_16 => ?_)
        · have c_16 := (nI_ltI (by omega) (by omega)).mp c_16
          refine lv_aload_n hx hb d_F_part_21 rfl (lv_at hl 0 rfl) ?_
          refine x_get hC hw h_r rfl 1 (by decide) (hts _ k_69) (fun _ h9 => h9) rfl d_F_part_22 ?_
          refine lv_iload_n hx hb d_F_part_25 rfl (lv_at hl 1 rfl) ?_
          refine lv_iconst (v := nI 5) hx hb d_F_part_26 (by decide) ?_
          refine lv_imul hx hb d_F_part_27 ?_
          refine x_vi (y := nI (i * 5)) (pk_mul _ _) ?_
          refine lv_iload_n hx hb d_F_part_28 rfl (lv_at hl 2 rfl) ?_
          refine lv_iadd hx hb d_F_part_29 ?_
          refine x_vi (y := nI ((i * 5) + w)) (nI_add _ _) ?_
          refine x_iald (j := ((i * 5) + w)) hC hw h_p rfl (rfl) (by omega) (by omega) d_F_part_30 ?_
          exact x_iret hC hr hw (⟨rfl, rfl⟩) (Nat.le_of_ble_eq_true rfl) (Nat.le_of_ble_eq_true rfl) d_F_part_31
        · have c_16 := Nat.not_lt.mp ((not_congr (nI_ltI (by omega) (by omega))).mp c_16)
          omega

set_option maxHeartbeats 400000 in
set_option maxRecDepth 100000 in
/-- Store.add -/
theorem c_T_add (l : Launch) (G : xT) (M : xMem) (sz : Nat) (r v n : Nat) (en0 b : Int32) (f : Nat → Int32) (hn : n < 60) (hb0 : byP b) (h_r : M r = some (.inr (6, [.int en0, .int (nI n), .ref v]))) (h_v : M v = some (.inl (G.2.1 1, 60, .inl f))) : xMet l G y_T_add (Cond.code y_T_add b_T_add 2 none :: x_tbl) { frames := 0, cells := 0, slots := 0, locals := 0 } [.ref r, .int b] M sz (fun u M' => u = none ∧ M' r = some (.inr (6, [.int en0, .int (nI (n + 1)), .ref v])) ∧ M' v = some (.inl (G.2.1 1, 60, .inl (va_up f n b))) ∧ xfr M M' [r, v]) (fun _ _ => False) := by
  refine xMet.of (by decide) (Nat.le_of_ble_eq_true rfl) ?_
  intro p e s m below meth c ls hC hr hnm hno hsz hw hl
  obtain ⟨hx, hb, hown, hts, hK, hml, hlk, hz⟩ := id hC
  have hl : lv_has ls 2 [(0, .ref r), (1, .int b)] := hl
  have hF : xfr M M [r, v] := xfr.rf
  refine lv_aload_n hx hb d_T_add_0 rfl (lv_at hl 0 rfl) ?_
  refine x_get hC hw h_r rfl 1 (by decide) (hts _ k_549) (fun _ h9 => h9) rfl d_T_add_1 ?_
  refine lv_if_lt (tgt := 39) hx hb d_T_add_4 (by decide) (fun c_4 => ?_) (fun c_4 => ?_)
  · exact absurd c_4 (nI_pos (by omega))
  · refine lv_aload_n hx hb d_T_add_7 rfl (lv_at hl 0 rfl) ?_
    refine x_get hC hw h_r rfl 1 (by decide) (hts _ k_549) (fun _ h9 => h9) rfl d_T_add_8 ?_
    refine lv_aload_n hx hb d_T_add_11 rfl (lv_at hl 0 rfl) ?_
    refine x_get hC hw h_r rfl 2 (by decide) (hts _ k_551) (fun _ h9 => h9) rfl d_T_add_12 ?_
    refine x_alen (v := nI 60) hC hw h_v (t0 := 1) rfl rfl d_T_add_15 ?_
    refine lv_icmp_ge (tgt := 39) hx hb d_T_add_16 (by decide) (fun c_16 => ?_) (fun c_16 => ?_)
    · have c_16 := (nI_leI (by omega) (by omega)).mp c_16
      omega
    · have c_16 := Nat.not_le.mp ((not_congr (nI_leI (by omega) (by omega))).mp c_16)
      refine lv_aload_n hx hb d_T_add_19 rfl (lv_at hl 0 rfl) ?_
      refine x_get hC hw h_r rfl 2 (by decide) (hts _ k_551) (fun _ h9 => h9) rfl d_T_add_20 ?_
      refine lv_aload_n hx hb d_T_add_23 rfl (lv_at hl 0 rfl) ?_
      refine x_get hC hw h_r rfl 1 (by decide) (hts _ k_549) (fun _ h9 => h9) rfl d_T_add_24 ?_
      refine lv_iload_n hx hb d_T_add_27 rfl (lv_at hl 1 rfl) ?_
      refine x_bast (j := n) hC hw h_v rfl (rfl) (by omega) (by omega) d_T_add_28 (fun M1 H locs em fr hw => ?_)
      have h_r := (fr _ (x_ne h_r h_v (by intro z; cases z))).trans h_r
      have h_v := em
      have hF := hF.put em fr (Or.inl (by simp))
      refine lv_aload_n hx hb d_T_add_29 rfl (lv_at hl 0 rfl) ?_
      refine lv_dup hx hb d_T_add_30 rfl ?_
      refine x_get hC hw h_r rfl 1 (by decide) (hts _ k_549) (fun _ h9 => h9) rfl d_T_add_31 ?_
      refine lv_iconst (v := nI 1) hx hb d_T_add_34 (by decide) ?_
      refine lv_iadd hx hb d_T_add_35 ?_
      refine x_vi (y := nI (n + 1)) (nI_add _ _) ?_
      refine x_put (ty := .int) hC hw h_r rfl 1 (by decide) (hts _ k_549) (fun _ h9 => h9) rfl (by decide +kernel) rfl rfl (Nat.le_of_ble_eq_true rfl) d_T_add_36 (fun M2 H locs em fr hw => ?_)
      have em : M2 r = some (.inr (6, [.int en0, .int (nI (n + 1)), .ref v])) := em
      have h_v := (fr _ (x_ne h_v h_r (by intro z; cases z))).trans h_v
      have h_r := em
      have hF := hF.put em fr (Or.inl (by simp))
      exact x_vret hC hr hw (⟨rfl, h_r, (by rw [by_nar hb0] at h_v; exact h_v), hF⟩) (Nat.le_of_ble_eq_true rfl) (Nat.le_of_ble_eq_true rfl) d_T_add_39

set_option maxHeartbeats 400000 in
set_option maxRecDepth 100000 in
/-- Store.value -/
theorem c_T_value (l : Launch) (G : xT) (M : xMem) (sz : Nat) (r v i : Nat) (n en0 : Int32) (f : Nat → Int32) (hi : i < 60) (hb0 : byP (f i)) (h_r : M r = some (.inr (6, [.int en0, .int n, .ref v]))) (h_v : M v = some (.inl (G.2.1 1, 60, .inl f))) : xMet l G y_T_value (Cond.code y_T_value b_T_value 2 (Option.some Jvm.ClassFile.FieldType.byte) :: x_tbl) { frames := 0, cells := 0, slots := 0, locals := 0 } [.ref r, .int (nI i)] M sz (fun u M' => u = some (.int (f i)) ∧ M' = M) (fun _ _ => False) := by
  refine xMet.of (by decide) (Nat.le_of_ble_eq_true rfl) ?_
  intro p e s m below meth c ls hC hr hnm hno hsz hw hl
  obtain ⟨hx, hb, hown, hts, hK, hml, hlk, hz⟩ := id hC
  have hl : lv_has ls 2 [(0, .ref r), (1, .int (nI i))] := hl
  refine lv_iload_n hx hb d_T_value_0 rfl (lv_at hl 1 rfl) ?_
  refine lv_if_lt (tgt := 22) hx hb d_T_value_1 (by decide) (fun c_1 => ?_) (fun c_1 => ?_)
  · exact absurd c_1 (nI_pos (by omega))
  · refine lv_iload_n hx hb d_T_value_4 rfl (lv_at hl 1 rfl) ?_
    refine lv_aload_n hx hb d_T_value_5 rfl (lv_at hl 0 rfl) ?_
    refine x_get hC hw h_r rfl 2 (by decide) (hts _ k_551) (fun _ h9 => h9) rfl d_T_value_6 ?_
    refine x_alen (v := nI 60) hC hw h_v (t0 := 1) rfl rfl d_T_value_9 ?_
    refine lv_icmp_ge (tgt := 22) hx hb d_T_value_10 (by decide) (fun c_10 => ?_) (fun c_10 => ?_)
    · have c_10 := (nI_leI (by omega) (by omega)).mp c_10
      omega
    · have c_10 := Nat.not_le.mp ((not_congr (nI_leI (by omega) (by omega))).mp c_10)
      refine lv_aload_n hx hb d_T_value_13 rfl (lv_at hl 0 rfl) ?_
      refine x_get hC hw h_r rfl 2 (by decide) (hts _ k_551) (fun _ h9 => h9) rfl d_T_value_14 ?_
      refine lv_iload_n hx hb d_T_value_17 rfl (lv_at hl 1 rfl) ?_
      refine x_bald (j := i) hC hw h_v rfl (rfl) (by omega) (by omega) d_T_value_18 ?_
      refine lv_goto (tgt := 23) hx hb d_T_value_19 (by decide) ?_
      exact x_zret hC hr hw hb0 (⟨rfl, rfl⟩) (Nat.le_of_ble_eq_true rfl) (Nat.le_of_ble_eq_true rfl) d_T_value_23

set_option maxHeartbeats 400000 in
set_option maxRecDepth 100000 in
/-- Store.unsigned -/
theorem c_T_unsigned (l : Launch) (G : xT) (M : xMem) (sz : Nat) (r v n i : Nat) (en0 : Int32) (f : Nat → Int32) (hn : n ≤ 60) (hi : i ≤ 60) (hb0 : ∀ j, j < n → byP (f j)) (h_r : M r = some (.inr (6, [.int en0, .int (nI n), .ref v]))) (h_v : M v = some (.inl (G.2.1 1, 60, .inl f))) : xMet l G y_T_unsigned (Cond.code y_T_unsigned b_T_unsigned 2 (Option.some Jvm.ClassFile.FieldType.int) :: x_tbl) { frames := 1, cells := 0, slots := 0, locals := 21 } [.ref r, .int (nI i)] M sz (fun u M' => u = some (.int (unV n f i)) ∧ M' = M) (fun _ _ => False) := by
  refine xMet.of (by decide) (Nat.le_of_ble_eq_true rfl) ?_
  intro p e s m below meth c ls hC hr hnm hno hsz hw hl
  obtain ⟨hx, hb, hown, hts, hK, hml, hlk, hz⟩ := id hC
  have hl : lv_has ls 2 [(0, .ref r), (1, .int (nI i))] := hl
  refine lv_iload_n hx hb d_T_unsigned_0 rfl (lv_at hl 1 rfl) ?_
  refine lv_aload_n hx hb d_T_unsigned_1 rfl (lv_at hl 0 rfl) ?_
  refine x_get hC hw h_r rfl 1 (by decide) (hts _ k_549) (fun _ h9 => h9) rfl d_T_unsigned_2 ?_
  refine lv_icmp_ge (tgt := 20) hx hb d_T_unsigned_5 (by decide) (fun c_5 => ?_) (fun c_5 => ?_)
  · have c_5 := (nI_leI (by omega) (by omega)).mp c_5
    refine lv_iconst (v := (-1)) hx hb d_T_unsigned_20 (by decide) ?_
    exact x_iret hC hr hw (⟨congrArg (fun z => some (Value.int z)) ((by unfold unV; rw [if_neg (by omega)])), rfl⟩) (Nat.le_of_ble_eq_true rfl) (Nat.le_of_ble_eq_true rfl) d_T_unsigned_21
  · have c_5 := Nat.not_le.mp ((not_congr (nI_leI (by omega) (by omega))).mp c_5)
    refine lv_aload_n hx hb d_T_unsigned_8 rfl (lv_at hl 0 rfl) ?_
    refine lv_iload_n hx hb d_T_unsigned_9 rfl (lv_at hl 1 rfl) ?_
    refine x_callG hC (c_T_value l G M (Array.size s.heap) r v i (nI n) en0 f (by omega) (hb0 i (by omega)) h_r h_v) k_274 k_25 ⟨Nat.le_of_ble_eq_true rfl, Nat.le_of_ble_eq_true rfl⟩ ⟨Nat.le_of_ble_eq_true rfl, Nat.le_of_ble_eq_true rfl⟩ hw hl.1 (Nat.le_of_ble_eq_true rfl) d_T_unsigned_10 (x_ivV hC k_274 k_271 k_272 k_273 (show _ ∧ _ ∧ _ = some 1 from by decide +kernel) (x_recv hC hw h_r rfl) rfl d_T_unsigned_10) (fun rv M1 H locs hq hw => ?_) (fun _ _ _ _ _ h _ _ => h.elim)
    obtain ⟨rfl, hM⟩ := hq
    subst M1
    refine W.eq (g2 := F0 m 13 ls [.int (f i)]) rfl ?_
    refine lv_sipush (v := nI 255) hx hb d_T_unsigned_13 (by decide) ?_
    refine lv_iand hx hb d_T_unsigned_16 ?_
    refine lv_goto (tgt := 21) hx hb d_T_unsigned_17 (by decide) ?_
    exact x_iret hC hr hw (⟨congrArg (fun z => some (Value.int z)) ((by unfold unV; rw [if_pos (by omega)])), rfl⟩) (Nat.le_of_ble_eq_true rfl) (Nat.le_of_ble_eq_true rfl) d_T_unsigned_21

set_option maxHeartbeats 400000 in
set_option maxRecDepth 100000 in
/-- valueOfDigit -/
theorem c_T_valueOfDigit (l : Launch) (G : xT) (M : xMem) (sz : Nat) (b : Int32) : xMet l G y_T_valueOfDigit (Cond.code y_T_valueOfDigit b_T_valueOfDigit 1 (Option.some Jvm.ClassFile.FieldType.int) :: x_tbl) { frames := 0, cells := 0, slots := 0, locals := 0 } [.int b] M sz (fun u M' => u = some (.int (dgI b)) ∧ M' = M) (fun _ _ => False) := by
  refine xMet.of (by decide) (Nat.le_of_ble_eq_true rfl) ?_
  intro p e s m below meth c ls hC hr hnm hno hsz hw hl
  obtain ⟨hx, hb, hown, hts, hK, hml, hlk, hz⟩ := id hC
  have hl : lv_has ls 1 [(0, .int b)] := hl
  refine lv_iload_n hx hb d_T_valueOfDigit_0 rfl (lv_at hl 0 rfl) ?_
  refine lv_bipush (v := nI 48) hx hb d_T_valueOfDigit_1 (by decide) ?_
  refine lv_icmp_lt (tgt := 17) hx hb d_T_valueOfDigit_3 (by decide) (fun c_3 => ?_) (fun c_3 => ?_)
  · refine lv_iload_n hx hb d_T_valueOfDigit_17 rfl (lv_at hl 0 rfl) ?_
    refine lv_bipush (v := nI 65) hx hb d_T_valueOfDigit_18 (by decide) ?_
    refine lv_icmp_lt (tgt := 37) hx hb d_T_valueOfDigit_20 (by decide) (fun c_20 => ?_) (fun c_20 => ?_)
    · refine lv_iload_n hx hb d_T_valueOfDigit_37 rfl (lv_at hl 0 rfl) ?_
      refine lv_bipush (v := nI 97) hx hb d_T_valueOfDigit_38 (by decide) ?_
      refine lv_icmp_lt (tgt := 57) hx hb d_T_valueOfDigit_40 (by decide) (fun c_40 => ?_) (fun c_40 => ?_)
      · refine lv_iconst (v := (-1)) hx hb d_T_valueOfDigit_57 (by decide) ?_
        exact x_iret hC hr hw (⟨congrArg (fun z => some (Value.int z)) ((by unfold dgI; rw [if_neg (fun h => h.1 c_3), if_neg (fun h => h.1 c_20), if_neg (fun h => h.1 c_40)])), rfl⟩) (Nat.le_of_ble_eq_true rfl) (Nat.le_of_ble_eq_true rfl) d_T_valueOfDigit_58
      · refine lv_iload_n hx hb d_T_valueOfDigit_43 rfl (lv_at hl 0 rfl) ?_
        refine lv_bipush (v := nI 102) hx hb d_T_valueOfDigit_44 (by decide) ?_
        refine lv_icmp_gt (tgt := 57) hx hb d_T_valueOfDigit_46 (by decide) (fun c_46 => ?_) (fun c_46 => ?_)
        · refine lv_iconst (v := (-1)) hx hb d_T_valueOfDigit_57 (by decide) ?_
          exact x_iret hC hr hw (⟨congrArg (fun z => some (Value.int z)) ((by unfold dgI; rw [if_neg (fun h => h.1 c_3), if_neg (fun h => h.1 c_20), if_neg (fun h => h.2 c_46)])), rfl⟩) (Nat.le_of_ble_eq_true rfl) (Nat.le_of_ble_eq_true rfl) d_T_valueOfDigit_58
        · refine lv_iload_n hx hb d_T_valueOfDigit_49 rfl (lv_at hl 0 rfl) ?_
          refine lv_bipush (v := nI 97) hx hb d_T_valueOfDigit_50 (by decide) ?_
          refine lv_isub hx hb d_T_valueOfDigit_52 ?_
          refine lv_bipush (v := nI 10) hx hb d_T_valueOfDigit_53 (by decide) ?_
          refine lv_iadd hx hb d_T_valueOfDigit_55 ?_
          exact x_iret hC hr hw (⟨congrArg (fun z => some (Value.int z)) ((by unfold dgI; rw [if_neg (fun h => h.1 c_3), if_neg (fun h => h.1 c_20), if_pos ⟨c_40, c_46⟩])), rfl⟩) (Nat.le_of_ble_eq_true rfl) (Nat.le_of_ble_eq_true rfl) d_T_valueOfDigit_56
    · refine lv_iload_n hx hb d_T_valueOfDigit_23 rfl (lv_at hl 0 rfl) ?_
      refine lv_bipush (v := nI 70) hx hb d_T_valueOfDigit_24 (by decide) ?_
      refine lv_icmp_gt (tgt := 37) hx hb d_T_valueOfDigit_26 (by decide) (fun c_26 => ?_) (fun c_26 => ?_)
      · refine lv_iload_n hx hb d_T_valueOfDigit_37 rfl (lv_at hl 0 rfl) ?_
        refine lv_bipush (v := nI 97) hx hb d_T_valueOfDigit_38 (by decide) ?_
        refine lv_icmp_lt (tgt := 57) hx hb d_T_valueOfDigit_40 (by decide) (fun c_40 => ?_) (fun c_40 => ?_)
        · refine lv_iconst (v := (-1)) hx hb d_T_valueOfDigit_57 (by decide) ?_
          exact x_iret hC hr hw (⟨congrArg (fun z => some (Value.int z)) ((by unfold dgI; rw [if_neg (fun h => h.1 c_3), if_neg (fun h => h.2 c_26), if_neg (fun h => h.1 c_40)])), rfl⟩) (Nat.le_of_ble_eq_true rfl) (Nat.le_of_ble_eq_true rfl) d_T_valueOfDigit_58
        · refine lv_iload_n hx hb d_T_valueOfDigit_43 rfl (lv_at hl 0 rfl) ?_
          refine lv_bipush (v := nI 102) hx hb d_T_valueOfDigit_44 (by decide) ?_
          refine lv_icmp_gt (tgt := 57) hx hb d_T_valueOfDigit_46 (by decide) (fun c_46 => ?_) (fun c_46 => ?_)
          · refine lv_iconst (v := (-1)) hx hb d_T_valueOfDigit_57 (by decide) ?_
            exact x_iret hC hr hw (⟨congrArg (fun z => some (Value.int z)) ((by unfold dgI; rw [if_neg (fun h => h.1 c_3), if_neg (fun h => h.2 c_26), if_neg (fun h => h.2 c_46)])), rfl⟩) (Nat.le_of_ble_eq_true rfl) (Nat.le_of_ble_eq_true rfl) d_T_valueOfDigit_58
          · refine lv_iload_n hx hb d_T_valueOfDigit_49 rfl (lv_at hl 0 rfl) ?_
            refine lv_bipush (v := nI 97) hx hb d_T_valueOfDigit_50 (by decide) ?_
            refine lv_isub hx hb d_T_valueOfDigit_52 ?_
            refine lv_bipush (v := nI 10) hx hb d_T_valueOfDigit_53 (by decide) ?_
            refine lv_iadd hx hb d_T_valueOfDigit_55 ?_
            exact x_iret hC hr hw (⟨congrArg (fun z => some (Value.int z)) ((by unfold dgI; rw [if_neg (fun h => h.1 c_3), if_neg (fun h => h.2 c_26), if_pos ⟨c_40, c_46⟩])), rfl⟩) (Nat.le_of_ble_eq_true rfl) (Nat.le_of_ble_eq_true rfl) d_T_valueOfDigit_56
      · refine lv_iload_n hx hb d_T_valueOfDigit_29 rfl (lv_at hl 0 rfl) ?_
        refine lv_bipush (v := nI 65) hx hb d_T_valueOfDigit_30 (by decide) ?_
        refine lv_isub hx hb d_T_valueOfDigit_32 ?_
        refine lv_bipush (v := nI 10) hx hb d_T_valueOfDigit_33 (by decide) ?_
        refine lv_iadd hx hb d_T_valueOfDigit_35 ?_
        exact x_iret hC hr hw (⟨congrArg (fun z => some (Value.int z)) ((by unfold dgI; rw [if_neg (fun h => h.1 c_3), if_pos ⟨c_20, c_26⟩])), rfl⟩) (Nat.le_of_ble_eq_true rfl) (Nat.le_of_ble_eq_true rfl) d_T_valueOfDigit_36
  · refine lv_iload_n hx hb d_T_valueOfDigit_6 rfl (lv_at hl 0 rfl) ?_
    refine lv_bipush (v := nI 57) hx hb d_T_valueOfDigit_7 (by decide) ?_
    refine lv_icmp_gt (tgt := 17) hx hb d_T_valueOfDigit_9 (by decide) (fun c_9 => ?_) (fun c_9 => ?_)
    · refine lv_iload_n hx hb d_T_valueOfDigit_17 rfl (lv_at hl 0 rfl) ?_
      refine lv_bipush (v := nI 65) hx hb d_T_valueOfDigit_18 (by decide) ?_
      refine lv_icmp_lt (tgt := 37) hx hb d_T_valueOfDigit_20 (by decide) (fun c_20 => ?_) (fun c_20 => ?_)
      · refine lv_iload_n hx hb d_T_valueOfDigit_37 rfl (lv_at hl 0 rfl) ?_
        refine lv_bipush (v := nI 97) hx hb d_T_valueOfDigit_38 (by decide) ?_
        refine lv_icmp_lt (tgt := 57) hx hb d_T_valueOfDigit_40 (by decide) (fun c_40 => ?_) (fun c_40 => ?_)
        · refine lv_iconst (v := (-1)) hx hb d_T_valueOfDigit_57 (by decide) ?_
          exact x_iret hC hr hw (⟨congrArg (fun z => some (Value.int z)) ((by unfold dgI; rw [if_neg (fun h => h.2 c_9), if_neg (fun h => h.1 c_20), if_neg (fun h => h.1 c_40)])), rfl⟩) (Nat.le_of_ble_eq_true rfl) (Nat.le_of_ble_eq_true rfl) d_T_valueOfDigit_58
        · refine lv_iload_n hx hb d_T_valueOfDigit_43 rfl (lv_at hl 0 rfl) ?_
          refine lv_bipush (v := nI 102) hx hb d_T_valueOfDigit_44 (by decide) ?_
          refine lv_icmp_gt (tgt := 57) hx hb d_T_valueOfDigit_46 (by decide) (fun c_46 => ?_) (fun c_46 => ?_)
          · refine lv_iconst (v := (-1)) hx hb d_T_valueOfDigit_57 (by decide) ?_
            exact x_iret hC hr hw (⟨congrArg (fun z => some (Value.int z)) ((by unfold dgI; rw [if_neg (fun h => h.2 c_9), if_neg (fun h => h.1 c_20), if_neg (fun h => h.2 c_46)])), rfl⟩) (Nat.le_of_ble_eq_true rfl) (Nat.le_of_ble_eq_true rfl) d_T_valueOfDigit_58
          · refine lv_iload_n hx hb d_T_valueOfDigit_49 rfl (lv_at hl 0 rfl) ?_
            refine lv_bipush (v := nI 97) hx hb d_T_valueOfDigit_50 (by decide) ?_
            refine lv_isub hx hb d_T_valueOfDigit_52 ?_
            refine lv_bipush (v := nI 10) hx hb d_T_valueOfDigit_53 (by decide) ?_
            refine lv_iadd hx hb d_T_valueOfDigit_55 ?_
            exact x_iret hC hr hw (⟨congrArg (fun z => some (Value.int z)) ((by unfold dgI; rw [if_neg (fun h => h.2 c_9), if_neg (fun h => h.1 c_20), if_pos ⟨c_40, c_46⟩])), rfl⟩) (Nat.le_of_ble_eq_true rfl) (Nat.le_of_ble_eq_true rfl) d_T_valueOfDigit_56
      · refine lv_iload_n hx hb d_T_valueOfDigit_23 rfl (lv_at hl 0 rfl) ?_
        refine lv_bipush (v := nI 70) hx hb d_T_valueOfDigit_24 (by decide) ?_
        refine lv_icmp_gt (tgt := 37) hx hb d_T_valueOfDigit_26 (by decide) (fun c_26 => ?_) (fun c_26 => ?_)
        · refine lv_iload_n hx hb d_T_valueOfDigit_37 rfl (lv_at hl 0 rfl) ?_
          refine lv_bipush (v := nI 97) hx hb d_T_valueOfDigit_38 (by decide) ?_
          refine lv_icmp_lt (tgt := 57) hx hb d_T_valueOfDigit_40 (by decide) (fun c_40 => ?_) (fun c_40 => ?_)
          · refine lv_iconst (v := (-1)) hx hb d_T_valueOfDigit_57 (by decide) ?_
            exact x_iret hC hr hw (⟨congrArg (fun z => some (Value.int z)) ((by unfold dgI; rw [if_neg (fun h => h.2 c_9), if_neg (fun h => h.2 c_26), if_neg (fun h => h.1 c_40)])), rfl⟩) (Nat.le_of_ble_eq_true rfl) (Nat.le_of_ble_eq_true rfl) d_T_valueOfDigit_58
          · refine lv_iload_n hx hb d_T_valueOfDigit_43 rfl (lv_at hl 0 rfl) ?_
            refine lv_bipush (v := nI 102) hx hb d_T_valueOfDigit_44 (by decide) ?_
            refine lv_icmp_gt (tgt := 57) hx hb d_T_valueOfDigit_46 (by decide) (fun c_46 => ?_) (fun c_46 => ?_)
            · refine lv_iconst (v := (-1)) hx hb d_T_valueOfDigit_57 (by decide) ?_
              exact x_iret hC hr hw (⟨congrArg (fun z => some (Value.int z)) ((by unfold dgI; rw [if_neg (fun h => h.2 c_9), if_neg (fun h => h.2 c_26), if_neg (fun h => h.2 c_46)])), rfl⟩) (Nat.le_of_ble_eq_true rfl) (Nat.le_of_ble_eq_true rfl) d_T_valueOfDigit_58
            · refine lv_iload_n hx hb d_T_valueOfDigit_49 rfl (lv_at hl 0 rfl) ?_
              refine lv_bipush (v := nI 97) hx hb d_T_valueOfDigit_50 (by decide) ?_
              refine lv_isub hx hb d_T_valueOfDigit_52 ?_
              refine lv_bipush (v := nI 10) hx hb d_T_valueOfDigit_53 (by decide) ?_
              refine lv_iadd hx hb d_T_valueOfDigit_55 ?_
              exact x_iret hC hr hw (⟨congrArg (fun z => some (Value.int z)) ((by unfold dgI; rw [if_neg (fun h => h.2 c_9), if_neg (fun h => h.2 c_26), if_pos ⟨c_40, c_46⟩])), rfl⟩) (Nat.le_of_ble_eq_true rfl) (Nat.le_of_ble_eq_true rfl) d_T_valueOfDigit_56
        · refine lv_iload_n hx hb d_T_valueOfDigit_29 rfl (lv_at hl 0 rfl) ?_
          refine lv_bipush (v := nI 65) hx hb d_T_valueOfDigit_30 (by decide) ?_
          refine lv_isub hx hb d_T_valueOfDigit_32 ?_
          refine lv_bipush (v := nI 10) hx hb d_T_valueOfDigit_33 (by decide) ?_
          refine lv_iadd hx hb d_T_valueOfDigit_35 ?_
          exact x_iret hC hr hw (⟨congrArg (fun z => some (Value.int z)) ((by unfold dgI; rw [if_neg (fun h => h.2 c_9), if_pos ⟨c_20, c_26⟩])), rfl⟩) (Nat.le_of_ble_eq_true rfl) (Nat.le_of_ble_eq_true rfl) d_T_valueOfDigit_36
    · refine lv_iload_n hx hb d_T_valueOfDigit_12 rfl (lv_at hl 0 rfl) ?_
      refine lv_bipush (v := nI 48) hx hb d_T_valueOfDigit_13 (by decide) ?_
      refine lv_isub hx hb d_T_valueOfDigit_15 ?_
      exact x_iret hC hr hw (⟨congrArg (fun z => some (Value.int z)) ((by unfold dgI; rw [if_pos ⟨c_3, c_9⟩])), rfl⟩) (Nat.le_of_ble_eq_true rfl) (Nat.le_of_ble_eq_true rfl) d_T_valueOfDigit_16

set_option maxHeartbeats 400000 in
set_option maxRecDepth 100000 in
/-- digitOf -/
theorem c_T_digitOf (l : Launch) (G : xT) (M : xMem) (sz : Nat) (d : Nat) (hd : d < 16) : xMet l G y_T_digitOf (Cond.code y_T_digitOf b_T_digitOf 1 (Option.some Jvm.ClassFile.FieldType.byte) :: x_tbl) { frames := 0, cells := 0, slots := 0, locals := 0 } [.int (nI d)] M sz (fun u M' => u = some (.int (Int32.toInt8 (nI (hxN d))).toInt32) ∧ M' = M) (fun _ _ => False) := by
  refine xMet.of (by decide) (Nat.le_of_ble_eq_true rfl) ?_
  intro p e s m below meth c ls hC hr hnm hno hsz hw hl
  obtain ⟨hx, hb, hown, hts, hK, hml, hlk, hz⟩ := id hC
  have hl : lv_has ls 1 [(0, .int (nI d))] := hl
  refine lv_iload_n hx hb d_T_digitOf_0 rfl (lv_at hl 0 rfl) ?_
  refine lv_bipush (v := nI 10) hx hb d_T_digitOf_1 (by decide) ?_
  refine lv_icmp_ge (tgt := 13) hx hb d_T_digitOf_3 (by decide) (fun c_3 => ?_) (fun c_3 => ?_)
  · have c_3 := (nI_leI (by omega) (by omega)).mp c_3
    refine lv_bipush (v := nI 65) hx hb d_T_digitOf_13 (by decide) ?_
    refine lv_iload_n hx hb d_T_digitOf_15 rfl (lv_at hl 0 rfl) ?_
    refine lv_iadd hx hb d_T_digitOf_16 ?_
    refine x_vi (y := nI (65 + d)) (nI_add _ _) ?_
    refine lv_bipush (v := nI 10) hx hb d_T_digitOf_17 (by decide) ?_
    refine lv_isub hx hb d_T_digitOf_19 ?_
    refine x_vi (y := nI (hxN d)) (by unfold hxN; rw [if_neg (by omega), x_sub (by omega)]; congr 1; omega) ?_
    refine lv_i2b (v := (Int32.toInt8 (nI (hxN d))).toInt32) hx hb d_T_digitOf_20 rfl ?_
    exact x_zret hC hr hw (x_i2bV _) (⟨rfl, rfl⟩) (Nat.le_of_ble_eq_true rfl) (Nat.le_of_ble_eq_true rfl) d_T_digitOf_21
  · have c_3 := Nat.not_le.mp ((not_congr (nI_leI (by omega) (by omega))).mp c_3)
    refine lv_bipush (v := nI 48) hx hb d_T_digitOf_6 (by decide) ?_
    refine lv_iload_n hx hb d_T_digitOf_8 rfl (lv_at hl 0 rfl) ?_
    refine lv_iadd hx hb d_T_digitOf_9 ?_
    refine x_vi (y := nI (48 + d)) (nI_add _ _) ?_
    refine lv_goto (tgt := 20) hx hb d_T_digitOf_10 (by decide) ?_
    refine x_vi (y := nI (hxN d)) (by unfold hxN; rw [if_pos c_3]) ?_
    refine lv_i2b (v := (Int32.toInt8 (nI (hxN d))).toInt32) hx hb d_T_digitOf_20 rfl ?_
    exact x_zret hC hr hw (x_i2bV _) (⟨rfl, rfl⟩) (Nat.le_of_ble_eq_true rfl) (Nat.le_of_ble_eq_true rfl) d_T_digitOf_21

set_option maxHeartbeats 400000 in
set_option maxRecDepth 100000 in
/-- decode 0 -/
theorem c_T_decode0 (l : Launch) (G : xT) (M : xMem) (sz : Nat) (a b : Int32) : xMet l G y_T_decode (Cond.code y_T_decode b_T_decode 5 (Option.some Jvm.ClassFile.FieldType.int) :: x_tbl) { frames := 1, cells := 0, slots := 0, locals := 20 } [.int (nI 0), .int a, .int b] M sz (fun u M' => u = some (.int (dcV 0 a b)) ∧ M' = M) (fun _ _ => False) := by
  refine xMet.of (by decide) (Nat.le_of_ble_eq_true rfl) ?_
  intro p e s m below meth c ls hC hr hnm hno hsz hw hl
  obtain ⟨hx, hb, hown, hts, hK, hml, hlk, hz⟩ := id hC
  have hl : lv_has ls 5 [(0, .int (nI 0)), (1, .int a), (2, .int b)] := hl
  refine lv_iload_n hx hb d_T_decode_0 rfl (lv_at hl 0 rfl) ?_
  refine lv_tableIn (off := 27) (tgt := 28) hx hb d_T_decode_1 (by decide +kernel) (by decide +kernel) (by decide +kernel) (by decide) ?_
  refine lv_iload_n hx hb d_T_decode_28 rfl (lv_at hl 1 rfl) ?_
  exact x_iret hC hr hw (⟨rfl, rfl⟩) (Nat.le_of_ble_eq_true rfl) (Nat.le_of_ble_eq_true rfl) d_T_decode_29

set_option maxHeartbeats 400000 in
set_option maxRecDepth 100000 in
/-- decode 1 -/
theorem c_T_decode1 (l : Launch) (G : xT) (M : xMem) (sz : Nat) (a b : Int32) : xMet l G y_T_decode (Cond.code y_T_decode b_T_decode 5 (Option.some Jvm.ClassFile.FieldType.int) :: x_tbl) { frames := 1, cells := 0, slots := 0, locals := 20 } [.int (nI 1), .int a, .int b] M sz (fun u M' => u = some (.int (dcV 1 a b)) ∧ M' = M) (fun _ _ => False) := by
  refine xMet.of (by decide) (Nat.le_of_ble_eq_true rfl) ?_
  intro p e s m below meth c ls hC hr hnm hno hsz hw hl
  obtain ⟨hx, hb, hown, hts, hK, hml, hlk, hz⟩ := id hC
  have hl : lv_has ls 5 [(0, .int (nI 1)), (1, .int a), (2, .int b)] := hl
  refine lv_iload_n hx hb d_T_decode_0 rfl (lv_at hl 0 rfl) ?_
  refine lv_tableIn (off := 29) (tgt := 30) hx hb d_T_decode_1 (by decide +kernel) (by decide +kernel) (by decide +kernel) (by decide) ?_
  refine lv_iload_n hx hb d_T_decode_30 rfl (lv_at hl 1 rfl) ?_
  refine lv_if_ne (tgt := 38) hx hb d_T_decode_31 (by decide) (fun c_31 => ?_) (fun c_31 => ?_)
  · refine lv_iconst (v := (-1)) hx hb d_T_decode_38 (by decide) ?_
    exact x_iret hC hr hw (⟨congrArg (fun z => some (Value.int z)) ((if_neg c_31).symm), rfl⟩) (Nat.le_of_ble_eq_true rfl) (Nat.le_of_ble_eq_true rfl) d_T_decode_39
  · refine lv_iload_n hx hb d_T_decode_34 rfl (lv_at hl 2 rfl) ?_
    refine lv_goto (tgt := 39) hx hb d_T_decode_35 (by decide) ?_
    exact x_iret hC hr hw (⟨congrArg (fun z => some (Value.int z)) ((if_pos c_31).symm), rfl⟩) (Nat.le_of_ble_eq_true rfl) (Nat.le_of_ble_eq_true rfl) d_T_decode_39

set_option maxHeartbeats 400000 in
set_option maxRecDepth 100000 in
/-- decode 2 -/
theorem c_T_decode2 (l : Launch) (G : xT) (M : xMem) (sz : Nat) (a b : Int32) : xMet l G y_T_decode (Cond.code y_T_decode b_T_decode 5 (Option.some Jvm.ClassFile.FieldType.int) :: x_tbl) { frames := 1, cells := 0, slots := 0, locals := 20 } [.int (nI 2), .int a, .int b] M sz (fun u M' => u = some (.int (dcV 2 a b)) ∧ M' = M) (fun _ _ => False) := by
  refine xMet.of (by decide) (Nat.le_of_ble_eq_true rfl) ?_
  intro p e s m below meth c ls hC hr hnm hno hsz hw hl
  obtain ⟨hx, hb, hown, hts, hK, hml, hlk, hz⟩ := id hC
  have hl : lv_has ls 5 [(0, .int (nI 2)), (1, .int a), (2, .int b)] := hl
  refine lv_iload_n hx hb d_T_decode_0 rfl (lv_at hl 0 rfl) ?_
  refine lv_tableIn (off := 39) (tgt := 40) hx hb d_T_decode_1 (by decide +kernel) (by decide +kernel) (by decide +kernel) (by decide) ?_
  refine lv_iload_n hx hb d_T_decode_40 rfl (lv_at hl 2 rfl) ?_
  refine lv_if_ne (tgt := 48) hx hb d_T_decode_41 (by decide) (fun c_41 => ?_) (fun c_41 => ?_)
  · refine lv_iconst (v := (-1)) hx hb d_T_decode_48 (by decide) ?_
    exact x_iret hC hr hw (⟨congrArg (fun z => some (Value.int z)) ((if_neg c_41).symm), rfl⟩) (Nat.le_of_ble_eq_true rfl) (Nat.le_of_ble_eq_true rfl) d_T_decode_49
  · refine lv_iload_n hx hb d_T_decode_44 rfl (lv_at hl 1 rfl) ?_
    refine lv_goto (tgt := 49) hx hb d_T_decode_45 (by decide) ?_
    exact x_iret hC hr hw (⟨congrArg (fun z => some (Value.int z)) ((if_pos c_41).symm), rfl⟩) (Nat.le_of_ble_eq_true rfl) (Nat.le_of_ble_eq_true rfl) d_T_decode_49

set_option maxHeartbeats 400000 in
set_option maxRecDepth 100000 in
/-- decode 3 -/
theorem c_T_decode3 (l : Launch) (G : xT) (M : xMem) (sz : Nat) (a b : Int32) : xMet l G y_T_decode (Cond.code y_T_decode b_T_decode 5 (Option.some Jvm.ClassFile.FieldType.int) :: x_tbl) { frames := 1, cells := 0, slots := 0, locals := 20 } [.int (nI 3), .int a, .int b] M sz (fun u M' => u = some (.int (dcV 3 a b)) ∧ M' = M) (fun _ _ => False) := by
  refine xMet.of (by decide) (Nat.le_of_ble_eq_true rfl) ?_
  intro p e s m below meth c ls hC hr hnm hno hsz hw hl
  obtain ⟨hx, hb, hown, hts, hK, hml, hlk, hz⟩ := id hC
  have hl : lv_has ls 5 [(0, .int (nI 3)), (1, .int a), (2, .int b)] := hl
  refine lv_iload_n hx hb d_T_decode_0 rfl (lv_at hl 0 rfl) ?_
  refine lv_tableOut (tgt := 50) hx hb d_T_decode_1 (by decide +kernel) (by decide) ?_
  refine lv_iload_n hx hb d_T_decode_50 rfl (lv_at hl 1 rfl) ?_
  refine x_callG hC (c_T_valueOfDigit l G M (Array.size s.heap) a) k_280 k_25 ⟨Nat.le_of_ble_eq_true rfl, Nat.le_of_ble_eq_true rfl⟩ ⟨Nat.le_of_ble_eq_true rfl, Nat.le_of_ble_eq_true rfl⟩ hw hl.1 (Nat.le_of_ble_eq_true rfl) d_T_decode_51 (x_ivS hC k_280 k_278 k_279 k_25 (show _ ∧ _ ∧ _ = some 1 from by decide +kernel) rfl d_T_decode_51) (fun rv M1 H locs hq hw => ?_) (fun _ _ _ _ _ h _ _ => h.elim)
  obtain ⟨rfl, hM⟩ := hq
  subst M1
  refine W.eq (g2 := F0 m 54 ls [.int (dgI a)]) rfl ?_
  refine lv_istore_n (lv' := [(3, .int (dgI a)), (0, .int (nI 3)), (1, .int a), (2, .int b)]) hx hb d_T_decode_54 rfl hl (by decide) rfl (fun ls hl => ?_)
  refine lv_iload_n hx hb d_T_decode_55 rfl (lv_at hl 3 rfl) ?_
  refine x_callG hC (c_T_valueOfDigit l G M (Array.size H) b) k_280 k_25 ⟨Nat.le_of_ble_eq_true rfl, Nat.le_of_ble_eq_true rfl⟩ ⟨Nat.le_of_ble_eq_true rfl, Nat.le_of_ble_eq_true rfl⟩ hw hl.1 (Nat.le_of_ble_eq_true rfl) d_T_decode_56 (x_ivS hC k_280 k_278 k_279 k_25 (show _ ∧ _ ∧ _ = some 1 from by decide +kernel) rfl d_T_decode_56) (fun rv M2 H locs hq hw => ?_) (fun _ _ _ _ _ h _ _ => h.elim)
  obtain ⟨rfl, hM⟩ := hq
  subst M2
  refine W.eq (g2 := F0 m 59 ls [.int (dgI b)]) rfl ?_
  refine lv_istore (lv' := [(4, .int (dgI b)), (3, .int (dgI a)), (0, .int (nI 3)), (1, .int a), (2, .int b)]) hx hb d_T_decode_59 hl (by decide) rfl (fun ls hl => ?_)
  refine lv_iload_n hx hb d_T_decode_61 rfl (lv_at hl 1 rfl) ?_
  refine lv_iconst (v := (-1)) hx hb d_T_decode_62 (by decide) ?_
  refine lv_icmp_eq (tgt := 72) hx hb d_T_decode_63 (by decide) (fun c_63 => ?_) (fun c_63 => ?_)
  · refine lv_iconst (v := (-1)) hx hb d_T_decode_72 (by decide) ?_
    refine lv_goto (tgt := 83) hx hb d_T_decode_73 (by decide) ?_
    exact x_iret hC hr hw (⟨congrArg (fun z => some (Value.int z)) ((if_pos (Or.inl c_63)).symm), rfl⟩) (Nat.le_of_ble_eq_true rfl) (Nat.le_of_ble_eq_true rfl) d_T_decode_83
  · refine lv_iload hx hb d_T_decode_66 (lv_at hl 0 rfl) ?_
    refine lv_iconst (v := (-1)) hx hb d_T_decode_68 (by decide) ?_
    refine lv_icmp_ne (tgt := 76) hx hb d_T_decode_69 (by decide) (fun c_69 => ?_) (fun c_69 => ?_)
    · refine lv_iload_n hx hb d_T_decode_76 rfl (lv_at hl 1 rfl) ?_
      refine lv_bipush (v := nI 16) hx hb d_T_decode_77 (by decide) ?_
      refine lv_imul hx hb d_T_decode_79 ?_
      refine lv_iload hx hb d_T_decode_80 (lv_at hl 0 rfl) ?_
      refine lv_iadd hx hb d_T_decode_82 ?_
      exact x_iret hC hr hw (⟨congrArg (fun z => some (Value.int z)) ((if_neg (fun h => h.elim c_63 c_69)).symm), rfl⟩) (Nat.le_of_ble_eq_true rfl) (Nat.le_of_ble_eq_true rfl) d_T_decode_83
    · refine lv_iconst (v := (-1)) hx hb d_T_decode_72 (by decide) ?_
      refine lv_goto (tgt := 83) hx hb d_T_decode_73 (by decide) ?_
      exact x_iret hC hr hw (⟨congrArg (fun z => some (Value.int z)) ((if_pos (Or.inr c_69)).symm), rfl⟩) (Nat.le_of_ble_eq_true rfl) (Nat.le_of_ble_eq_true rfl) d_T_decode_83
