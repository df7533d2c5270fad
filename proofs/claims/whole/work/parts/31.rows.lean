def rowUp (f : Nat → Int32) (i : Nat) (a b c d : Int32) : Nat → Int32 := va_up (va_up (va_up (va_up f (i * 4 + 0) a) (i * 4 + 1) b) (i * 4 + 2) c) (i * 4 + 3) d
set_option maxHeartbeats 400000 in
set_option maxRecDepth 100000 in
/-- SignRow.part, within -/
theorem c_S_part (l : Launch) (G : xT) (M : xMem) (sz : Nat) (r pa i w : Nat) (n num : Int32) (f : Nat → Int32) (hi : i < 40) (hw4 : w < 4) (h_r : M r = some (.inr (1, [.int num, .ref pa, .int n]))) (h_p : M pa = some (.inl (G.2.1 0, 160, .inl f))) : xMet l G y_S_part (Cond.code y_S_part b_S_part 3 (Option.some Jvm.ClassFile.FieldType.int) :: x_tbl) { frames := 0, cells := 0, slots := 0, locals := 0 } [.ref r, .int (nI i), .int (nI w)] M sz (fun v M' => v = some (.int (f (i * 4 + w))) ∧ M' = M) (fun _ _ => False) := by
  refine xMet.of (by decide) (Nat.le_of_ble_eq_true rfl) ?_
  intro p e s m below meth c ls hC hr hnm hno hsz hw hl
  obtain ⟨hx, hb, hown, hts, hK, hml, hlk, hz⟩ := id hC
  have hl : lv_has ls 3 [(0, .ref r), (1, .int (nI i)), (2, .int (nI w))] := hl
  refine lv_iload_n hx hb d_S_part_0 rfl (lv_at hl 1 rfl) ?_
  refine lv_if_lt (tgt := 19) hx hb d_S_part_1 (by decide) (fun c_1 => ?_) (fun c_1 => ?_)
  · exact absurd c_1 (nI_pos (by omega))
  · refine lv_iload_n hx hb d_S_part_4 rfl (lv_at hl 1 rfl) ?_
    refine lv_bipush (v := nI 40) hx hb d_S_part_5 (by decide) ?_
    refine lv_icmp_ge (tgt := 19) hx hb d_S_part_7 (by decide) (fun c_7 => ?_) (fun c_7 => ?_)
    · have c_7 := (nI_leI (by omega) (by omega)).mp c_7
      omega
    · have c_7 := Nat.not_le.mp ((not_congr (nI_leI (by omega) (by omega))).mp c_7)
      refine lv_iload_n hx hb d_S_part_10 rfl (lv_at hl 2 rfl) ?_
      refine lv_if_lt (tgt := 19) hx hb d_S_part_11 (by decide) (fun c_11 => ?_) (fun c_11 => ?_)
      · exact absurd c_11 (nI_pos (by omega))
      · refine lv_iload_n hx hb d_S_part_14 rfl (lv_at hl 2 rfl) ?_
        refine lv_iconst (v := nI 4) hx hb d_S_part_15 (by decide) ?_
        refine lv_icmp_lt (tgt := 21) hx hb d_S_part_16 (by decide) (fun c_16 => ?_) (fun c_16 => ?_)
        · have c_16 := (nI_ltI (by omega) (by omega)).mp c_16
          refine lv_aload_n hx hb d_S_part_21 rfl (lv_at hl 0 rfl) ?_
          refine x_get hC hw h_r rfl 1 (by decide) (hts _ k_109) (fun _ h9 => h9) rfl d_S_part_22 ?_
          refine lv_iload_n hx hb d_S_part_25 rfl (lv_at hl 1 rfl) ?_
          refine lv_iconst (v := nI 4) hx hb d_S_part_26 (by decide) ?_
          refine lv_imul hx hb d_S_part_27 ?_
          refine x_vi (y := nI (i * 4)) (pk_mul _ _) ?_
          refine lv_iload_n hx hb d_S_part_28 rfl (lv_at hl 2 rfl) ?_
          refine lv_iadd hx hb d_S_part_29 ?_
          refine x_vi (y := nI ((i * 4) + w)) (nI_add _ _) ?_
          refine x_iald (j := ((i * 4) + w)) hC hw h_p rfl (rfl) (by omega) (by omega) d_S_part_30 ?_
          exact x_iret hC hr hw (⟨rfl, rfl⟩) (Nat.le_of_ble_eq_true rfl) (Nat.le_of_ble_eq_true rfl) d_S_part_31
        · have c_16 := Nat.not_lt.mp ((not_congr (nI_ltI (by omega) (by omega))).mp c_16)
          omega

set_option maxHeartbeats 400000 in
set_option maxRecDepth 100000 in
/-- SignRow.put, within -/
theorem c_S_put (l : Launch) (G : xT) (M : xMem) (sz : Nat) (r pa i : Nat) (n num a0 a1 a2 a3 : Int32) (f : Nat → Int32) (hi : i < 40) (h_r : M r = some (.inr (1, [.int num, .ref pa, .int n]))) (h_p : M pa = some (.inl (G.2.1 0, 160, .inl f))) : xMet l G y_S_put (Cond.code y_S_put b_S_put 7 none :: x_tbl) { frames := 0, cells := 0, slots := 0, locals := 0 } [.ref r, .int (nI i), .int a0, .int a1, .int a2, .int a3] M sz (fun v M' => v = none ∧ M' r = some (.inr (1, [.int num, .ref pa, .int n])) ∧ M' pa = some (.inl (G.2.1 0, 160, .inl (rowUp f i a0 a1 a2 a3))) ∧ xfr M M' [r, pa]) (fun _ _ => False) := by
  refine xMet.of (by decide) (Nat.le_of_ble_eq_true rfl) ?_
  intro p e s m below meth c ls hC hr hnm hno hsz hw hl
  obtain ⟨hx, hb, hown, hts, hK, hml, hlk, hz⟩ := id hC
  have hl : lv_has ls 7 [(0, .ref r), (1, .int (nI i)), (2, .int a0), (3, .int a1), (4, .int a2), (5, .int a3)] := hl
  have hF : xfr M M [r, pa] := xfr.rf
  refine lv_iload_n hx hb d_S_put_0 rfl (lv_at hl 1 rfl) ?_
  refine lv_if_lt (tgt := 10) hx hb d_S_put_1 (by decide) (fun c_1 => ?_) (fun c_1 => ?_)
  · exact absurd c_1 (nI_pos (by omega))
  · refine lv_iload_n hx hb d_S_put_4 rfl (lv_at hl 1 rfl) ?_
    refine lv_bipush (v := nI 40) hx hb d_S_put_5 (by decide) ?_
    refine lv_icmp_lt (tgt := 11) hx hb d_S_put_7 (by decide) (fun c_7 => ?_) (fun c_7 => ?_)
    · have c_7 := (nI_ltI (by omega) (by omega)).mp c_7
      refine lv_iload_n hx hb d_S_put_11 rfl (lv_at hl 1 rfl) ?_
      refine lv_iconst (v := nI 4) hx hb d_S_put_12 (by decide) ?_
      refine lv_imul hx hb d_S_put_13 ?_
      refine x_vi (y := nI (i * 4)) (pk_mul _ _) ?_
      refine lv_istore (lv' := [(6, .int (nI (i * 4))), (0, .ref r), (1, .int (nI i)), (2, .int a0), (3, .int a1), (4, .int a2), (5, .int a3)]) hx hb d_S_put_14 hl (by decide) rfl (fun ls hl => ?_)
      refine lv_aload_n hx hb d_S_put_16 rfl (lv_at hl 1 rfl) ?_
      refine x_get hC hw h_r rfl 1 (by decide) (hts _ k_109) (fun _ h9 => h9) rfl d_S_put_17 ?_
      refine lv_iload hx hb d_S_put_20 (lv_at hl 0 rfl) ?_
      refine lv_iconst (v := nI 0) hx hb d_S_put_22 (by decide) ?_
      refine lv_iadd hx hb d_S_put_23 ?_
      refine x_vi (y := nI ((i * 4) + 0)) (nI_add _ _) ?_
      refine lv_iload_n hx hb d_S_put_24 rfl (lv_at hl 3 rfl) ?_
      refine x_iast (j := ((i * 4) + 0)) hC hw h_p rfl (rfl) (by omega) (by omega) d_S_put_25 (fun M1 H locs em fr hw => ?_)
      have h_r := (fr _ (x_ne h_r h_p (by intro z; cases z))).trans h_r
      have h_p := em
      have hF := hF.put em fr (Or.inl (by simp))
      refine lv_aload_n hx hb d_S_put_26 rfl (lv_at hl 1 rfl) ?_
      refine x_get hC hw h_r rfl 1 (by decide) (hts _ k_109) (fun _ h9 => h9) rfl d_S_put_27 ?_
      refine lv_iload hx hb d_S_put_30 (lv_at hl 0 rfl) ?_
      refine lv_iconst (v := nI 1) hx hb d_S_put_32 (by decide) ?_
      refine lv_iadd hx hb d_S_put_33 ?_
      refine x_vi (y := nI ((i * 4) + 1)) (nI_add _ _) ?_
      refine lv_iload_n hx hb d_S_put_34 rfl (lv_at hl 4 rfl) ?_
      refine x_iast (j := ((i * 4) + 1)) hC hw h_p rfl (rfl) (by omega) (by omega) d_S_put_35 (fun M2 H locs em fr hw => ?_)
      have h_r := (fr _ (x_ne h_r h_p (by intro z; cases z))).trans h_r
      have h_p := em
      have hF := hF.put em fr (Or.inl (by simp))
      refine lv_aload_n hx hb d_S_put_36 rfl (lv_at hl 1 rfl) ?_
      refine x_get hC hw h_r rfl 1 (by decide) (hts _ k_109) (fun _ h9 => h9) rfl d_S_put_37 ?_
      refine lv_iload hx hb d_S_put_40 (lv_at hl 0 rfl) ?_
      refine lv_iconst (v := nI 2) hx hb d_S_put_42 (by decide) ?_
      refine lv_iadd hx hb d_S_put_43 ?_
      refine x_vi (y := nI ((i * 4) + 2)) (nI_add _ _) ?_
      refine lv_iload hx hb d_S_put_44 (lv_at hl 5 rfl) ?_
      refine x_iast (j := ((i * 4) + 2)) hC hw h_p rfl (rfl) (by omega) (by omega) d_S_put_46 (fun M3 H locs em fr hw => ?_)
      have h_r := (fr _ (x_ne h_r h_p (by intro z; cases z))).trans h_r
      have h_p := em
      have hF := hF.put em fr (Or.inl (by simp))
      refine lv_aload_n hx hb d_S_put_47 rfl (lv_at hl 1 rfl) ?_
      refine x_get hC hw h_r rfl 1 (by decide) (hts _ k_109) (fun _ h9 => h9) rfl d_S_put_48 ?_
      refine lv_iload hx hb d_S_put_51 (lv_at hl 0 rfl) ?_
      refine lv_iconst (v := nI 3) hx hb d_S_put_53 (by decide) ?_
      refine lv_iadd hx hb d_S_put_54 ?_
      refine x_vi (y := nI ((i * 4) + 3)) (nI_add _ _) ?_
      refine lv_iload hx hb d_S_put_55 (lv_at hl 6 rfl) ?_
      refine x_iast (j := ((i * 4) + 3)) hC hw h_p rfl (rfl) (by omega) (by omega) d_S_put_57 (fun M4 H locs em fr hw => ?_)
      have h_r := (fr _ (x_ne h_r h_p (by intro z; cases z))).trans h_r
      have h_p := em
      have hF := hF.put em fr (Or.inl (by simp))
      exact x_vret hC hr hw (⟨rfl, h_r, h_p, hF⟩) (Nat.le_of_ble_eq_true rfl) (Nat.le_of_ble_eq_true rfl) d_S_put_58
    · have c_7 := Nat.not_lt.mp ((not_congr (nI_ltI (by omega) (by omega))).mp c_7)
      omega

set_option maxHeartbeats 400000 in
set_option maxRecDepth 100000 in
/-- SignRow.add, with room -/
theorem c_S_add (l : Launch) (G : xT) (M : xMem) (sz : Nat) (r pa n : Nat) (num a0 a1 a2 a3 : Int32) (f : Nat → Int32) (hn : n < 40) (h_r : M r = some (.inr (1, [.int num, .ref pa, .int (nI n)]))) (h_p : M pa = some (.inl (G.2.1 0, 160, .inl f))) : xMet l G y_S_add (Cond.code y_S_add b_S_add 5 none :: x_tbl) { frames := 1, cells := 0, slots := 0, locals := 26 } [.ref r, .int a0, .int a1, .int a2, .int a3] M sz (fun v M' => v = none ∧ M' r = some (.inr (1, [.int num, .ref pa, .int (nI (n + 1))])) ∧ M' pa = some (.inl (G.2.1 0, 160, .inl (rowUp f n a0 a1 a2 a3))) ∧ xfr M M' [r, pa]) (fun _ _ => False) := by
  refine xMet.of (by decide) (Nat.le_of_ble_eq_true rfl) ?_
  intro p e s m below meth c ls hC hr hnm hno hsz hw hl
  obtain ⟨hx, hb, hown, hts, hK, hml, hlk, hz⟩ := id hC
  have hl : lv_has ls 5 [(0, .ref r), (1, .int a0), (2, .int a1), (3, .int a2), (4, .int a3)] := hl
  have hF : xfr M M [r, pa] := xfr.rf
  refine lv_aload_n hx hb d_S_add_0 rfl (lv_at hl 0 rfl) ?_
  refine x_get hC hw h_r rfl 2 (by decide) (hts _ k_86) (u_same (hts _ k_87)) rfl d_S_add_1 ?_
  refine lv_bipush (v := nI 40) hx hb d_S_add_4 (by decide) ?_
  refine lv_icmp_ge (tgt := 32) hx hb d_S_add_6 (by decide) (fun c_6 => ?_) (fun c_6 => ?_)
  · have c_6 := (nI_leI (by omega) (by omega)).mp c_6
    omega
  · have c_6 := Nat.not_le.mp ((not_congr (nI_leI (by omega) (by omega))).mp c_6)
    refine lv_aload_n hx hb d_S_add_9 rfl (lv_at hl 0 rfl) ?_
    refine lv_aload_n hx hb d_S_add_10 rfl (lv_at hl 0 rfl) ?_
    refine x_get hC hw h_r rfl 2 (by decide) (hts _ k_86) (u_same (hts _ k_87)) rfl d_S_add_11 ?_
    refine lv_iload_n hx hb d_S_add_14 rfl (lv_at hl 1 rfl) ?_
    refine lv_iload_n hx hb d_S_add_15 rfl (lv_at hl 2 rfl) ?_
    refine lv_iload_n hx hb d_S_add_16 rfl (lv_at hl 3 rfl) ?_
    refine lv_iload hx hb d_S_add_17 (lv_at hl 4 rfl) ?_
    refine x_callG hC (c_S_put l G M (Array.size s.heap) r pa n (nI n) num a0 a1 a2 a3 f (by omega) h_r h_p) k_415 k_8 ⟨Nat.le_of_ble_eq_true rfl, Nat.le_of_ble_eq_true rfl⟩ ⟨Nat.le_of_ble_eq_true rfl, Nat.le_of_ble_eq_true rfl⟩ hw hl.1 (Nat.le_of_ble_eq_true rfl) d_S_add_19 (x_ivV hC k_415 k_412 k_414 kp_7 (show _ ∧ _ ∧ _ = some 5 from by decide +kernel) (x_recv hC hw h_r rfl) rfl d_S_add_19) (fun rv M1 H locs hq hw => ?_) (fun _ _ _ _ _ h _ _ => h.elim)
    obtain ⟨rfl, h_r, h_p, fr⟩ := hq
    have hF := fr
    refine W.eq (g2 := F0 m 22 ls []) rfl ?_
    refine lv_aload_n hx hb d_S_add_22 rfl (lv_at hl 0 rfl) ?_
    refine lv_dup hx hb d_S_add_23 rfl ?_
    refine x_get hC hw h_r rfl 2 (by decide) (hts _ k_86) (u_same (hts _ k_87)) rfl d_S_add_24 ?_
    refine lv_iconst (v := nI 1) hx hb d_S_add_27 (by decide) ?_
    refine lv_iadd hx hb d_S_add_28 ?_
    refine x_vi (y := nI (n + 1)) (nI_add _ _) ?_
    refine x_put (ty := .int) hC hw h_r rfl 2 (by decide) (hts _ k_86) (u_same (hts _ k_87)) rfl (by decide +kernel) rfl rfl (Nat.le_of_ble_eq_true rfl) d_S_add_29 (fun M2 H locs em fr hw => ?_)
    have em : M2 r = some (.inr (1, [.int num, .ref pa, .int (nI (n + 1))])) := em
    have h_p := (fr _ (x_ne h_p h_r (by intro z; cases z))).trans h_p
    have h_r := em
    have hF := hF.put em fr (Or.inl (by simp))
    exact x_vret hC hr hw (⟨rfl, h_r, h_p, hF⟩) (Nat.le_of_ble_eq_true rfl) (Nat.le_of_ble_eq_true rfl) d_S_add_32

set_option maxHeartbeats 400000 in
set_option maxRecDepth 100000 in
/-- S_keep -/
theorem c_S_keep (l : Launch) (G : xT) (M : xMem) (sz : Nat) (r pa n i j : Nat) (num : Int32) (f : Nat → Int32) (hn : n ≤ 40) (hi : i < n) (hj : j ≤ i) (h_r : M r = some (.inr (1, [.int num, .ref pa, .int (nI n)]))) (h_p : M pa = some (.inl (G.2.1 0, 160, .inl f))) : xMet l G y_S_keep (Cond.code y_S_keep b_S_keep 3 none :: x_tbl) { frames := 1, cells := 0, slots := 0, locals := 26 } [.ref r, .int (nI i), .int (nI j)] M sz (fun v M' => v = none ∧ M' r = some (.inr (1, [.int num, .ref pa, .int (nI n)])) ∧ M' pa = some (.inl (G.2.1 0, 160, .inl (rowUp f j (f (i * 4 + 0)) (f (i * 4 + 1)) (f (i * 4 + 2)) (f (i * 4 + 3))))) ∧ xfr M M' [r, pa]) (fun _ _ => False) := by
  refine xMet.of (by decide) (Nat.le_of_ble_eq_true rfl) ?_
  intro p e s m below meth c ls hC hr hnm hno hsz hw hl
  obtain ⟨hx, hb, hown, hts, hK, hml, hlk, hz⟩ := id hC
  have hl : lv_has ls 3 [(0, .ref r), (1, .int (nI i)), (2, .int (nI j))] := hl
  refine lv_aload_n hx hb d_S_keep_0 rfl (lv_at hl 0 rfl) ?_
  refine lv_iload_n hx hb d_S_keep_1 rfl (lv_at hl 2 rfl) ?_
  refine lv_aload_n hx hb d_S_keep_2 rfl (lv_at hl 0 rfl) ?_
  refine lv_iload_n hx hb d_S_keep_3 rfl (lv_at hl 1 rfl) ?_
  refine lv_iconst (v := nI 0) hx hb d_S_keep_4 (by decide) ?_
  refine x_callG hC (c_S_part l G M (Array.size s.heap) r pa i 0 (nI n) num f (by omega) (by omega) h_r h_p) k_234 k_8 ⟨Nat.le_of_ble_eq_true rfl, Nat.le_of_ble_eq_true rfl⟩ ⟨Nat.le_of_ble_eq_true rfl, Nat.le_of_ble_eq_true rfl⟩ hw hl.1 (Nat.le_of_ble_eq_true rfl) d_S_keep_5 (x_ivV hC k_234 k_231 k_232 k_233 (show _ ∧ _ ∧ _ = some 2 from by decide +kernel) (x_recv hC hw h_r rfl) rfl d_S_keep_5) (fun rv M1 H locs hq hw => ?_) (fun _ _ _ _ _ h _ _ => h.elim)
  obtain ⟨rfl, hM⟩ := hq
  subst M1
  refine W.eq (g2 := F0 m 8 ls [.int (f (i * 4 + 0)), .int (nI j), .ref r]) rfl ?_
  refine lv_aload_n hx hb d_S_keep_8 rfl (lv_at hl 0 rfl) ?_
  refine lv_iload_n hx hb d_S_keep_9 rfl (lv_at hl 1 rfl) ?_
  refine lv_iconst (v := nI 1) hx hb d_S_keep_10 (by decide) ?_
  refine x_callG hC (c_S_part l G M (Array.size H) r pa i 1 (nI n) num f (by omega) (by omega) h_r h_p) k_234 k_8 ⟨Nat.le_of_ble_eq_true rfl, Nat.le_of_ble_eq_true rfl⟩ ⟨Nat.le_of_ble_eq_true rfl, Nat.le_of_ble_eq_true rfl⟩ hw hl.1 (Nat.le_of_ble_eq_true rfl) d_S_keep_11 (x_ivV hC k_234 k_231 k_232 k_233 (show _ ∧ _ ∧ _ = some 2 from by decide +kernel) (x_recv hC hw h_r rfl) rfl d_S_keep_11) (fun rv M2 H locs hq hw => ?_) (fun _ _ _ _ _ h _ _ => h.elim)
  obtain ⟨rfl, hM⟩ := hq
  subst M2
  refine W.eq (g2 := F0 m 14 ls [.int (f (i * 4 + 1)), .int (f (i * 4 + 0)), .int (nI j), .ref r]) rfl ?_
  refine lv_aload_n hx hb d_S_keep_14 rfl (lv_at hl 0 rfl) ?_
  refine lv_iload_n hx hb d_S_keep_15 rfl (lv_at hl 1 rfl) ?_
  refine lv_iconst (v := nI 2) hx hb d_S_keep_16 (by decide) ?_
  refine x_callG hC (c_S_part l G M (Array.size H) r pa i 2 (nI n) num f (by omega) (by omega) h_r h_p) k_234 k_8 ⟨Nat.le_of_ble_eq_true rfl, Nat.le_of_ble_eq_true rfl⟩ ⟨Nat.le_of_ble_eq_true rfl, Nat.le_of_ble_eq_true rfl⟩ hw hl.1 (Nat.le_of_ble_eq_true rfl) d_S_keep_17 (x_ivV hC k_234 k_231 k_232 k_233 (show _ ∧ _ ∧ _ = some 2 from by decide +kernel) (x_recv hC hw h_r rfl) rfl d_S_keep_17) (fun rv M3 H locs hq hw => ?_) (fun _ _ _ _ _ h _ _ => h.elim)
  obtain ⟨rfl, hM⟩ := hq
  subst M3
  refine W.eq (g2 := F0 m 20 ls [.int (f (i * 4 + 2)), .int (f (i * 4 + 1)), .int (f (i * 4 + 0)), .int (nI j), .ref r]) rfl ?_
  refine lv_aload_n hx hb d_S_keep_20 rfl (lv_at hl 0 rfl) ?_
  refine lv_iload_n hx hb d_S_keep_21 rfl (lv_at hl 1 rfl) ?_
  refine lv_iconst (v := nI 3) hx hb d_S_keep_22 (by decide) ?_
  refine x_callG hC (c_S_part l G M (Array.size H) r pa i 3 (nI n) num f (by omega) (by omega) h_r h_p) k_234 k_8 ⟨Nat.le_of_ble_eq_true rfl, Nat.le_of_ble_eq_true rfl⟩ ⟨Nat.le_of_ble_eq_true rfl, Nat.le_of_ble_eq_true rfl⟩ hw hl.1 (Nat.le_of_ble_eq_true rfl) d_S_keep_23 (x_ivV hC k_234 k_231 k_232 k_233 (show _ ∧ _ ∧ _ = some 2 from by decide +kernel) (x_recv hC hw h_r rfl) rfl d_S_keep_23) (fun rv M4 H locs hq hw => ?_) (fun _ _ _ _ _ h _ _ => h.elim)
  obtain ⟨rfl, hM⟩ := hq
  subst M4
  refine W.eq (g2 := F0 m 26 ls [.int (f (i * 4 + 3)), .int (f (i * 4 + 2)), .int (f (i * 4 + 1)), .int (f (i * 4 + 0)), .int (nI j), .ref r]) rfl ?_
  refine x_callG hC (c_S_put l G M (Array.size H) r pa j (nI n) num (f (i * 4 + 0)) (f (i * 4 + 1)) (f (i * 4 + 2)) (f (i * 4 + 3)) f (by omega) h_r h_p) k_415 k_8 ⟨Nat.le_of_ble_eq_true rfl, Nat.le_of_ble_eq_true rfl⟩ ⟨Nat.le_of_ble_eq_true rfl, Nat.le_of_ble_eq_true rfl⟩ hw hl.1 (Nat.le_of_ble_eq_true rfl) d_S_keep_26 (x_ivV hC k_415 k_412 k_414 kp_7 (show _ ∧ _ ∧ _ = some 5 from by decide +kernel) (x_recv hC hw h_r rfl) rfl d_S_keep_26) (fun rv M5 H locs hq hw => ?_) (fun _ _ _ _ _ h _ _ => h.elim)
  obtain ⟨rfl, h_r, h_p, fr⟩ := hq
  refine W.eq (g2 := F0 m 29 ls []) rfl ?_
  exact x_vret hC hr hw (⟨rfl, h_r, h_p, fr⟩) (Nat.le_of_ble_eq_true rfl) (Nat.le_of_ble_eq_true rfl) d_S_keep_29

set_option maxHeartbeats 400000 in
set_option maxRecDepth 100000 in
/-- S_blot -/
theorem c_S_blot (l : Launch) (G : xT) (M : xMem) (sz : Nat) (r pa n i j : Nat) (num : Int32) (f : Nat → Int32) (hn : n ≤ 40) (hi : i < n) (hj : j ≤ i) (h_r : M r = some (.inr (1, [.int num, .ref pa, .int (nI n)]))) (h_p : M pa = some (.inl (G.2.1 0, 160, .inl f))) : xMet l G y_S_blot (Cond.code y_S_blot b_S_blot 3 none :: x_tbl) { frames := 1, cells := 0, slots := 0, locals := 26 } [.ref r, .int (nI i), .int (nI j)] M sz (fun v M' => v = none ∧ M' r = some (.inr (1, [.int num, .ref pa, .int (nI n)])) ∧ M' pa = some (.inl (G.2.1 0, 160, .inl (rowUp f j (nI 0) (f (i * 4 + 1)) (f (i * 4 + 2)) (nI 100)))) ∧ xfr M M' [r, pa]) (fun _ _ => False) := by
  refine xMet.of (by decide) (Nat.le_of_ble_eq_true rfl) ?_
  intro p e s m below meth c ls hC hr hnm hno hsz hw hl
  obtain ⟨hx, hb, hown, hts, hK, hml, hlk, hz⟩ := id hC
  have hl : lv_has ls 3 [(0, .ref r), (1, .int (nI i)), (2, .int (nI j))] := hl
  refine lv_aload_n hx hb d_S_blot_0 rfl (lv_at hl 0 rfl) ?_
  refine lv_iload_n hx hb d_S_blot_1 rfl (lv_at hl 2 rfl) ?_
  refine lv_iconst (v := nI 0) hx hb d_S_blot_2 (by decide) ?_
  refine lv_aload_n hx hb d_S_blot_3 rfl (lv_at hl 0 rfl) ?_
  refine lv_iload_n hx hb d_S_blot_4 rfl (lv_at hl 1 rfl) ?_
  refine lv_iconst (v := nI 1) hx hb d_S_blot_5 (by decide) ?_
  refine x_callG hC (c_S_part l G M (Array.size s.heap) r pa i 1 (nI n) num f (by omega) (by omega) h_r h_p) k_234 k_8 ⟨Nat.le_of_ble_eq_true rfl, Nat.le_of_ble_eq_true rfl⟩ ⟨Nat.le_of_ble_eq_true rfl, Nat.le_of_ble_eq_true rfl⟩ hw hl.1 (Nat.le_of_ble_eq_true rfl) d_S_blot_6 (x_ivV hC k_234 k_231 k_232 k_233 (show _ ∧ _ ∧ _ = some 2 from by decide +kernel) (x_recv hC hw h_r rfl) rfl d_S_blot_6) (fun rv M1 H locs hq hw => ?_) (fun _ _ _ _ _ h _ _ => h.elim)
  obtain ⟨rfl, hM⟩ := hq
  subst M1
  refine W.eq (g2 := F0 m 9 ls [.int (f (i * 4 + 1)), .int (nI 0), .int (nI j), .ref r]) rfl ?_
  refine lv_aload_n hx hb d_S_blot_9 rfl (lv_at hl 0 rfl) ?_
  refine lv_iload_n hx hb d_S_blot_10 rfl (lv_at hl 1 rfl) ?_
  refine lv_iconst (v := nI 2) hx hb d_S_blot_11 (by decide) ?_
  refine x_callG hC (c_S_part l G M (Array.size H) r pa i 2 (nI n) num f (by omega) (by omega) h_r h_p) k_234 k_8 ⟨Nat.le_of_ble_eq_true rfl, Nat.le_of_ble_eq_true rfl⟩ ⟨Nat.le_of_ble_eq_true rfl, Nat.le_of_ble_eq_true rfl⟩ hw hl.1 (Nat.le_of_ble_eq_true rfl) d_S_blot_12 (x_ivV hC k_234 k_231 k_232 k_233 (show _ ∧ _ ∧ _ = some 2 from by decide +kernel) (x_recv hC hw h_r rfl) rfl d_S_blot_12) (fun rv M2 H locs hq hw => ?_) (fun _ _ _ _ _ h _ _ => h.elim)
  obtain ⟨rfl, hM⟩ := hq
  subst M2
  refine W.eq (g2 := F0 m 15 ls [.int (f (i * 4 + 2)), .int (f (i * 4 + 1)), .int (nI 0), .int (nI j), .ref r]) rfl ?_
  refine lv_bipush (v := nI 100) hx hb d_S_blot_15 (by decide) ?_
  refine x_callG hC (c_S_put l G M (Array.size H) r pa j (nI n) num (nI 0) (f (i * 4 + 1)) (f (i * 4 + 2)) (nI 100) f (by omega) h_r h_p) k_415 k_8 ⟨Nat.le_of_ble_eq_true rfl, Nat.le_of_ble_eq_true rfl⟩ ⟨Nat.le_of_ble_eq_true rfl, Nat.le_of_ble_eq_true rfl⟩ hw hl.1 (Nat.le_of_ble_eq_true rfl) d_S_blot_17 (x_ivV hC k_415 k_412 k_414 kp_7 (show _ ∧ _ ∧ _ = some 5 from by decide +kernel) (x_recv hC hw h_r rfl) rfl d_S_blot_17) (fun rv M3 H locs hq hw => ?_) (fun _ _ _ _ _ h _ _ => h.elim)
  obtain ⟨rfl, h_r, h_p, fr⟩ := hq
  refine W.eq (g2 := F0 m 20 ls []) rfl ?_
  exact x_vret hC hr hw (⟨rfl, h_r, h_p, fr⟩) (Nat.le_of_ble_eq_true rfl) (Nat.le_of_ble_eq_true rfl) d_S_blot_20

theorem x_upto {f g : Nat → Int32} {i : Nat} {y : Int32} (h : ∀ j, j < i → g j = f j) (hy : y = f i) : ∀ j, j < i + 1 → va_up g i y j = f j := by
  intro j hj
  by_cases hz : j = i
  · subst hz
    rw [va_up_self, hy]
  · rw [va_up_ne _ _ hz]
    exact h j (by omega)
set_option maxHeartbeats 400000 in
set_option maxRecDepth 100000 in
/-- SignRow.readInto -/
theorem c_S_readInto (l : Launch) (G : xT) (M : xMem) (sz : Nat) (r pa q v n : Nat) (num k0 : Int32) (f g0 : Nat → Int32) (hn : n ≤ 40) (hne : pa ≠ v) (h_r : M r = some (.inr (1, [.int num, .ref pa, .int (nI n)]))) (h_p : M pa = some (.inl (G.2.1 0, 160, .inl f))) (h_q : M q = some (.inr (2, [.ref v, .int k0]))) (h_v : M v = some (.inl (G.2.1 0, 60, .inl g0))) : xMet l G y_S_readInto (Cond.code y_S_readInto b_S_readInto 3 none :: x_tbl) { frames := 1, cells := 0, slots := 0, locals := 22 } [.ref r, .ref q] M sz (fun u M' => u = none ∧ (∃ g, (∀ j, j < n → g j = f (j * 4 + 0)) ∧ M' q = some (.inr (2, [.ref v, .int (nI n)])) ∧ M' v = some (.inl (G.2.1 0, 60, .inl g))) ∧ xfr M M' [q, v]) (fun _ _ => False) := by
  refine xMet.of (by decide) (Nat.le_of_ble_eq_true rfl) ?_
  intro p e s m below meth c ls hC hr hnm hno hsz hw hl
  obtain ⟨hx, hb, hown, hts, hK, hml, hlk, hz⟩ := id hC
  have hl : lv_has ls 3 [(0, .ref r), (1, .ref q)] := hl
  have hF : xfr M M [q, v] := xfr.rf
  refine lv_aload_n hx hb d_S_readInto_0 rfl (lv_at hl 1 rfl) ?_
  refine lv_iconst (v := nI 0) hx hb d_S_readInto_1 (by decide) ?_
  refine x_put (ty := .int) hC hw h_q rfl 1 (by decide) (hts _ k_91) (u_same (hts _ k_89)) rfl (by decide +kernel) rfl rfl (Nat.le_of_ble_eq_true rfl) d_S_readInto_2 (fun M1 H locs em fr hw => ?_)
  have em : M1 q = some (.inr (2, [.ref v, .int (nI 0)])) := em
  have h_r := (fr _ (x_ne h_r h_q (by intro z; cases z))).trans h_r
  have h_p := (fr _ (x_ne h_p h_q (by intro z; cases z))).trans h_p
  have h_v := (fr _ (x_ne h_v h_q (by intro z; cases z))).trans h_v
  have h_q := em
  have hF := hF.put em fr (Or.inl (by simp))
  refine lv_iconst (v := nI 0) hx hb d_S_readInto_5 (by decide) ?_
  refine lv_istore_n (lv' := [(2, .int (nI 0)), (0, .ref r), (1, .ref q)]) hx hb d_S_readInto_6 rfl hl (by decide) rfl (fun ls hl => ?_)
  have HL7 : ∀ (z i : Nat) (g : Nat → Int32), i ≤ n → n + 1 ≤ i + z → (∀ j, j < i → g j = f (j * 4 + 0)) → ∀ (M1 : xMem) (H : Heap) (locs : List Loc) (ls : Array Slot), M1 r = some (.inr (1, [.int num, .ref pa, .int (nI n)])) → M1 pa = some (.inl (G.2.1 0, 160, .inl f)) → M1 q = some (.inr (2, [.ref v, .int (nI i)])) → M1 v = some (.inl (G.2.1 0, 60, .inl g)) → xfr M M1 [q, v] → xWd G (xA M sz) s.heap M1 H locs → lv_has ls 3 [(0, .ref r), (1, .ref q), (2, .int (nI i))] → W p l e { frames := 1, cells := 0, slots := 0, locals := 22 } s m ([.ref r, .ref q] : List Value).toArray below meth c H locs 0 0 (xMQ below G M sz (fun u M' => u = none ∧ (∃ g, (∀ j, j < n → g j = f (j * 4 + 0)) ∧ M' q = some (.inr (2, [.ref v, .int (nI n)])) ∧ M' v = some (.inl (G.2.1 0, 60, .inl g))) ∧ xfr M M' [q, v]) (fun _ _ => False) s 0 0) (F0 m 7 ls []) := by
    intro z
    induction z with
    | zero =>
      intro i g h1 h2
      omega
    | succ z ih =>
      intro i g hi hz hg M1 H locs ls h_r h_p h_q h_v hF hw hl
      refine lv_iload_n hx hb d_S_readInto_7 rfl (lv_at hl 2 rfl) ?_
      refine lv_aload_n hx hb d_S_readInto_8 rfl (lv_at hl 0 rfl) ?_
      refine x_get hC hw h_r rfl 2 (by decide) (hts _ k_86) (u_same (hts _ k_87)) rfl d_S_readInto_9 ?_
      refine lv_icmp_ge (tgt := 31) hx hb d_S_readInto_12 (by decide) (fun c_12 => ?_) (fun c_12 => ?_)
      · have c_12 := (nI_leI (by omega) (by omega)).mp c_12
        exact x_vret hC hr hw (⟨rfl, ⟨g, (fun j hj => hg j (by omega)), (by rw [show n = i by omega]; exact h_q), h_v⟩, hF⟩) (Nat.le_of_ble_eq_true rfl) (Nat.le_of_ble_eq_true rfl) d_S_readInto_31
      · have c_12 := Nat.not_le.mp ((not_congr (nI_leI (by omega) (by omega))).mp c_12)
        refine lv_aload_n hx hb d_S_readInto_15 rfl (lv_at hl 1 rfl) ?_
        refine lv_aload_n hx hb d_S_readInto_16 rfl (lv_at hl 0 rfl) ?_
        refine lv_iload_n hx hb d_S_readInto_17 rfl (lv_at hl 2 rfl) ?_
        refine lv_iconst (v := nI 0) hx hb d_S_readInto_18 (by decide) ?_
        refine x_callG hC (c_S_part l G M1 (Array.size H) r pa i 0 (nI n) num f (by omega) (by omega) h_r h_p) k_234 k_8 ⟨Nat.le_of_ble_eq_true rfl, Nat.le_of_ble_eq_true rfl⟩ ⟨Nat.le_of_ble_eq_true rfl, Nat.le_of_ble_eq_true rfl⟩ hw hl.1 (Nat.le_of_ble_eq_true rfl) d_S_readInto_19 (x_ivV hC k_234 k_231 k_232 k_233 (show _ ∧ _ ∧ _ = some 2 from by decide +kernel) (x_recv hC hw h_r rfl) rfl d_S_readInto_19) (fun rv M2 H locs hq hw => ?_) (fun _ _ _ _ _ h _ _ => h.elim)
        obtain ⟨rfl, hM⟩ := hq
        subst M2
        refine W.eq (g2 := F0 m 22 ls [.int (f (i * 4 + 0)), .ref q]) rfl ?_
        have ne_h_r_h_q : r ≠ q := x_ne h_r h_q (by intro z; cases z)
        have ne_h_r_h_v : r ≠ v := x_ne h_r h_v (by intro z; cases z)
        have ne_h_p_h_q : pa ≠ q := x_ne h_p h_q (by intro z; cases z)
        refine x_callG hC (c_C_add l G M1 (Array.size H) q v i g (f (i * 4 + 0)) (by omega) h_q h_v) k_238 k_7 ⟨Nat.le_of_ble_eq_true rfl, Nat.le_of_ble_eq_true rfl⟩ ⟨Nat.le_of_ble_eq_true rfl, Nat.le_of_ble_eq_true rfl⟩ hw hl.1 (Nat.le_of_ble_eq_true rfl) d_S_readInto_22 (x_ivV hC k_238 k_235 k_236 k_237 (show _ ∧ _ ∧ _ = some 1 from by decide +kernel) (x_recv hC hw h_q rfl) rfl d_S_readInto_22) (fun rv M3 H locs hq hw => ?_) (fun _ _ _ _ _ h _ _ => h.elim)
        obtain ⟨rfl, h_q, h_v, fr⟩ := hq
        have hF := hF.trans fr (by intro a ha; exact Or.inl ha)
        have h_r := fr.get h_r (by simp [ne_h_r_h_q, ne_h_r_h_v])
        have h_p := fr.get h_p (by simp [ne_h_p_h_q, hne])
        refine W.eq (g2 := F0 m 25 ls []) rfl ?_
        refine lv_iinc (v := nI (i + 1)) (lv' := [(2, .int (nI (i + 1))), (0, .ref r), (1, .ref q)]) hx hb d_S_readInto_25 hl (k := 2) rfl (by exact nI_1 _) (by decide) rfl (fun ls hl => ?_)
        refine lv_goto (tgt := 7) hx hb d_S_readInto_28 (by decide) ?_
        exact ih (i + 1) (va_up g i (f (i * 4 + 0))) (by omega) (by omega) (x_upto hg rfl) _ _ _ _ h_r h_p h_q h_v hF hw (lv_sub hl [1, 2, 0] rfl)
  exact HL7 (n + 1) (0) (g0) (by omega) (by omega) (fun j hj => absurd hj (Nat.not_lt_zero j)) _ _ _ _ h_r h_p h_q h_v hF hw (lv_sub hl [1, 2, 0] rfl)
