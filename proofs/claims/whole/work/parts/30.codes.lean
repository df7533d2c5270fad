set_option maxHeartbeats 400000 in
set_option maxRecDepth 100000 in
/-- Codes.add -/
theorem c_C_add (l : Launch) (G : xT) (M : xMem) (sz : Nat) (q v n : Nat) (f : Nat → Int32) (x : Int32) (hn : n < 60) (h_q : M q = some (.inr (2, [.ref v, .int (nI n)]))) (h_v : M v = some (.inl (G.2.1 0, 60, .inl f))) : xMet l G y_C_add (Cond.code y_C_add b_C_add 2 none :: x_tbl) { frames := 0, cells := 0, slots := 0, locals := 0 } [.ref q, .int x] M sz (fun r M' => r = none ∧ M' q = some (.inr (2, [.ref v, .int (nI (n + 1))])) ∧ M' v = some (.inl (G.2.1 0, 60, .inl (va_up f n x))) ∧ xfr M M' [q, v]) (fun _ _ => False) := by
  refine xMet.of (by decide) (Nat.le_of_ble_eq_true rfl) ?_
  intro p e s m below meth c ls hC hr hnm hno hsz hw hl
  obtain ⟨hx, hb, hown, hts, hK, hml, hlk, hz⟩ := id hC
  have hl : lv_has ls 2 [(0, .ref q), (1, .int x)] := hl
  have hF : xfr M M [q, v] := xfr.rf
  refine lv_aload_n hx hb d_C_add_0 rfl (lv_at hl 0 rfl) ?_
  refine x_get hC hw h_q rfl 1 (by decide) (hts _ k_88) (u_same (hts _ k_89)) rfl d_C_add_1 ?_
  refine lv_if_lt (tgt := 39) hx hb d_C_add_4 (by decide) (fun c_4 => ?_) (fun c_4 => ?_)
  · exact absurd c_4 (nI_pos (by omega))
  · refine lv_aload_n hx hb d_C_add_7 rfl (lv_at hl 0 rfl) ?_
    refine x_get hC hw h_q rfl 1 (by decide) (hts _ k_88) (u_same (hts _ k_89)) rfl d_C_add_8 ?_
    refine lv_aload_n hx hb d_C_add_11 rfl (lv_at hl 0 rfl) ?_
    refine x_get hC hw h_q rfl 0 (by decide) (hts _ k_85) (fun _ h9 => h9) rfl d_C_add_12 ?_
    refine x_alen (v := nI 60) hC hw h_v (t0 := 0) rfl rfl d_C_add_15 ?_
    refine lv_icmp_ge (tgt := 39) hx hb d_C_add_16 (by decide) (fun c_16 => ?_) (fun c_16 => ?_)
    · have c_16 := (nI_leI (by omega) (by omega)).mp c_16
      omega
    · have c_16 := Nat.not_le.mp ((not_congr (nI_leI (by omega) (by omega))).mp c_16)
      refine lv_aload_n hx hb d_C_add_19 rfl (lv_at hl 0 rfl) ?_
      refine x_get hC hw h_q rfl 0 (by decide) (hts _ k_85) (fun _ h9 => h9) rfl d_C_add_20 ?_
      refine lv_aload_n hx hb d_C_add_23 rfl (lv_at hl 0 rfl) ?_
      refine x_get hC hw h_q rfl 1 (by decide) (hts _ k_88) (u_same (hts _ k_89)) rfl d_C_add_24 ?_
      refine lv_iload_n hx hb d_C_add_27 rfl (lv_at hl 1 rfl) ?_
      refine x_iast (j := n) hC hw h_v rfl (rfl) (by omega) (by omega) d_C_add_28 (fun M1 H locs em fr hw => ?_)
      have h_q := (fr _ (x_ne h_q h_v (by intro z; cases z))).trans h_q
      have h_v := em
      have hF := hF.put em fr (Or.inl (by simp))
      refine lv_aload_n hx hb d_C_add_29 rfl (lv_at hl 0 rfl) ?_
      refine lv_dup hx hb d_C_add_30 rfl ?_
      refine x_get hC hw h_q rfl 1 (by decide) (hts _ k_88) (u_same (hts _ k_89)) rfl d_C_add_31 ?_
      refine lv_iconst (v := nI 1) hx hb d_C_add_34 (by decide) ?_
      refine lv_iadd hx hb d_C_add_35 ?_
      refine x_vi (y := nI (n + 1)) (nI_add _ _) ?_
      refine x_put (ty := .int) hC hw h_q rfl 1 (by decide) (hts _ k_88) (u_same (hts _ k_89)) rfl (by decide +kernel) rfl rfl (Nat.le_of_ble_eq_true rfl) d_C_add_36 (fun M2 H locs em fr hw => ?_)
      have em : M2 q = some (.inr (2, [.ref v, .int (nI (n + 1))])) := em
      have h_v := (fr _ (x_ne h_v h_q (by intro z; cases z))).trans h_v
      have h_q := em
      have hF := hF.put em fr (Or.inl (by simp))
      exact x_vret hC hr hw (⟨rfl, h_q, h_v, hF⟩) (Nat.le_of_ble_eq_true rfl) (Nat.le_of_ble_eq_true rfl) d_C_add_39

set_option maxHeartbeats 400000 in
set_option maxRecDepth 100000 in
/-- Codes.value, within -/
theorem c_C_value (l : Launch) (G : xT) (M : xMem) (sz : Nat) (q v n j : Nat) (f : Nat → Int32) (hn : n ≤ 60) (hj : j < n) (h_q : M q = some (.inr (2, [.ref v, .int (nI n)]))) (h_v : M v = some (.inl (G.2.1 0, 60, .inl f))) : xMet l G y_C_value (Cond.code y_C_value b_C_value 2 (Option.some Jvm.ClassFile.FieldType.int) :: x_tbl) { frames := 0, cells := 0, slots := 0, locals := 0 } [.ref q, .int (nI j)] M sz (fun r M' => r = some (.int (f j)) ∧ M' = M) (fun _ _ => False) := by
  refine xMet.of (by decide) (Nat.le_of_ble_eq_true rfl) ?_
  intro p e s m below meth c ls hC hr hnm hno hsz hw hl
  obtain ⟨hx, hb, hown, hts, hK, hml, hlk, hz⟩ := id hC
  have hl : lv_has ls 2 [(0, .ref q), (1, .int (nI j))] := hl
  refine lv_iload_n hx hb d_C_value_0 rfl (lv_at hl 1 rfl) ?_
  refine lv_if_lt (tgt := 30) hx hb d_C_value_1 (by decide) (fun c_1 => ?_) (fun c_1 => ?_)
  · exact absurd c_1 (nI_pos (by omega))
  · refine lv_iload_n hx hb d_C_value_4 rfl (lv_at hl 1 rfl) ?_
    refine lv_aload_n hx hb d_C_value_5 rfl (lv_at hl 0 rfl) ?_
    refine x_get hC hw h_q rfl 1 (by decide) (hts _ k_88) (u_same (hts _ k_89)) rfl d_C_value_6 ?_
    refine lv_icmp_ge (tgt := 30) hx hb d_C_value_9 (by decide) (fun c_9 => ?_) (fun c_9 => ?_)
    · have c_9 := (nI_leI (by omega) (by omega)).mp c_9
      omega
    · have c_9 := Nat.not_le.mp ((not_congr (nI_leI (by omega) (by omega))).mp c_9)
      refine lv_iload_n hx hb d_C_value_12 rfl (lv_at hl 1 rfl) ?_
      refine lv_aload_n hx hb d_C_value_13 rfl (lv_at hl 0 rfl) ?_
      refine x_get hC hw h_q rfl 0 (by decide) (hts _ k_85) (fun _ h9 => h9) rfl d_C_value_14 ?_
      refine x_alen (v := nI 60) hC hw h_v (t0 := 0) rfl rfl d_C_value_17 ?_
      refine lv_icmp_ge (tgt := 30) hx hb d_C_value_18 (by decide) (fun c_18 => ?_) (fun c_18 => ?_)
      · have c_18 := (nI_leI (by omega) (by omega)).mp c_18
        omega
      · have c_18 := Nat.not_le.mp ((not_congr (nI_leI (by omega) (by omega))).mp c_18)
        refine lv_aload_n hx hb d_C_value_21 rfl (lv_at hl 0 rfl) ?_
        refine x_get hC hw h_q rfl 0 (by decide) (hts _ k_85) (fun _ h9 => h9) rfl d_C_value_22 ?_
        refine lv_iload_n hx hb d_C_value_25 rfl (lv_at hl 1 rfl) ?_
        refine x_iald (j := j) hC hw h_v rfl (rfl) (by omega) (by omega) d_C_value_26 ?_
        refine lv_goto (tgt := 31) hx hb d_C_value_27 (by decide) ?_
        exact x_iret hC hr hw (⟨rfl, rfl⟩) (Nat.le_of_ble_eq_true rfl) (Nat.le_of_ble_eq_true rfl) d_C_value_31

set_option maxHeartbeats 400000 in
set_option maxRecDepth 100000 in
/-- Codes.put -/
theorem c_C_put (l : Launch) (G : xT) (M : xMem) (sz : Nat) (q v j : Nat) (n x : Int32) (f : Nat → Int32) (hj : j < 60) (h_q : M q = some (.inr (2, [.ref v, .int n]))) (h_v : M v = some (.inl (G.2.1 0, 60, .inl f))) : xMet l G y_C_put (Cond.code y_C_put b_C_put 3 none :: x_tbl) { frames := 0, cells := 0, slots := 0, locals := 0 } [.ref q, .int (nI j), .int x] M sz (fun r M' => r = none ∧ M' q = some (.inr (2, [.ref v, .int n])) ∧ M' v = some (.inl (G.2.1 0, 60, .inl (va_up f j x))) ∧ xfr M M' [q, v]) (fun _ _ => False) := by
  refine xMet.of (by decide) (Nat.le_of_ble_eq_true rfl) ?_
  intro p e s m below meth c ls hC hr hnm hno hsz hw hl
  obtain ⟨hx, hb, hown, hts, hK, hml, hlk, hz⟩ := id hC
  have hl : lv_has ls 3 [(0, .ref q), (1, .int (nI j)), (2, .int x)] := hl
  have hF : xfr M M [q, v] := xfr.rf
  refine lv_iload_n hx hb d_C_put_0 rfl (lv_at hl 1 rfl) ?_
  refine lv_if_lt (tgt := 20) hx hb d_C_put_1 (by decide) (fun c_1 => ?_) (fun c_1 => ?_)
  · exact absurd c_1 (nI_pos (by omega))
  · refine lv_iload_n hx hb d_C_put_4 rfl (lv_at hl 1 rfl) ?_
    refine lv_aload_n hx hb d_C_put_5 rfl (lv_at hl 0 rfl) ?_
    refine x_get hC hw h_q rfl 0 (by decide) (hts _ k_85) (fun _ h9 => h9) rfl d_C_put_6 ?_
    refine x_alen (v := nI 60) hC hw h_v (t0 := 0) rfl rfl d_C_put_9 ?_
    refine lv_icmp_ge (tgt := 20) hx hb d_C_put_10 (by decide) (fun c_10 => ?_) (fun c_10 => ?_)
    · have c_10 := (nI_leI (by omega) (by omega)).mp c_10
      omega
    · have c_10 := Nat.not_le.mp ((not_congr (nI_leI (by omega) (by omega))).mp c_10)
      refine lv_aload_n hx hb d_C_put_13 rfl (lv_at hl 0 rfl) ?_
      refine x_get hC hw h_q rfl 0 (by decide) (hts _ k_85) (fun _ h9 => h9) rfl d_C_put_14 ?_
      refine lv_iload_n hx hb d_C_put_17 rfl (lv_at hl 1 rfl) ?_
      refine lv_iload_n hx hb d_C_put_18 rfl (lv_at hl 2 rfl) ?_
      refine x_iast (j := j) hC hw h_v rfl (rfl) (by omega) (by omega) d_C_put_19 (fun M1 H locs em fr hw => ?_)
      have h_q := (fr _ (x_ne h_q h_v (by intro z; cases z))).trans h_q
      have h_v := em
      have hF := hF.put em fr (Or.inl (by simp))
      exact x_vret hC hr hw (⟨rfl, h_q, h_v, hF⟩) (Nat.le_of_ble_eq_true rfl) (Nat.le_of_ble_eq_true rfl) d_C_put_20

set_option maxHeartbeats 400000 in
set_option maxRecDepth 100000 in
/-- C_keep -/
theorem c_C_keep (l : Launch) (G : xT) (M : xMem) (sz : Nat) (q v n i j : Nat) (f : Nat → Int32) (hn : n ≤ 60) (hi : i < n) (hj : j ≤ i) (h_q : M q = some (.inr (2, [.ref v, .int (nI n)]))) (h_v : M v = some (.inl (G.2.1 0, 60, .inl f))) : xMet l G y_C_keep (Cond.code y_C_keep b_C_keep 3 none :: x_tbl) { frames := 1, cells := 0, slots := 0, locals := 22 } [.ref q, .int (nI i), .int (nI j)] M sz (fun r M' => r = none ∧ M' q = some (.inr (2, [.ref v, .int (nI n)])) ∧ M' v = some (.inl (G.2.1 0, 60, .inl (va_up f j (f i)))) ∧ xfr M M' [q, v]) (fun _ _ => False) := by
  refine xMet.of (by decide) (Nat.le_of_ble_eq_true rfl) ?_
  intro p e s m below meth c ls hC hr hnm hno hsz hw hl
  obtain ⟨hx, hb, hown, hts, hK, hml, hlk, hz⟩ := id hC
  have hl : lv_has ls 3 [(0, .ref q), (1, .int (nI i)), (2, .int (nI j))] := hl
  refine lv_aload_n hx hb d_C_keep_0 rfl (lv_at hl 0 rfl) ?_
  refine lv_iload_n hx hb d_C_keep_1 rfl (lv_at hl 2 rfl) ?_
  refine lv_aload_n hx hb d_C_keep_2 rfl (lv_at hl 0 rfl) ?_
  refine lv_iload_n hx hb d_C_keep_3 rfl (lv_at hl 1 rfl) ?_
  refine x_callG hC (c_C_value l G M (Array.size s.heap) q v n i f hn hi h_q h_v) k_251 k_7 ⟨Nat.le_of_ble_eq_true rfl, Nat.le_of_ble_eq_true rfl⟩ ⟨Nat.le_of_ble_eq_true rfl, Nat.le_of_ble_eq_true rfl⟩ hw hl.1 (Nat.le_of_ble_eq_true rfl) d_C_keep_4 (x_ivV hC k_251 k_628 k_249 k_250 (show _ ∧ _ ∧ _ = some 1 from by decide +kernel) (x_recv hC hw h_q rfl) rfl d_C_keep_4) (fun rv M1 H locs hq hw => ?_) (fun _ _ _ _ _ h _ _ => h.elim)
  obtain ⟨rfl, hM⟩ := hq
  subst M1
  refine W.eq (g2 := F0 m 7 ls [.int (f i), .int (nI j), .ref q]) rfl ?_
  refine x_callG hC (c_C_put l G M (Array.size H) q v j (nI n) (f i) f (by omega) h_q h_v) k_632 k_7 ⟨Nat.le_of_ble_eq_true rfl, Nat.le_of_ble_eq_true rfl⟩ ⟨Nat.le_of_ble_eq_true rfl, Nat.le_of_ble_eq_true rfl⟩ hw hl.1 (Nat.le_of_ble_eq_true rfl) d_C_keep_7 (x_ivV hC k_632 k_629 k_631 kp_17 (show _ ∧ _ ∧ _ = some 2 from by decide +kernel) (x_recv hC hw h_q rfl) rfl d_C_keep_7) (fun rv M2 H locs hq hw => ?_) (fun _ _ _ _ _ h _ _ => h.elim)
  obtain ⟨rfl, h_q, h_v, fr⟩ := hq
  refine W.eq (g2 := F0 m 10 ls []) rfl ?_
  exact x_vret hC hr hw (⟨rfl, h_q, h_v, fr⟩) (Nat.le_of_ble_eq_true rfl) (Nat.le_of_ble_eq_true rfl) d_C_keep_10

set_option maxHeartbeats 400000 in
set_option maxRecDepth 100000 in
/-- C_blot -/
theorem c_C_blot (l : Launch) (G : xT) (M : xMem) (sz : Nat) (q v n i j : Nat) (f : Nat → Int32) (hn : n ≤ 60) (hi : i < n) (hj : j ≤ i) (h_q : M q = some (.inr (2, [.ref v, .int (nI n)]))) (h_v : M v = some (.inl (G.2.1 0, 60, .inl f))) : xMet l G y_C_blot (Cond.code y_C_blot b_C_blot 3 none :: x_tbl) { frames := 1, cells := 0, slots := 0, locals := 22 } [.ref q, .int (nI i), .int (nI j)] M sz (fun r M' => r = none ∧ M' q = some (.inr (2, [.ref v, .int (nI n)])) ∧ M' v = some (.inl (G.2.1 0, 60, .inl (va_up f j (nI 42)))) ∧ xfr M M' [q, v]) (fun _ _ => False) := by
  refine xMet.of (by decide) (Nat.le_of_ble_eq_true rfl) ?_
  intro p e s m below meth c ls hC hr hnm hno hsz hw hl
  obtain ⟨hx, hb, hown, hts, hK, hml, hlk, hz⟩ := id hC
  have hl : lv_has ls 3 [(0, .ref q), (1, .int (nI i)), (2, .int (nI j))] := hl
  refine lv_aload_n hx hb d_C_blot_0 rfl (lv_at hl 0 rfl) ?_
  refine lv_iload_n hx hb d_C_blot_1 rfl (lv_at hl 2 rfl) ?_
  refine lv_bipush (v := nI 42) hx hb d_C_blot_2 (by decide) ?_
  refine x_callG hC (c_C_put l G M (Array.size s.heap) q v j (nI n) (nI 42) f (by omega) h_q h_v) k_632 k_7 ⟨Nat.le_of_ble_eq_true rfl, Nat.le_of_ble_eq_true rfl⟩ ⟨Nat.le_of_ble_eq_true rfl, Nat.le_of_ble_eq_true rfl⟩ hw hl.1 (Nat.le_of_ble_eq_true rfl) d_C_blot_4 (x_ivV hC k_632 k_629 k_631 kp_17 (show _ ∧ _ ∧ _ = some 2 from by decide +kernel) (x_recv hC hw h_q rfl) rfl d_C_blot_4) (fun rv M1 H locs hq hw => ?_) (fun _ _ _ _ _ h _ _ => h.elim)
  obtain ⟨rfl, h_q, h_v, fr⟩ := hq
  refine W.eq (g2 := F0 m 7 ls []) rfl ?_
  exact x_vret hC hr hw (⟨rfl, h_q, h_v, fr⟩) (Nat.le_of_ble_eq_true rfl) (Nat.le_of_ble_eq_true rfl) d_C_blot_7
