set_option maxHeartbeats 400000 in
set_option maxRecDepth 100000 in
/-- Row.<init> -/
theorem c_O_init (l : Launch) (G : xT) (M : xMem) (sz : Nat) (a : Nat) : xMet l G y_O_init (Cond.code y_O_init b_O_init 1 none :: x_tbl) { frames := 1, cells := 0, slots := 0, locals := 12 } [.ref a] M sz (fun u M' => u = none ∧ M' = M) (fun _ _ => False) := by
  refine xMet.of (by decide) (Nat.le_of_ble_eq_true rfl) ?_
  intro p e s m below meth c ls hC hr hnm hno hsz hw hl
  obtain ⟨hx, hb, hown, hts, hK, hml, hlk, hz⟩ := id hC
  have hl : lv_has ls 1 [(0, .ref a)] := hl
  have hin : meth.name = "<init>" := hnm
  refine lv_aload_n hx hb d_O_init_0 rfl (lv_at hl 0 rfl) ?_
  refine x_objInit hC k_84 hl.1 (Nat.le_of_ble_eq_true rfl) (Nat.le_of_ble_eq_true rfl) d_O_init_1 ?_
  exact x_vret hC hr hw (⟨rfl, rfl⟩) (Nat.le_of_ble_eq_true rfl) (Nat.le_of_ble_eq_true rfl) d_O_init_4

set_option maxHeartbeats 400000 in
set_option maxRecDepth 100000 in
/-- S_init -/
theorem c_S_init (l : Launch) (G : xT) (M : xMem) (sz : Nat) (r : Nat) (num : Int32) (h_r : M r = some (.inr (1, [.int (nI 0), .null, .int (nI 0)]))) : xMet l G y_S_init (Cond.code y_S_init b_S_init 2 none :: x_tbl) { frames := 2, cells := 1, slots := 160, locals := 32 } [.ref r, .int num] M sz (fun u M' => u = none ∧ ∃ pa, M pa = none ∧ M' r = some (.inr (1, [.int num, .ref pa, .int (nI 0)])) ∧ M' pa = some (.inl (G.2.1 0, 160, .inl (fun _ => nI 0))) ∧ xfr M M' [r]) (fun _ _ => False) := by
  refine xMet.of (by decide) (Nat.le_of_ble_eq_true rfl) ?_
  intro p e s m below meth c ls hC hr hnm hno hsz hw hl
  obtain ⟨hx, hb, hown, hts, hK, hml, hlk, hz⟩ := id hC
  have hl : lv_has ls 2 [(0, .ref r), (1, .int num)] := hl
  have hin : meth.name = "<init>" := hnm
  have hF : xfr M M [r] := xfr.rf
  refine lv_aload_n hx hb d_S_init_0 rfl (lv_at hl 0 rfl) ?_
  refine x_callG hC (c_O_init l G M (Array.size s.heap) r) k_83 k_6 ⟨Nat.le_of_ble_eq_true rfl, Nat.le_of_ble_eq_true rfl⟩ ⟨Nat.le_of_ble_eq_true rfl, Nat.le_of_ble_eq_true rfl⟩ hw hl.1 (Nat.le_of_ble_eq_true rfl) d_S_init_1 (x_ivN hC k_83 k_106 k_82 rfl (show _ ∧ _ ∧ _ = some 0 from by decide +kernel) rfl d_S_init_1) (fun rv M1 H locs hq hw => ?_) (fun _ _ _ _ _ h _ _ => h.elim)
  obtain ⟨rfl, hM⟩ := hq
  subst M1
  refine W.eq (g2 := F0 m 4 ls []) rfl ?_
  refine lv_aload_n hx hb d_S_init_4 rfl (lv_at hl 0 rfl) ?_
  refine lv_sipush (v := nI 160) hx hb d_S_init_5 (by decide) ?_
  refine x_newa (atype := .int) (a0 := (160, .inl (fun _ => nI 0))) (N' := 160) hC hw (hts _ k_75) rfl 0 rfl (fun _ z => by cases z) (fun _ => rfl) (by decide +kernel) (by decide +kernel) (by decide +kernel) (Nat.le_of_ble_eq_true rfl) (Nat.le_of_ble_eq_true rfl) d_S_init_8 (fun q2 M3 H hn em fr hw => ?_)
  have ne_h_r_q2 : r ≠ q2 := x_neN h_r hn
  have h_r := (fr _ ne_h_r_q2).trans h_r
  have h_q2 := em
  have hn_q2 := hF.none hn
  have hF := hF.put em fr (Or.inr hn)
  refine x_putF (ty := .array .int) hC hw h_r rfl 1 (by decide) (hts _ k_109) (fun _ h9 => h9) rfl hin rfl (by decide +kernel) rfl rfl (Nat.le_of_ble_eq_true rfl) d_S_init_10 (fun M4 H locs em fr hw => ?_)
  have em : M4 r = some (.inr (1, [.int (nI 0), .ref q2, .int (nI 0)])) := em
  have h_q2 := (fr _ (Ne.symm ne_h_r_q2)).trans h_q2
  have h_r := em
  have hF := hF.put em fr (Or.inl (by simp))
  refine lv_aload_n hx hb d_S_init_13 rfl (lv_at hl 0 rfl) ?_
  refine lv_iload_n hx hb d_S_init_14 rfl (lv_at hl 1 rfl) ?_
  refine x_putF (ty := .int) hC hw h_r rfl 0 (by decide) (hts _ k_107) (fun _ h9 => h9) rfl hin rfl (by decide +kernel) rfl rfl (Nat.le_of_ble_eq_true rfl) d_S_init_15 (fun M5 H locs em fr hw => ?_)
  have em : M5 r = some (.inr (1, [.int num, .ref q2, .int (nI 0)])) := em
  have h_q2 := (fr _ (Ne.symm ne_h_r_q2)).trans h_q2
  have h_r := em
  have hF := hF.put em fr (Or.inl (by simp))
  exact x_vret hC hr hw (⟨rfl, _, hn_q2, h_r, h_q2, hF⟩) (Nat.le_of_ble_eq_true rfl) (Nat.le_of_ble_eq_true rfl) d_S_init_18

set_option maxHeartbeats 400000 in
set_option maxRecDepth 100000 in
/-- C_init -/
theorem c_C_init (l : Launch) (G : xT) (M : xMem) (sz : Nat) (r : Nat)  (h_r : M r = some (.inr (2, [.null, .int (nI 0)]))) : xMet l G y_C_init (Cond.code y_C_init b_C_init 1 none :: x_tbl) { frames := 2, cells := 1, slots := 60, locals := 32 } [.ref r] M sz (fun u M' => u = none ∧ ∃ pa, M pa = none ∧ M' r = some (.inr (2, [.ref pa, .int (nI 0)])) ∧ M' pa = some (.inl (G.2.1 0, 60, .inl (fun _ => nI 0))) ∧ xfr M M' [r]) (fun _ _ => False) := by
  refine xMet.of (by decide) (Nat.le_of_ble_eq_true rfl) ?_
  intro p e s m below meth c ls hC hr hnm hno hsz hw hl
  obtain ⟨hx, hb, hown, hts, hK, hml, hlk, hz⟩ := id hC
  have hl : lv_has ls 1 [(0, .ref r)] := hl
  have hin : meth.name = "<init>" := hnm
  have hF : xfr M M [r] := xfr.rf
  refine lv_aload_n hx hb d_C_init_0 rfl (lv_at hl 0 rfl) ?_
  refine x_callG hC (c_O_init l G M (Array.size s.heap) r) k_83 k_6 ⟨Nat.le_of_ble_eq_true rfl, Nat.le_of_ble_eq_true rfl⟩ ⟨Nat.le_of_ble_eq_true rfl, Nat.le_of_ble_eq_true rfl⟩ hw hl.1 (Nat.le_of_ble_eq_true rfl) d_C_init_1 (x_ivN hC k_83 k_81 k_82 rfl (show _ ∧ _ ∧ _ = some 0 from by decide +kernel) rfl d_C_init_1) (fun rv M1 H locs hq hw => ?_) (fun _ _ _ _ _ h _ _ => h.elim)
  obtain ⟨rfl, hM⟩ := hq
  subst M1
  refine W.eq (g2 := F0 m 4 ls []) rfl ?_
  refine lv_aload_n hx hb d_C_init_4 rfl (lv_at hl 0 rfl) ?_
  refine lv_bipush (v := nI 60) hx hb d_C_init_5 (by decide) ?_
  refine x_newa (atype := .int) (a0 := (60, .inl (fun _ => nI 0))) (N' := 60) hC hw (hts _ k_75) rfl 0 rfl (fun _ z => by cases z) (fun _ => rfl) (by decide +kernel) (by decide +kernel) (by decide +kernel) (Nat.le_of_ble_eq_true rfl) (Nat.le_of_ble_eq_true rfl) d_C_init_7 (fun q2 M3 H hn em fr hw => ?_)
  have ne_h_r_q2 : r ≠ q2 := x_neN h_r hn
  have h_r := (fr _ ne_h_r_q2).trans h_r
  have h_q2 := em
  have hn_q2 := hF.none hn
  have hF := hF.put em fr (Or.inr hn)
  refine x_putF (ty := .array .int) hC hw h_r rfl 0 (by decide) (hts _ k_85) (fun _ h9 => h9) rfl hin rfl (by decide +kernel) rfl rfl (Nat.le_of_ble_eq_true rfl) d_C_init_9 (fun M4 H locs em fr hw => ?_)
  have em : M4 r = some (.inr (2, [.ref q2, .int (nI 0)])) := em
  have h_q2 := (fr _ (Ne.symm ne_h_r_q2)).trans h_q2
  have h_r := em
  have hF := hF.put em fr (Or.inl (by simp))
  exact x_vret hC hr hw (⟨rfl, _, hn_q2, h_r, h_q2, hF⟩) (Nat.le_of_ble_eq_true rfl) (Nat.le_of_ble_eq_true rfl) d_C_init_12

set_option maxHeartbeats 400000 in
set_option maxRecDepth 100000 in
/-- D_init -/
theorem c_D_init (l : Launch) (G : xT) (M : xMem) (sz : Nat) (r : Nat)  (h_r : M r = some (.inr (3, [.int (nI 0), .null]))) : xMet l G y_D_init (Cond.code y_D_init b_D_init 1 none :: x_tbl) { frames := 1, cells := 1, slots := 8, locals := 12 } [.ref r] M sz (fun u M' => u = none ∧ ∃ pa, M pa = none ∧ M' r = some (.inr (3, [.int (nI 0), .ref pa])) ∧ M' pa = some (.inl (G.2.1 0, 8, .inl (fun _ => nI 0))) ∧ xfr M M' [r]) (fun _ _ => False) := by
  refine xMet.of (by decide) (Nat.le_of_ble_eq_true rfl) ?_
  intro p e s m below meth c ls hC hr hnm hno hsz hw hl
  obtain ⟨hx, hb, hown, hts, hK, hml, hlk, hz⟩ := id hC
  have hl : lv_has ls 1 [(0, .ref r)] := hl
  have hin : meth.name = "<init>" := hnm
  have hF : xfr M M [r] := xfr.rf
  refine lv_aload_n hx hb d_D_init_0 rfl (lv_at hl 0 rfl) ?_
  refine x_objInit hC k_480 hl.1 (Nat.le_of_ble_eq_true rfl) (Nat.le_of_ble_eq_true rfl) d_D_init_1 ?_
  refine lv_aload_n hx hb d_D_init_4 rfl (lv_at hl 0 rfl) ?_
  refine lv_bipush (v := nI 8) hx hb d_D_init_5 (by decide) ?_
  refine x_newa (atype := .int) (a0 := (8, .inl (fun _ => nI 0))) (N' := 8) hC hw (hts _ k_75) rfl 0 rfl (fun _ z => by cases z) (fun _ => rfl) (by decide +kernel) (by decide +kernel) (by decide +kernel) (Nat.le_of_ble_eq_true rfl) (Nat.le_of_ble_eq_true rfl) d_D_init_7 (fun q1 M2 H hn em fr hw => ?_)
  have ne_h_r_q1 : r ≠ q1 := x_neN h_r hn
  have h_r := (fr _ ne_h_r_q1).trans h_r
  have h_q1 := em
  have hn_q1 := hF.none hn
  have hF := hF.put em fr (Or.inr hn)
  refine x_putF (ty := .array .int) hC hw h_r rfl 1 (by decide) (hts _ k_483) (fun _ h9 => h9) rfl hin rfl (by decide +kernel) rfl rfl (Nat.le_of_ble_eq_true rfl) d_D_init_9 (fun M3 H locs em fr hw => ?_)
  have em : M3 r = some (.inr (3, [.int (nI 0), .ref q1])) := em
  have h_q1 := (fr _ (Ne.symm ne_h_r_q1)).trans h_q1
  have h_r := em
  have hF := hF.put em fr (Or.inl (by simp))
  exact x_vret hC hr hw (⟨rfl, _, hn_q1, h_r, h_q1, hF⟩) (Nat.le_of_ble_eq_true rfl) (Nat.le_of_ble_eq_true rfl) d_D_init_12

set_option maxHeartbeats 400000 in
set_option maxRecDepth 100000 in
/-- F_init -/
theorem c_F_init (l : Launch) (G : xT) (M : xMem) (sz : Nat) (r : Nat)  (h_r : M r = some (.inr (7, [.int (nI 0), .null]))) : xMet l G y_F_init (Cond.code y_F_init b_F_init 1 none :: x_tbl) { frames := 1, cells := 1, slots := 500, locals := 12 } [.ref r] M sz (fun u M' => u = none ∧ ∃ pa, M pa = none ∧ M' r = some (.inr (7, [.int (nI 0), .ref pa])) ∧ M' pa = some (.inl (G.2.1 0, 500, .inl (fun _ => nI 0))) ∧ xfr M M' [r]) (fun _ _ => False) := by
  refine xMet.of (by decide) (Nat.le_of_ble_eq_true rfl) ?_
  intro p e s m below meth c ls hC hr hnm hno hsz hw hl
  obtain ⟨hx, hb, hown, hts, hK, hml, hlk, hz⟩ := id hC
  have hl : lv_has ls 1 [(0, .ref r)] := hl
  have hin : meth.name = "<init>" := hnm
  have hF : xfr M M [r] := xfr.rf
  refine lv_aload_n hx hb d_F_init_0 rfl (lv_at hl 0 rfl) ?_
  refine x_objInit hC k_66 hl.1 (Nat.le_of_ble_eq_true rfl) (Nat.le_of_ble_eq_true rfl) d_F_init_1 ?_
  refine lv_aload_n hx hb d_F_init_4 rfl (lv_at hl 0 rfl) ?_
  refine lv_sipush (v := nI 500) hx hb d_F_init_5 (by decide) ?_
  refine x_newa (atype := .int) (a0 := (500, .inl (fun _ => nI 0))) (N' := 500) hC hw (hts _ k_75) rfl 0 rfl (fun _ z => by cases z) (fun _ => rfl) (by decide +kernel) (by decide +kernel) (by decide +kernel) (Nat.le_of_ble_eq_true rfl) (Nat.le_of_ble_eq_true rfl) d_F_init_8 (fun q1 M2 H hn em fr hw => ?_)
  have ne_h_r_q1 : r ≠ q1 := x_neN h_r hn
  have h_r := (fr _ ne_h_r_q1).trans h_r
  have h_q1 := em
  have hn_q1 := hF.none hn
  have hF := hF.put em fr (Or.inr hn)
  refine x_putF (ty := .array .int) hC hw h_r rfl 1 (by decide) (hts _ k_69) (fun _ h9 => h9) rfl hin rfl (by decide +kernel) rfl rfl (Nat.le_of_ble_eq_true rfl) d_F_init_10 (fun M3 H locs em fr hw => ?_)
  have em : M3 r = some (.inr (7, [.int (nI 0), .ref q1])) := em
  have h_q1 := (fr _ (Ne.symm ne_h_r_q1)).trans h_q1
  have h_r := em
  have hF := hF.put em fr (Or.inl (by simp))
  exact x_vret hC hr hw (⟨rfl, _, hn_q1, h_r, h_q1, hF⟩) (Nat.le_of_ble_eq_true rfl) (Nat.le_of_ble_eq_true rfl) d_F_init_13

set_option maxHeartbeats 400000 in
set_option maxRecDepth 100000 in
/-- T_init -/
theorem c_T_init (l : Launch) (G : xT) (M : xMem) (sz : Nat) (r : Nat) (en : Int32) (h_r : M r = some (.inr (6, [.int (nI 0), .int (nI 0), .null]))) : xMet l G y_T_init (Cond.code y_T_init b_T_init 2 none :: x_tbl) { frames := 1, cells := 1, slots := 60, locals := 12 } [.ref r, .int en] M sz (fun u M' => u = none ∧ ∃ pa, M pa = none ∧ M' r = some (.inr (6, [.int en, .int (nI 0), .ref pa])) ∧ M' pa = some (.inl (G.2.1 1, 60, .inl (fun _ => nI 0))) ∧ xfr M M' [r]) (fun _ _ => False) := by
  refine xMet.of (by decide) (Nat.le_of_ble_eq_true rfl) ?_
  intro p e s m below meth c ls hC hr hnm hno hsz hw hl
  obtain ⟨hx, hb, hown, hts, hK, hml, hlk, hz⟩ := id hC
  have hl : lv_has ls 2 [(0, .ref r), (1, .int en)] := hl
  have hin : meth.name = "<init>" := hnm
  have hF : xfr M M [r] := xfr.rf
  refine lv_aload_n hx hb d_T_init_0 rfl (lv_at hl 0 rfl) ?_
  refine x_objInit hC k_546 hl.1 (Nat.le_of_ble_eq_true rfl) (Nat.le_of_ble_eq_true rfl) d_T_init_1 ?_
  refine lv_aload_n hx hb d_T_init_4 rfl (lv_at hl 0 rfl) ?_
  refine lv_bipush (v := nI 60) hx hb d_T_init_5 (by decide) ?_
  refine x_newa (atype := .byte) (a0 := (60, .inl (fun _ => nI 0))) (N' := 60) hC hw (hts _ k_366) rfl 1 rfl (fun _ z => by cases z) (fun _ => rfl) (by decide +kernel) (by decide +kernel) (by decide +kernel) (Nat.le_of_ble_eq_true rfl) (Nat.le_of_ble_eq_true rfl) d_T_init_7 (fun q1 M2 H hn em fr hw => ?_)
  have ne_h_r_q1 : r ≠ q1 := x_neN h_r hn
  have h_r := (fr _ ne_h_r_q1).trans h_r
  have h_q1 := em
  have hn_q1 := hF.none hn
  have hF := hF.put em fr (Or.inr hn)
  refine x_putF (ty := .array .byte) hC hw h_r rfl 2 (by decide) (hts _ k_551) (fun _ h9 => h9) rfl hin rfl (by decide +kernel) rfl rfl (Nat.le_of_ble_eq_true rfl) d_T_init_9 (fun M3 H locs em fr hw => ?_)
  have em : M3 r = some (.inr (6, [.int (nI 0), .int (nI 0), .ref q1])) := em
  have h_q1 := (fr _ (Ne.symm ne_h_r_q1)).trans h_q1
  have h_r := em
  have hF := hF.put em fr (Or.inl (by simp))
  refine lv_aload_n hx hb d_T_init_12 rfl (lv_at hl 0 rfl) ?_
  refine lv_iload_n hx hb d_T_init_13 rfl (lv_at hl 1 rfl) ?_
  refine x_putF (ty := .int) hC hw h_r rfl 0 (by decide) (hts _ k_547) (fun _ h9 => h9) rfl hin rfl (by decide +kernel) rfl rfl (Nat.le_of_ble_eq_true rfl) d_T_init_14 (fun M4 H locs em fr hw => ?_)
  have em : M4 r = some (.inr (6, [.int en, .int (nI 0), .ref q1])) := em
  have h_q1 := (fr _ (Ne.symm ne_h_r_q1)).trans h_q1
  have h_r := em
  have hF := hF.put em fr (Or.inl (by simp))
  exact x_vret hC hr hw (⟨rfl, _, hn_q1, h_r, h_q1, hF⟩) (Nat.le_of_ble_eq_true rfl) (Nat.le_of_ble_eq_true rfl) d_T_init_17

set_option maxHeartbeats 400000 in
set_option maxRecDepth 100000 in
/-- A_init -/
theorem c_A_init (l : Launch) (G : xT) (M : xMem) (sz : Nat) (r : Nat) (pg x y wd hg : Int32) (h_r : M r = some (.inr (4, [.int (nI 0), .int (nI 0), .int (nI 0), .int (nI 0), .int (nI 0)]))) : xMet l G y_A_init (Cond.code y_A_init b_A_init 6 none :: x_tbl) { frames := 1, cells := 0, slots := 0, locals := 12 } [.ref r, .int pg, .int x, .int y, .int wd, .int hg] M sz (fun u M' => u = none ∧ M' r = some (.inr (4, [.int pg, .int x, .int y, .int wd, .int hg])) ∧ xfr M M' [r]) (fun _ _ => False) := by
  refine xMet.of (by decide) (Nat.le_of_ble_eq_true rfl) ?_
  intro p e s m below meth c ls hC hr hnm hno hsz hw hl
  obtain ⟨hx, hb, hown, hts, hK, hml, hlk, hz⟩ := id hC
  have hl : lv_has ls 6 [(0, .ref r), (1, .int pg), (2, .int x), (3, .int y), (4, .int wd), (5, .int hg)] := hl
  have hin : meth.name = "<init>" := hnm
  have hF : xfr M M [r] := xfr.rf
  refine lv_aload_n hx hb d_A_init_0 rfl (lv_at hl 0 rfl) ?_
  refine x_objInit hC k_518 hl.1 (Nat.le_of_ble_eq_true rfl) (Nat.le_of_ble_eq_true rfl) d_A_init_1 ?_
  refine lv_aload_n hx hb d_A_init_4 rfl (lv_at hl 0 rfl) ?_
  refine lv_iload_n hx hb d_A_init_5 rfl (lv_at hl 1 rfl) ?_
  refine x_putF (ty := .int) hC hw h_r rfl 0 (by decide) (hts _ k_519) (fun _ h9 => h9) rfl hin rfl (by decide +kernel) rfl rfl (Nat.le_of_ble_eq_true rfl) d_A_init_6 (fun M1 H locs em fr hw => ?_)
  have em : M1 r = some (.inr (4, [.int pg, .int (nI 0), .int (nI 0), .int (nI 0), .int (nI 0)])) := em
  have h_r := em
  have hF := hF.put em fr (Or.inl (by simp))
  refine lv_aload_n hx hb d_A_init_9 rfl (lv_at hl 0 rfl) ?_
  refine lv_iload_n hx hb d_A_init_10 rfl (lv_at hl 2 rfl) ?_
  refine x_putF (ty := .int) hC hw h_r rfl 1 (by decide) (hts _ k_521) (fun _ h9 => h9) rfl hin rfl (by decide +kernel) rfl rfl (Nat.le_of_ble_eq_true rfl) d_A_init_11 (fun M2 H locs em fr hw => ?_)
  have em : M2 r = some (.inr (4, [.int pg, .int x, .int (nI 0), .int (nI 0), .int (nI 0)])) := em
  have h_r := em
  have hF := hF.put em fr (Or.inl (by simp))
  refine lv_aload_n hx hb d_A_init_14 rfl (lv_at hl 0 rfl) ?_
  refine lv_iload_n hx hb d_A_init_15 rfl (lv_at hl 3 rfl) ?_
  refine x_putF (ty := .int) hC hw h_r rfl 2 (by decide) (hts _ k_522) (fun _ h9 => h9) rfl hin rfl (by decide +kernel) rfl rfl (Nat.le_of_ble_eq_true rfl) d_A_init_16 (fun M3 H locs em fr hw => ?_)
  have em : M3 r = some (.inr (4, [.int pg, .int x, .int y, .int (nI 0), .int (nI 0)])) := em
  have h_r := em
  have hF := hF.put em fr (Or.inl (by simp))
  refine lv_aload_n hx hb d_A_init_19 rfl (lv_at hl 0 rfl) ?_
  refine lv_iload hx hb d_A_init_20 (lv_at hl 4 rfl) ?_
  refine x_putF (ty := .int) hC hw h_r rfl 3 (by decide) (hts _ k_523) (fun _ h9 => h9) rfl hin rfl (by decide +kernel) rfl rfl (Nat.le_of_ble_eq_true rfl) d_A_init_22 (fun M4 H locs em fr hw => ?_)
  have em : M4 r = some (.inr (4, [.int pg, .int x, .int y, .int wd, .int (nI 0)])) := em
  have h_r := em
  have hF := hF.put em fr (Or.inl (by simp))
  refine lv_aload_n hx hb d_A_init_25 rfl (lv_at hl 0 rfl) ?_
  refine lv_iload hx hb d_A_init_26 (lv_at hl 5 rfl) ?_
  refine x_putF (ty := .int) hC hw h_r rfl 4 (by decide) (hts _ k_524) (fun _ h9 => h9) rfl hin rfl (by decide +kernel) rfl rfl (Nat.le_of_ble_eq_true rfl) d_A_init_28 (fun M5 H locs em fr hw => ?_)
  have em : M5 r = some (.inr (4, [.int pg, .int x, .int y, .int wd, .int hg])) := em
  have h_r := em
  have hF := hF.put em fr (Or.inl (by simp))
  exact x_vret hC hr hw (⟨rfl, h_r, hF⟩) (Nat.le_of_ble_eq_true rfl) (Nat.le_of_ble_eq_true rfl) d_A_init_31

set_option maxHeartbeats 400000 in
set_option maxRecDepth 100000 in
/-- U_init -/
theorem c_U_init (l : Launch) (G : xT) (M : xMem) (sz : Nat) (r : Nat) (pg dx dy : Int32) (fo : Nat) (h_r : M r = some (.inr (5, [.int (nI 0), .int (nI 0), .int (nI 0), .null, .long 0, .null]))) : xMet l G y_U_init (Cond.code y_U_init b_U_init 5 none :: x_tbl) { frames := 1, cells := 0, slots := 0, locals := 12 } [.ref r, .int pg, .ref fo, .int dx, .int dy] M sz (fun u M' => u = none ∧ M' r = some (.inr (5, [.int pg, .int dx, .int dy, .ref fo, .long 0, .null])) ∧ xfr M M' [r]) (fun _ _ => False) := by
  refine xMet.of (by decide) (Nat.le_of_ble_eq_true rfl) ?_
  intro p e s m below meth c ls hC hr hnm hno hsz hw hl
  obtain ⟨hx, hb, hown, hts, hK, hml, hlk, hz⟩ := id hC
  have hl : lv_has ls 5 [(0, .ref r), (1, .int pg), (2, .ref fo), (3, .int dx), (4, .int dy)] := hl
  have hin : meth.name = "<init>" := hnm
  have hF : xfr M M [r] := xfr.rf
  refine lv_aload_n hx hb d_U_init_0 rfl (lv_at hl 0 rfl) ?_
  refine x_objInit hC k_445 hl.1 (Nat.le_of_ble_eq_true rfl) (Nat.le_of_ble_eq_true rfl) d_U_init_1 ?_
  refine lv_aload_n hx hb d_U_init_4 rfl (lv_at hl 0 rfl) ?_
  refine lv_iload_n hx hb d_U_init_5 rfl (lv_at hl 1 rfl) ?_
  refine x_putF (ty := .int) hC hw h_r rfl 0 (by decide) (hts _ k_446) (fun _ h9 => h9) rfl hin rfl (by decide +kernel) rfl rfl (Nat.le_of_ble_eq_true rfl) d_U_init_6 (fun M1 H locs em fr hw => ?_)
  have em : M1 r = some (.inr (5, [.int pg, .int (nI 0), .int (nI 0), .null, .long 0, .null])) := em
  have h_r := em
  have hF := hF.put em fr (Or.inl (by simp))
  refine lv_aload_n hx hb d_U_init_9 rfl (lv_at hl 0 rfl) ?_
  refine lv_aload_n hx hb d_U_init_10 rfl (lv_at hl 2 rfl) ?_
  refine x_put (ty := .object "RedactCheck$SignRow") hC hw h_r rfl 3 (by decide) (hts _ k_452) (fun _ h9 => h9) rfl (by decide +kernel) rfl rfl (Nat.le_of_ble_eq_true rfl) d_U_init_11 (fun M2 H locs em fr hw => ?_)
  have em : M2 r = some (.inr (5, [.int pg, .int (nI 0), .int (nI 0), .ref fo, .long 0, .null])) := em
  have h_r := em
  have hF := hF.put em fr (Or.inl (by simp))
  refine lv_aload_n hx hb d_U_init_14 rfl (lv_at hl 0 rfl) ?_
  refine lv_iload_n hx hb d_U_init_15 rfl (lv_at hl 3 rfl) ?_
  refine x_putF (ty := .int) hC hw h_r rfl 1 (by decide) (hts _ k_448) (fun _ h9 => h9) rfl hin rfl (by decide +kernel) rfl rfl (Nat.le_of_ble_eq_true rfl) d_U_init_16 (fun M3 H locs em fr hw => ?_)
  have em : M3 r = some (.inr (5, [.int pg, .int dx, .int (nI 0), .ref fo, .long 0, .null])) := em
  have h_r := em
  have hF := hF.put em fr (Or.inl (by simp))
  refine lv_aload_n hx hb d_U_init_19 rfl (lv_at hl 0 rfl) ?_
  refine lv_iload hx hb d_U_init_20 (lv_at hl 4 rfl) ?_
  refine x_putF (ty := .int) hC hw h_r rfl 2 (by decide) (hts _ k_450) (fun _ h9 => h9) rfl hin rfl (by decide +kernel) rfl rfl (Nat.le_of_ble_eq_true rfl) d_U_init_22 (fun M4 H locs em fr hw => ?_)
  have em : M4 r = some (.inr (5, [.int pg, .int dx, .int dy, .ref fo, .long 0, .null])) := em
  have h_r := em
  have hF := hF.put em fr (Or.inl (by simp))
  exact x_vret hC hr hw (⟨rfl, h_r, hF⟩) (Nat.le_of_ble_eq_true rfl) (Nat.le_of_ble_eq_true rfl) d_U_init_25

set_option maxHeartbeats 400000 in
set_option maxRecDepth 100000 in
/-- Word.add -/
theorem c_D_add (l : Launch) (G : xT) (M : xMem) (sz : Nat) (r v n : Nat) (f : Nat → Int32) (x : Int32) (hn : n < 8) (h_r : M r = some (.inr (3, [.int (nI n), .ref v]))) (h_v : M v = some (.inl (G.2.1 0, 8, .inl f))) : xMet l G y_D_add (Cond.code y_D_add b_D_add 2 none :: x_tbl) { frames := 0, cells := 0, slots := 0, locals := 0 } [.ref r, .int x] M sz (fun u M' => u = none ∧ M' r = some (.inr (3, [.int (nI (n + 1)), .ref v])) ∧ M' v = some (.inl (G.2.1 0, 8, .inl (va_up f n x))) ∧ xfr M M' [r, v]) (fun _ _ => False) := by
  refine xMet.of (by decide) (Nat.le_of_ble_eq_true rfl) ?_
  intro p e s m below meth c ls hC hr hnm hno hsz hw hl
  obtain ⟨hx, hb, hown, hts, hK, hml, hlk, hz⟩ := id hC
  have hl : lv_has ls 2 [(0, .ref r), (1, .int x)] := hl
  have hF : xfr M M [r, v] := xfr.rf
  refine lv_aload_n hx hb d_D_add_0 rfl (lv_at hl 0 rfl) ?_
  refine x_get hC hw h_r rfl 0 (by decide) (hts _ k_481) (fun _ h9 => h9) rfl d_D_add_1 ?_
  refine lv_if_lt (tgt := 39) hx hb d_D_add_4 (by decide) (fun c_4 => ?_) (fun c_4 => ?_)
  · exact absurd c_4 (nI_pos (by omega))
  · refine lv_aload_n hx hb d_D_add_7 rfl (lv_at hl 0 rfl) ?_
    refine x_get hC hw h_r rfl 0 (by decide) (hts _ k_481) (fun _ h9 => h9) rfl d_D_add_8 ?_
    refine lv_aload_n hx hb d_D_add_11 rfl (lv_at hl 0 rfl) ?_
    refine x_get hC hw h_r rfl 1 (by decide) (hts _ k_483) (fun _ h9 => h9) rfl d_D_add_12 ?_
    refine x_alen (v := nI 8) hC hw h_v (t0 := 0) rfl rfl d_D_add_15 ?_
    refine lv_icmp_ge (tgt := 39) hx hb d_D_add_16 (by decide) (fun c_16 => ?_) (fun c_16 => ?_)
    · have c_16 := (nI_leI (by omega) (by omega)).mp c_16
      omega
    · have c_16 := Nat.not_le.mp ((not_congr (nI_leI (by omega) (by omega))).mp c_16)
      refine lv_aload_n hx hb d_D_add_19 rfl (lv_at hl 0 rfl) ?_
      refine x_get hC hw h_r rfl 1 (by decide) (hts _ k_483) (fun _ h9 => h9) rfl d_D_add_20 ?_
      refine lv_aload_n hx hb d_D_add_23 rfl (lv_at hl 0 rfl) ?_
      refine x_get hC hw h_r rfl 0 (by decide) (hts _ k_481) (fun _ h9 => h9) rfl d_D_add_24 ?_
      refine lv_iload_n hx hb d_D_add_27 rfl (lv_at hl 1 rfl) ?_
      refine x_iast (j := n) hC hw h_v rfl (rfl) (by omega) (by omega) d_D_add_28 (fun M1 H locs em fr hw => ?_)
      have h_r := (fr _ (x_ne h_r h_v (by intro z; cases z))).trans h_r
      have h_v := em
      have hF := hF.put em fr (Or.inl (by simp))
      refine lv_aload_n hx hb d_D_add_29 rfl (lv_at hl 0 rfl) ?_
      refine lv_dup hx hb d_D_add_30 rfl ?_
      refine x_get hC hw h_r rfl 0 (by decide) (hts _ k_481) (fun _ h9 => h9) rfl d_D_add_31 ?_
      refine lv_iconst (v := nI 1) hx hb d_D_add_34 (by decide) ?_
      refine lv_iadd hx hb d_D_add_35 ?_
      refine x_vi (y := nI (n + 1)) (nI_add _ _) ?_
      refine x_put (ty := .int) hC hw h_r rfl 0 (by decide) (hts _ k_481) (fun _ h9 => h9) rfl (by decide +kernel) rfl rfl (Nat.le_of_ble_eq_true rfl) d_D_add_36 (fun M2 H locs em fr hw => ?_)
      have em : M2 r = some (.inr (3, [.int (nI (n + 1)), .ref v])) := em
      have h_v := (fr _ (x_ne h_v h_r (by intro z; cases z))).trans h_v
      have h_r := em
      have hF := hF.put em fr (Or.inl (by simp))
      exact x_vret hC hr hw (⟨rfl, h_r, h_v, hF⟩) (Nat.le_of_ble_eq_true rfl) (Nat.le_of_ble_eq_true rfl) d_D_add_39
