theorem told_0 (nu : Nat → Nat → Nat) : toldI nu (nI 0) = nI (nu 6 0) := by unfold toldI; rw [if_pos (by decide +kernel)]
theorem told_1 (nu : Nat → Nat → Nat) : toldI nu (nI 1) = nI (nu 7 0) := by unfold toldI; rw [if_neg (by decide +kernel), if_pos rfl]
theorem told_2 (nu : Nat → Nat → Nat) : toldI nu (nI 2) = nI (nu 12 0) := by unfold toldI; rw [if_neg (by decide +kernel), if_neg (by decide +kernel), if_pos rfl]
theorem told_3 (nu : Nat → Nat → Nat) : toldI nu (nI 3) = nI (nu 15 0) := by unfold toldI; rw [if_neg (by decide +kernel), if_neg (by decide +kernel), if_neg (by decide +kernel), if_pos rfl]
theorem told_4 (nu : Nat → Nat → Nat) : toldI nu (nI 4) = nI (nu 21 0) := by unfold toldI; rw [if_neg (by decide +kernel), if_neg (by decide +kernel), if_neg (by decide +kernel), if_neg (by decide +kernel), if_pos rfl]
theorem told_5 (nu : Nat → Nat → Nat) : toldI nu (nI 5) = nI (nu 25 0) := by unfold toldI; rw [if_neg (by decide +kernel), if_neg (by decide +kernel), if_neg (by decide +kernel), if_neg (by decide +kernel), if_neg (by decide +kernel), if_pos rfl]
theorem told_out {nu : Nat → Nat → Nat} {wh : Int32} (h0 : ¬ wh = nI 0) (h1 : ¬ wh = nI 1) (h2 : ¬ wh = nI 2) (h3 : ¬ wh = nI 3) (h4 : ¬ wh = nI 4) (h5 : ¬ wh = nI 5) : toldI nu wh = -1 := by
  unfold toldI
  rw [nI_0] at h0
  rw [if_neg h0, if_neg h1, if_neg h2, if_neg h3, if_neg h4, if_neg h5]
theorem nmb_4 (f : Nat) : nmb (4 + f) = f := by unfold nmb; rw [if_neg (by omega)]; omega
theorem nmb_p {p : Nat} (h : p < 4) : nmb p = p := by unfold nmb; rw [if_pos h]
theorem x_part4 {p : Nat → Int32} {sg : Nat → Nat → Int32} {r j w : Nat} (hw : w < 4) (h : p (j * 4 + 0) = sg 2 (40 * r + j) ∧ p (j * 4 + 1) = sg 3 (40 * r + j) ∧ p (j * 4 + 2) = sg 4 (40 * r + j) ∧ p (j * 4 + 3) = sg 5 (40 * r + j)) : p (j * 4 + w) = sg (2 + w) (40 * r + j) := by
  match w, hw with
  | 0, _ => exact h.1
  | 1, _ => exact h.2.1
  | 2, _ => exact h.2.2.1
  | 3, _ => exact h.2.2.2
theorem by_of {h : Int32} (hb : byP h) : ∃ n, n < 256 ∧ h = (Int8.ofNat n).toInt32 := by
  refine ⟨h.toInt8.toBitVec.toNat, h.toInt8.toBitVec.isLt, ?_⟩
  have e : Int8.ofNat h.toInt8.toBitVec.toNat = h.toInt8 := Int8.toBitVec_inj.mp (by show BitVec.ofNat 8 _ = _; simp)
  rw [e]
  exact (Value.int.inj hb).symm
theorem by_val {h : Int32} (hb : byP h) : (Int32.toInt8 (h &&& nI 255)).toInt32 = h := by
  obtain ⟨n, hn, rfl⟩ := by_of hb
  have z : ∀ n, n < 256 → (Int32.toInt8 ((Int8.ofNat n).toInt32 &&& nI 255)).toInt32 = (Int8.ofNat n).toInt32 := by decide +kernel
  exact z n hn
theorem by_ok {h : Int32} (hb : byP h) : okB (h &&& nI 255) := by
  obtain ⟨n, hn, rfl⟩ := by_of hb
  have z : ∀ n, n < 256 → ((Int8.ofNat n).toInt32 &&& nI 255) = nI n := by decide +kernel
  exact ⟨n, hn, z n hn⟩
set_option maxHeartbeats 400000 in
set_option maxRecDepth 100000 in
/-- told -/
theorem c_R_told (l : Launch) (G : xT) (M : xMem) (sz : Nat) (fz : Nat) (ad : Nat → Nat → Nat) (nu : Nat → Nat → Nat) (sg : Nat → Nat → Int32) (hR : cRep G M fz ad nu sg) (wh : Int32) : xMet l G y_R_told (Cond.code y_R_told b_R_told 2 (Option.some Jvm.ClassFile.FieldType.int) :: x_tbl) { frames := 1, cells := 0, slots := 0, locals := 20 } [.ref (ad 14 0), .int wh] M sz (fun u M' => u = some (.int (toldI nu wh)) ∧ M' = M) (fun _ _ => False) := by
  refine xMet.of (by decide) (Nat.le_of_ble_eq_true rfl) ?_
  intro p e s m below meth c ls hC hr hnm hno hsz hw hl
  obtain ⟨hx, hb, hown, hts, hK, hml, hlk, hz⟩ := id hC
  have hl : lv_has ls 2 [(0, .ref (ad 14 0)), (1, .int wh)] := hl
  refine lv_iload_n hx hb d_R_told_0 rfl (lv_at hl 1 rfl) ?_
  by_cases ct_0 : wh = nI 0
  · refine x_vi (y := nI 0) ct_0 ?_
    refine lv_tableIn (off := 39) (tgt := 40) hx hb d_R_told_1 (by decide +kernel) (by decide +kernel) (by decide +kernel) (by decide) ?_
    refine lv_aload_n hx hb d_R_told_40 rfl (lv_at hl 0 rfl) ?_
    have hc1 := hR.rc
    refine x_get hC hw hc1 rfl 1 (by decide) (hts _ k_177) (fun _ h9 => h9) rfl d_R_told_41 ?_
    obtain ⟨mc2, hc2⟩ := hR.la (k := 1) (by decide)
    refine x_callG hC (c_size l G M (Array.size s.heap) fz ad nu sg hR 1 (by decide)) k_212 k_4 ⟨Nat.le_of_ble_eq_true rfl, Nat.le_of_ble_eq_true rfl⟩ ⟨Nat.le_of_ble_eq_true rfl, Nat.le_of_ble_eq_true rfl⟩ hw hl.1 (Nat.le_of_ble_eq_true rfl) d_R_told_44 (x_ivV hC k_212 k_209 k_210 k_211 (show _ ∧ _ ∧ _ = some 0 from by decide +kernel) (x_recv hC hw hc2 rfl) rfl d_R_told_44) (fun rv M3 H locs hq hw => ?_) (fun _ _ _ _ _ h _ _ => h.elim)
    obtain ⟨rfl, hM⟩ := hq
    subst M3
    refine W.eq (g2 := F0 m 47 ls [.int (nI (nu 6 0))]) rfl ?_
    exact x_iret hC hr hw (⟨congrArg (fun z => some (Value.int z)) ((by rw [ct_0, told_0])), rfl⟩) (Nat.le_of_ble_eq_true rfl) (Nat.le_of_ble_eq_true rfl) d_R_told_47
  by_cases ct_1 : wh = nI 1
  · refine x_vi (y := nI 1) ct_1 ?_
    refine lv_tableIn (off := 47) (tgt := 48) hx hb d_R_told_1 (by decide +kernel) (by decide +kernel) (by decide +kernel) (by decide) ?_
    refine lv_aload_n hx hb d_R_told_48 rfl (lv_at hl 0 rfl) ?_
    have hc4 := hR.rc
    refine x_get hC hw hc4 rfl 2 (by decide) (hts _ k_178) (fun _ h9 => h9) rfl d_R_told_49 ?_
    obtain ⟨mc5, hc5⟩ := hR.la (k := 2) (by decide)
    refine x_callG hC (c_size l G M (Array.size s.heap) fz ad nu sg hR 2 (by decide)) k_212 k_4 ⟨Nat.le_of_ble_eq_true rfl, Nat.le_of_ble_eq_true rfl⟩ ⟨Nat.le_of_ble_eq_true rfl, Nat.le_of_ble_eq_true rfl⟩ hw hl.1 (Nat.le_of_ble_eq_true rfl) d_R_told_52 (x_ivV hC k_212 k_209 k_210 k_211 (show _ ∧ _ ∧ _ = some 0 from by decide +kernel) (x_recv hC hw hc5 rfl) rfl d_R_told_52) (fun rv M6 H locs hq hw => ?_) (fun _ _ _ _ _ h _ _ => h.elim)
    obtain ⟨rfl, hM⟩ := hq
    subst M6
    refine W.eq (g2 := F0 m 55 ls [.int (nI (nu 7 0))]) rfl ?_
    exact x_iret hC hr hw (⟨congrArg (fun z => some (Value.int z)) ((by rw [ct_1, told_1])), rfl⟩) (Nat.le_of_ble_eq_true rfl) (Nat.le_of_ble_eq_true rfl) d_R_told_55
  by_cases ct_2 : wh = nI 2
  · refine x_vi (y := nI 2) ct_2 ?_
    refine lv_tableIn (off := 55) (tgt := 56) hx hb d_R_told_1 (by decide +kernel) (by decide +kernel) (by decide +kernel) (by decide) ?_
    refine lv_aload_n hx hb d_R_told_56 rfl (lv_at hl 0 rfl) ?_
    have hc7 := hR.rc
    refine x_get hC hw hc7 rfl 3 (by decide) (hts _ k_179) (fun _ h9 => h9) rfl d_R_told_57 ?_
    obtain ⟨mc8, hc8⟩ := hR.la (k := 3) (by decide)
    refine x_callG hC (c_size l G M (Array.size s.heap) fz ad nu sg hR 3 (by decide)) k_212 k_4 ⟨Nat.le_of_ble_eq_true rfl, Nat.le_of_ble_eq_true rfl⟩ ⟨Nat.le_of_ble_eq_true rfl, Nat.le_of_ble_eq_true rfl⟩ hw hl.1 (Nat.le_of_ble_eq_true rfl) d_R_told_60 (x_ivV hC k_212 k_209 k_210 k_211 (show _ ∧ _ ∧ _ = some 0 from by decide +kernel) (x_recv hC hw hc8 rfl) rfl d_R_told_60) (fun rv M9 H locs hq hw => ?_) (fun _ _ _ _ _ h _ _ => h.elim)
    obtain ⟨rfl, hM⟩ := hq
    subst M9
    refine W.eq (g2 := F0 m 63 ls [.int (nI (nu 12 0))]) rfl ?_
    exact x_iret hC hr hw (⟨congrArg (fun z => some (Value.int z)) ((by rw [ct_2, told_2])), rfl⟩) (Nat.le_of_ble_eq_true rfl) (Nat.le_of_ble_eq_true rfl) d_R_told_63
  by_cases ct_3 : wh = nI 3
  · refine x_vi (y := nI 3) ct_3 ?_
    refine lv_tableIn (off := 63) (tgt := 64) hx hb d_R_told_1 (by decide +kernel) (by decide +kernel) (by decide +kernel) (by decide) ?_
    refine lv_aload_n hx hb d_R_told_64 rfl (lv_at hl 0 rfl) ?_
    have hc10 := hR.rc
    refine x_get hC hw hc10 rfl 4 (by decide) (hts _ k_180) (fun _ h9 => h9) rfl d_R_told_65 ?_
    obtain ⟨mc11, hc11⟩ := hR.la (k := 4) (by decide)
    refine x_callG hC (c_size l G M (Array.size s.heap) fz ad nu sg hR 4 (by decide)) k_212 k_4 ⟨Nat.le_of_ble_eq_true rfl, Nat.le_of_ble_eq_true rfl⟩ ⟨Nat.le_of_ble_eq_true rfl, Nat.le_of_ble_eq_true rfl⟩ hw hl.1 (Nat.le_of_ble_eq_true rfl) d_R_told_68 (x_ivV hC k_212 k_209 k_210 k_211 (show _ ∧ _ ∧ _ = some 0 from by decide +kernel) (x_recv hC hw hc11 rfl) rfl d_R_told_68) (fun rv M12 H locs hq hw => ?_) (fun _ _ _ _ _ h _ _ => h.elim)
    obtain ⟨rfl, hM⟩ := hq
    subst M12
    refine W.eq (g2 := F0 m 71 ls [.int (nI (nu 15 0))]) rfl ?_
    exact x_iret hC hr hw (⟨congrArg (fun z => some (Value.int z)) ((by rw [ct_3, told_3])), rfl⟩) (Nat.le_of_ble_eq_true rfl) (Nat.le_of_ble_eq_true rfl) d_R_told_71
  by_cases ct_4 : wh = nI 4
  · refine x_vi (y := nI 4) ct_4 ?_
    refine lv_tableIn (off := 71) (tgt := 72) hx hb d_R_told_1 (by decide +kernel) (by decide +kernel) (by decide +kernel) (by decide) ?_
    refine lv_aload_n hx hb d_R_told_72 rfl (lv_at hl 0 rfl) ?_
    have hc13 := hR.rc
    refine x_get hC hw hc13 rfl 5 (by decide) (hts _ k_181) (fun _ h9 => h9) rfl d_R_told_73 ?_
    obtain ⟨mc14, hc14⟩ := hR.la (k := 5) (by decide)
    refine x_callG hC (c_size l G M (Array.size s.heap) fz ad nu sg hR 5 (by decide)) k_212 k_4 ⟨Nat.le_of_ble_eq_true rfl, Nat.le_of_ble_eq_true rfl⟩ ⟨Nat.le_of_ble_eq_true rfl, Nat.le_of_ble_eq_true rfl⟩ hw hl.1 (Nat.le_of_ble_eq_true rfl) d_R_told_76 (x_ivV hC k_212 k_209 k_210 k_211 (show _ ∧ _ ∧ _ = some 0 from by decide +kernel) (x_recv hC hw hc14 rfl) rfl d_R_told_76) (fun rv M15 H locs hq hw => ?_) (fun _ _ _ _ _ h _ _ => h.elim)
    obtain ⟨rfl, hM⟩ := hq
    subst M15
    refine W.eq (g2 := F0 m 79 ls [.int (nI (nu 21 0))]) rfl ?_
    exact x_iret hC hr hw (⟨congrArg (fun z => some (Value.int z)) ((by rw [ct_4, told_4])), rfl⟩) (Nat.le_of_ble_eq_true rfl) (Nat.le_of_ble_eq_true rfl) d_R_told_79
  by_cases ct_5 : wh = nI 5
  · refine x_vi (y := nI 5) ct_5 ?_
    refine lv_tableIn (off := 79) (tgt := 80) hx hb d_R_told_1 (by decide +kernel) (by decide +kernel) (by decide +kernel) (by decide) ?_
    refine lv_aload_n hx hb d_R_told_80 rfl (lv_at hl 0 rfl) ?_
    have hc16 := hR.rc
    refine x_get hC hw hc16 rfl 6 (by decide) (hts _ k_182) (fun _ h9 => h9) rfl d_R_told_81 ?_
    have hc17 := hR.fi
    refine x_get hC hw hc17 rfl 0 (by decide) (hts _ k_68) (fun _ h9 => h9) rfl d_R_told_84 ?_
    exact x_iret hC hr hw (⟨congrArg (fun z => some (Value.int z)) ((by rw [ct_5, told_5])), rfl⟩) (Nat.le_of_ble_eq_true rfl) (Nat.le_of_ble_eq_true rfl) d_R_told_87
  refine lv_tableOut (tgt := 88) hx hb d_R_told_1 (x_tabO (n := 5) (by decide) (x_all6 ct_0 ct_1 ct_2 ct_3 ct_4 ct_5)) (by decide) ?_
  refine lv_iconst (v := (-1)) hx hb d_R_told_88 (by decide) ?_
  exact x_iret hC hr hw (⟨congrArg (fun z => some (Value.int z)) ((told_out ct_0 ct_1 ct_2 ct_3 ct_4 ct_5).symm), rfl⟩) (Nat.le_of_ble_eq_true rfl) (Nat.le_of_ble_eq_true rfl) d_R_told_89

set_option maxHeartbeats 400000 in
set_option maxRecDepth 100000 in
/-- left -/
theorem c_R_left (l : Launch) (hfl : l.flags = flags0) (G : xT) (M : xMem) (sz : Nat) (fz : Nat) (ad : Nat → Nat → Nat) (nu : Nat → Nat → Nat) (sg : Nat → Nat → Int32) (hR : cRep G M fz ad nu sg) (i wh : Int32) (h100 : nu 25 0 ≤ 100) : xMet l G y_R_left (Cond.code y_R_left b_R_left 3 (Option.some Jvm.ClassFile.FieldType.int) :: x_tbl) { frames := 7, cells := 2, slots := 12, locals := 103 } [.ref (ad 14 0), .int i, .int wh] M sz (fun u M' => u = some (.int (sg 26 (5 * cN i + cN wh))) ∧ leftK nu i wh = 0 ∧ M' = M) (fun X M' => M' = M ∧ (leftK nu i wh = 1 ∧ X = "java/lang/IndexOutOfBoundsException")) := by
  refine xMet.of (by decide) (Nat.le_of_ble_eq_true rfl) ?_
  intro p e s m below meth c ls hC hr hnm hno hsz hw hl
  obtain ⟨hx, hb, hown, hts, hK, hml, hlk, hz⟩ := id hC
  have hl : lv_has ls 3 [(0, .ref (ad 14 0)), (1, .int i), (2, .int wh)] := hl
  refine lv_iload_n hx hb d_R_left_0 rfl (lv_at hl 1 rfl) ?_
  refine lv_aload_n hx hb d_R_left_1 rfl (lv_at hl 0 rfl) ?_
  have hc1 := hR.rc
  refine x_get hC hw hc1 rfl 6 (by decide) (hts _ k_182) (fun _ h9 => h9) rfl d_R_left_2 ?_
  have hc2 := hR.fi
  refine x_get hC hw hc2 rfl 0 (by decide) (hts _ k_68) (fun _ h9 => h9) rfl d_R_left_5 ?_
  refine x_callG hC (c_R_checkNumber l hfl G M (Array.size s.heap) (i) (nu 25 0) (by omega)) k_439 k_1 ⟨Nat.le_of_ble_eq_true rfl, Nat.le_of_ble_eq_true rfl⟩ ⟨Nat.le_of_ble_eq_true rfl, Nat.le_of_ble_eq_true rfl⟩ hw hl.1 (Nat.le_of_ble_eq_true rfl) d_R_left_8 (x_ivS hC k_439 k_437 k_438 k_1 (show _ ∧ _ ∧ _ = some 2 from by decide +kernel) rfl d_R_left_8) (fun rv M3 H locs hq hw => ?_) (fun x X M9 H locs hth hxT hw => x_out hC hno hw hxT (by obtain ⟨rfl, hno9, rfl⟩ := hth; exact ⟨rfl, ⟨by unfold leftK; rw [kt_t (fun z => hno9 z.1)], rfl⟩⟩) (Nat.le_of_ble_eq_true rfl) (Nat.le_of_ble_eq_true rfl))
  obtain ⟨rfl, hn1, hM⟩ := hq
  subst M3
  refine W.eq (g2 := F0 m 11 ls []) rfl ?_
  refine lv_iload_n hx hb d_R_left_11 rfl (lv_at hl 2 rfl) ?_
  refine lv_iconst (v := nI 5) hx hb d_R_left_12 (by decide) ?_
  refine x_callG hC (c_R_checkNumber l hfl G M (Array.size H) (wh) (5) (by omega)) k_439 k_1 ⟨Nat.le_of_ble_eq_true rfl, Nat.le_of_ble_eq_true rfl⟩ ⟨Nat.le_of_ble_eq_true rfl, Nat.le_of_ble_eq_true rfl⟩ hw hl.1 (Nat.le_of_ble_eq_true rfl) d_R_left_13 (x_ivS hC k_439 k_437 k_438 k_1 (show _ ∧ _ ∧ _ = some 2 from by decide +kernel) rfl d_R_left_13) (fun rv M4 H locs hq hw => ?_) (fun x X M9 H locs hth hxT hw => x_out hC hno hw hxT (by obtain ⟨rfl, hno9, rfl⟩ := hth; exact ⟨rfl, ⟨by unfold leftK; rw [kt_t (fun z => hno9 z.2)], rfl⟩⟩) (Nat.le_of_ble_eq_true rfl) (Nat.le_of_ble_eq_true rfl))
  obtain ⟨rfl, hn2, hM⟩ := hq
  subst M4
  refine W.eq (g2 := F0 m 16 ls []) rfl ?_
  refine lv_aload_n hx hb d_R_left_16 rfl (lv_at hl 0 rfl) ?_
  refine x_get hC hw hc1 rfl 6 (by decide) (hts _ k_182) (fun _ h9 => h9) rfl d_R_left_17 ?_
  refine lv_iload_n hx hb d_R_left_20 rfl (lv_at hl 1 rfl) ?_
  refine x_vi (y := nI (cN i)) hn1.1 ?_
  refine lv_iload_n hx hb d_R_left_21 rfl (lv_at hl 2 rfl) ?_
  refine x_vi (y := nI (cN wh)) hn2.1 ?_
  have hi9 := hn1.2
  have hw9 := hn2.2
  have hc5 := hR.fp
  refine x_callG hC (c_F_part l G M (Array.size H) (ad 10 0) (ad 11 0) (cN i) (cN wh) (nI (nu 25 0)) (sg 26) (by omega) (by omega) hc2 hc5) k_696 k_5 ⟨Nat.le_of_ble_eq_true rfl, Nat.le_of_ble_eq_true rfl⟩ ⟨Nat.le_of_ble_eq_true rfl, Nat.le_of_ble_eq_true rfl⟩ hw hl.1 (Nat.le_of_ble_eq_true rfl) d_R_left_22 (x_ivV hC k_696 k_693 k_694 k_695 (show _ ∧ _ ∧ _ = some 2 from by decide +kernel) (x_recv hC hw hc2 rfl) rfl d_R_left_22) (fun rv M6 H locs hq hw => ?_) (fun _ _ _ _ _ h _ _ => h.elim)
  obtain ⟨rfl, hM⟩ := hq
  subst M6
  refine W.eq (g2 := F0 m 25 ls [.int (sg 26 (cN i * 5 + cN wh))]) rfl ?_
  exact x_iret hC hr hw (⟨congrArg (fun z => some (Value.int z)) ((by rw [Nat.mul_comm 5])), by unfold leftK; rw [kt_f (not_not_intro ⟨hn1, hn2⟩)], rfl⟩) (Nat.le_of_ble_eq_true rfl) (Nat.le_of_ble_eq_true rfl) d_R_left_25

set_option maxHeartbeats 400000 in
set_option maxRecDepth 100000 in
/-- formOf -/
theorem c_R_formOf (l : Launch) (hfl : l.flags = flags0) (G : xT) (M : xMem) (sz : Nat) (fz : Nat) (ad : Nat → Nat → Nat) (nu : Nat → Nat → Nat) (sg : Nat → Nat → Int32) (hR : cRep G M fz ad nu sg) (v : Int32) (h12 : nu 7 0 ≤ 12) (hfm : ∀ u, u < nu 7 0 → nu 9 u < nu 6 0) : xMet l G y_R_formOf (Cond.code y_R_formOf b_R_formOf 2 (Option.some Jvm.ClassFile.FieldType.int) :: x_tbl) { frames := 6, cells := 1, slots := 6, locals := 82 } [.ref (ad 14 0), .int v] M sz (fun u M' => u = some (.int (nI (nu 9 (cN v)))) ∧ formOfK nu v = 0 ∧ M' = M) (fun X M' => M' = M ∧ (formOfK nu v = 1 ∧ X = "java/lang/IndexOutOfBoundsException")) := by
  refine xMet.of (by decide) (Nat.le_of_ble_eq_true rfl) ?_
  intro p e s m below meth c ls hC hr hnm hno hsz hw hl
  obtain ⟨hx, hb, hown, hts, hK, hml, hlk, hz⟩ := id hC
  have hl : lv_has ls 2 [(0, .ref (ad 14 0)), (1, .int v)] := hl
  refine lv_iload_n hx hb d_R_formOf_0 rfl (lv_at hl 1 rfl) ?_
  refine lv_if_lt (tgt := 15) hx hb d_R_formOf_1 (by decide) (fun c_1 => ?_) (fun c_1 => ?_)
  · exact x_throw hfl hC hno hw k_299 k_300 k_17 x_str_169 (by decide +kernel) hat_IO d_R_formOf_15 d_R_formOf_18 d_R_formOf_19 d_R_formOf_21 d_R_formOf_24 hl.1 (Nat.le_of_ble_eq_true rfl) (Nat.le_of_ble_eq_true rfl) (Nat.le_of_ble_eq_true rfl) (Nat.le_of_ble_eq_true rfl) (⟨rfl, by unfold formOfK; rw [kt_t (fun z => ((num_lt (n := nu 7 0) (by omega)).mpr z).1 c_1)], rfl⟩) (Nat.le_of_ble_eq_true rfl) (Nat.le_of_ble_eq_true rfl)
  · refine lv_iload_n hx hb d_R_formOf_4 rfl (lv_at hl 1 rfl) ?_
    refine lv_aload_n hx hb d_R_formOf_5 rfl (lv_at hl 0 rfl) ?_
    have hc1 := hR.rc
    refine x_get hC hw hc1 rfl 2 (by decide) (hts _ k_178) (fun _ h9 => h9) rfl d_R_formOf_6 ?_
    obtain ⟨mc2, hc2⟩ := hR.la (k := 2) (by decide)
    refine x_callG hC (c_size l G M (Array.size s.heap) fz ad nu sg hR 2 (by decide)) k_212 k_4 ⟨Nat.le_of_ble_eq_true rfl, Nat.le_of_ble_eq_true rfl⟩ ⟨Nat.le_of_ble_eq_true rfl, Nat.le_of_ble_eq_true rfl⟩ hw hl.1 (Nat.le_of_ble_eq_true rfl) d_R_formOf_9 (x_ivV hC k_212 k_209 k_210 k_211 (show _ ∧ _ ∧ _ = some 0 from by decide +kernel) (x_recv hC hw hc2 rfl) rfl d_R_formOf_9) (fun rv M3 H locs hq hw => ?_) (fun _ _ _ _ _ h _ _ => h.elim)
    obtain ⟨rfl, hM⟩ := hq
    subst M3
    refine W.eq (g2 := F0 m 12 ls [.int (nI (nu 7 0)), .int v]) rfl ?_
    refine lv_icmp_lt (tgt := 25) hx hb d_R_formOf_12 (by decide) (fun c_12 => ?_) (fun c_12 => ?_)
    · have hnm : numP v (nu 7 0) := (num_lt (by omega)).mp ⟨c_1, Int32.not_le.mpr c_12⟩
      have hcv : cN v < nu 7 0 := hnm.2
      refine lv_aload_n hx hb d_R_formOf_25 rfl (lv_at hl 0 rfl) ?_
      refine x_get hC hw hc1 rfl 2 (by decide) (hts _ k_178) (fun _ h9 => h9) rfl d_R_formOf_26 ?_
      refine lv_iload_n hx hb d_R_formOf_29 rfl (lv_at hl 1 rfl) ?_
      refine x_vi (y := nI (cN v)) hnm.1 ?_
      refine x_callG hC (c_get l G M (Array.size H) fz ad nu sg hR 2 (by decide) ((cN v)) (show (cN v) < nu 7 0 by omega)) k_216 k_4 ⟨Nat.le_of_ble_eq_true rfl, Nat.le_of_ble_eq_true rfl⟩ ⟨Nat.le_of_ble_eq_true rfl, Nat.le_of_ble_eq_true rfl⟩ hw hl.1 (Nat.le_of_ble_eq_true rfl) d_R_formOf_30 (x_ivV hC k_216 k_213 k_214 k_215 (show _ ∧ _ ∧ _ = some 1 from by decide +kernel) (x_recv hC hw hc2 rfl) rfl d_R_formOf_30) (fun rv M4 H locs hq hw => ?_) (fun _ _ _ _ _ h _ _ => h.elim)
      obtain ⟨rfl, hM⟩ := hq
      subst M4
      refine W.eq (g2 := F0 m 33 ls [.ref (ad 4 (cN v))]) rfl ?_
      obtain ⟨mk5, tw5, hc5⟩ := hR.us (u := cN v) (by omega)
      refine x_cast hC hw hc5 rfl (hts _ k_256) d_R_formOf_33 ?_
      refine x_get hC hw hc5 rfl 3 (by decide) (hts _ k_453) (fun _ h9 => h9) rfl d_R_formOf_36 ?_
      have hfv := hfm _ hcv
      have hc6 := hR.row (r := 4 + nu 9 (cN v)) (by omega)
      refine x_get hC hw hc6 rfl 0 (by decide) (hts _ k_108) (fun _ h9 => h9) rfl d_R_formOf_39 ?_
      exact x_iret hC hr hw (⟨congrArg (fun z => some (Value.int z)) ((by rw [nmb_4])), by unfold formOfK; rw [kt_f (not_not_intro hnm)], rfl⟩) (Nat.le_of_ble_eq_true rfl) (Nat.le_of_ble_eq_true rfl) d_R_formOf_42
    · exact x_throw hfl hC hno hw k_299 k_300 k_17 x_str_169 (by decide +kernel) hat_IO d_R_formOf_15 d_R_formOf_18 d_R_formOf_19 d_R_formOf_21 d_R_formOf_24 hl.1 (Nat.le_of_ble_eq_true rfl) (Nat.le_of_ble_eq_true rfl) (Nat.le_of_ble_eq_true rfl) (Nat.le_of_ble_eq_true rfl) (⟨rfl, by unfold formOfK; rw [kt_t (fun z => c_12 (Int32.not_le.mp ((num_lt (n := nu 7 0) (by omega)).mpr z).2))], rfl⟩) (Nat.le_of_ble_eq_true rfl) (Nat.le_of_ble_eq_true rfl)

set_option maxHeartbeats 400000 in
set_option maxRecDepth 100000 in
/-- byteOf -/
theorem c_R_byteOf (l : Launch) (hfl : l.flags = flags0) (G : xT) (M : xMem) (sz : Nat) (fz : Nat) (ad : Nat → Nat → Nat) (nu : Nat → Nat → Nat) (sg : Nat → Nat → Int32) (hR : cRep G M fz ad nu sg) (so i : Int32) (h8 : nu 21 0 ≤ 8) (h60 : ∀ t, nu 23 t ≤ 60) : xMet l G y_R_byteOf (Cond.code y_R_byteOf b_R_byteOf 4 (Option.some Jvm.ClassFile.FieldType.byte) :: x_tbl) { frames := 7, cells := 2, slots := 12, locals := 103 } [.ref (ad 14 0), .int so, .int i] M sz (fun u M' => u = some (.int (Int32.toInt8 (sg 24 (60 * cN so + cN i))).toInt32) ∧ byteOfK nu so i = 0 ∧ M' = M) (fun X M' => M' = M ∧ (byteOfK nu so i = 1 ∧ X = "java/lang/IndexOutOfBoundsException")) := by
  refine xMet.of (by decide) (Nat.le_of_ble_eq_true rfl) ?_
  intro p e s m below meth c ls hC hr hnm hno hsz hw hl
  obtain ⟨hx, hb, hown, hts, hK, hml, hlk, hz⟩ := id hC
  have hl : lv_has ls 4 [(0, .ref (ad 14 0)), (1, .int so), (2, .int i)] := hl
  refine lv_aload_n hx hb d_R_byteOf_0 rfl (lv_at hl 0 rfl) ?_
  refine lv_iload_n hx hb d_R_byteOf_1 rfl (lv_at hl 1 rfl) ?_
  have hc1 := hR.rc
  refine x_callG hC (c_R_storeOf l hfl G M (Array.size s.heap) fz ad nu sg hR so h8) k_569 k_1 ⟨Nat.le_of_ble_eq_true rfl, Nat.le_of_ble_eq_true rfl⟩ ⟨Nat.le_of_ble_eq_true rfl, Nat.le_of_ble_eq_true rfl⟩ hw hl.1 (Nat.le_of_ble_eq_true rfl) d_R_byteOf_2 (x_ivV hC k_569 k_566 k_568 kp_9 (show _ ∧ _ ∧ _ = some 1 from by decide +kernel) (x_recv hC hw hc1 rfl) rfl d_R_byteOf_2) (fun rv M2 H locs hq hw => ?_) (fun x X M9 H locs hth hxT hw => x_out hC hno hw hxT (by obtain ⟨rfl, hno9, rfl⟩ := hth; exact ⟨rfl, by unfold byteOfK; rw [kt_t (fun z => hno9 z.1)], rfl⟩) (Nat.le_of_ble_eq_true rfl) (Nat.le_of_ble_eq_true rfl))
  obtain ⟨rfl, hn1, hM⟩ := hq
  subst M2
  refine W.eq (g2 := F0 m 5 ls [.ref (ad 8 (cN so))]) rfl ?_
  refine lv_astore_n (lv' := [(3, .ref (ad 8 (cN so))), (0, .ref (ad 14 0)), (1, .int so), (2, .int i)]) hx hb d_R_byteOf_5 rfl hl (by decide) rfl (fun ls hl => ?_)
  have hs9 := hn1.2
  have h609 := h60 (cN so)
  refine lv_iload_n hx hb d_R_byteOf_6 rfl (lv_at hl 3 rfl) ?_
  refine lv_aload_n hx hb d_R_byteOf_7 rfl (lv_at hl 0 rfl) ?_
  have hc3 := hR.so (t := cN so) (by omega)
  refine x_get hC hw hc3 rfl 1 (by decide) (hts _ k_550) (fun _ h9 => h9) rfl d_R_byteOf_8 ?_
  refine x_callG hC (c_R_checkNumber l hfl G M (Array.size H) (i) (nu 23 (cN so)) (by omega)) k_439 k_1 ⟨Nat.le_of_ble_eq_true rfl, Nat.le_of_ble_eq_true rfl⟩ ⟨Nat.le_of_ble_eq_true rfl, Nat.le_of_ble_eq_true rfl⟩ hw hl.1 (Nat.le_of_ble_eq_true rfl) d_R_byteOf_11 (x_ivS hC k_439 k_437 k_438 k_1 (show _ ∧ _ ∧ _ = some 2 from by decide +kernel) rfl d_R_byteOf_11) (fun rv M4 H locs hq hw => ?_) (fun x X M9 H locs hth hxT hw => x_out hC hno hw hxT (by obtain ⟨rfl, hno9, rfl⟩ := hth; exact ⟨rfl, ⟨by unfold byteOfK; rw [kt_t (fun z => hno9 z.2)], rfl⟩⟩) (Nat.le_of_ble_eq_true rfl) (Nat.le_of_ble_eq_true rfl))
  obtain ⟨rfl, hn2, hM⟩ := hq
  subst M4
  refine W.eq (g2 := F0 m 14 ls []) rfl ?_
  refine lv_aload_n hx hb d_R_byteOf_14 rfl (lv_at hl 0 rfl) ?_
  refine lv_iload_n hx hb d_R_byteOf_15 rfl (lv_at hl 3 rfl) ?_
  refine x_vi (y := nI (cN i)) hn2.1 ?_
  have hi9 := hn2.2
  obtain ⟨p5, hc5, hp5⟩ := hR.by (t := cN so) (by omega)
  refine x_callG hC (c_T_value l G M (Array.size H) (ad 8 (cN so)) (ad 9 (cN so)) (cN i) (nI (nu 23 (cN so))) (sg 22 (cN so)) p5 (by omega) (hp5 _ hi9).2 hc3 hc5) k_274 k_25 ⟨Nat.le_of_ble_eq_true rfl, Nat.le_of_ble_eq_true rfl⟩ ⟨Nat.le_of_ble_eq_true rfl, Nat.le_of_ble_eq_true rfl⟩ hw hl.1 (Nat.le_of_ble_eq_true rfl) d_R_byteOf_16 (x_ivV hC k_274 k_711 k_272 k_273 (show _ ∧ _ ∧ _ = some 1 from by decide +kernel) (x_recv hC hw hc3 rfl) rfl d_R_byteOf_16) (fun rv M6 H locs hq hw => ?_) (fun _ _ _ _ _ h _ _ => h.elim)
  obtain ⟨rfl, hM⟩ := hq
  subst M6
  refine W.eq (g2 := F0 m 19 ls [.int (p5 (cN i))]) rfl ?_
  have hbv := (hp5 _ hi9).2
  exact x_zret hC hr hw (by assumption) (⟨congrArg (fun z => some (Value.int z)) ((by rw [(hp5 _ hi9).1, by_val hbv])), by unfold byteOfK; rw [kt_f (not_not_intro ⟨hn1, hn2⟩)], rfl⟩) (Nat.le_of_ble_eq_true rfl) (Nat.le_of_ble_eq_true rfl) d_R_byteOf_19

theorem many_0 (nu : Nat → Nat → Nat) : manyA nu (nI 0) = 4 := by unfold manyA; rw [kt_t (by decide +kernel)]
theorem many_1 (nu : Nat → Nat → Nat) : manyA nu (nI 1) = nu 6 0 := by unfold manyA; rw [kt_f (by decide +kernel), kt_t rfl]
theorem many_2 (nu : Nat → Nat → Nat) : manyA nu (nI 2) = nu 21 0 := by unfold manyA; rw [kt_f (by decide +kernel), kt_f (by decide +kernel), kt_t rfl]
theorem many_3 (nu : Nat → Nat → Nat) : manyA nu (nI 3) = nu 12 0 := by unfold manyA; rw [kt_f (by decide +kernel), kt_f (by decide +kernel), kt_f (by decide +kernel), kt_t rfl]
theorem many_out {nu : Nat → Nat → Nat} {wh : Int32} (h0 : ¬ wh = nI 0) (h1 : ¬ wh = nI 1) (h2 : ¬ wh = nI 2) (h3 : ¬ wh = nI 3) : manyA nu wh = 0 := by
  unfold manyA
  rw [nI_0] at h0
  rw [kt_f h0, kt_f h1, kt_f h2, kt_f h3]
theorem manyV_0 (nu : Nat → Nat → Nat) (no : Int32) : manyV nu (nI 0) no = nu 1 (cN no) := by unfold manyV; rw [kt_t (by decide +kernel)]
theorem manyV_1 (nu : Nat → Nat → Nat) (no : Int32) : manyV nu (nI 1) no = nu 1 (4 + cN no) := by unfold manyV; rw [kt_f (by decide +kernel), kt_t rfl]
theorem manyV_2 (nu : Nat → Nat → Nat) (no : Int32) : manyV nu (nI 2) no = nu 23 (cN no) := by unfold manyV; rw [kt_f (by decide +kernel), kt_f (by decide +kernel), kt_t rfl]
theorem manyV_3 (nu : Nat → Nat → Nat) (no : Int32) : manyV nu (nI 3) no = nu 13 (cN no) := by unfold manyV; rw [kt_f (by decide +kernel), kt_f (by decide +kernel), kt_f (by decide +kernel)]
theorem manyK_t {nu : Nat → Nat → Nat} {wh no : Int32} {n : Nat} (e : manyA nu wh = n) (h : ¬ numP no n) : manyK nu wh no = 1 := by
  subst e
  unfold manyK
  rw [kt_t h]
theorem manyK_f {nu : Nat → Nat → Nat} {wh no : Int32} {n : Nat} (e : manyA nu wh = n) (h : numP no n) : manyK nu wh no = 0 := by
  subst e
  unfold manyK
  rw [kt_f (not_not_intro h)]
theorem num_no {v : Int32} : ¬ numP v 0 := fun h => absurd h.2 (Nat.not_lt_zero _)
set_option maxHeartbeats 400000 in
set_option maxRecDepth 100000 in
/-- many -/
theorem c_R_many (l : Launch) (hfl : l.flags = flags0) (G : xT) (M : xMem) (sz : Nat) (fz : Nat) (ad : Nat → Nat → Nat) (nu : Nat → Nat → Nat) (sg : Nat → Nat → Int32) (hR : cRep G M fz ad nu sg) (wh no : Int32) (h20 : nu 6 0 ≤ 20) (h8 : nu 21 0 ≤ 8) (h4 : nu 12 0 ≤ 4) : xMet l G y_R_many (Cond.code y_R_many b_R_many 3 (Option.some Jvm.ClassFile.FieldType.int) :: x_tbl) { frames := 7, cells := 1, slots := 6, locals := 103 } [.ref (ad 14 0), .int wh, .int no] M sz (fun u M' => u = some (.int (nI (manyV nu wh no))) ∧ manyK nu wh no = 0 ∧ M' = M) (fun X M' => M' = M ∧ (manyK nu wh no = 1 ∧ X = "java/lang/IndexOutOfBoundsException")) := by
  refine xMet.of (by decide) (Nat.le_of_ble_eq_true rfl) ?_
  intro p e s m below meth c ls hC hr hnm hno hsz hw hl
  obtain ⟨hx, hb, hown, hts, hK, hml, hlk, hz⟩ := id hC
  have hl : lv_has ls 3 [(0, .ref (ad 14 0)), (1, .int wh), (2, .int no)] := hl
  refine lv_iload_n hx hb d_R_many_0 rfl (lv_at hl 1 rfl) ?_
  by_cases ct_0 : wh = nI 0
  · refine x_vi (y := nI 0) ct_0 ?_
    refine lv_tableIn (off := 31) (tgt := 32) hx hb d_R_many_1 (by decide +kernel) (by decide +kernel) (by decide +kernel) (by decide) ?_
    refine lv_aload_n hx hb d_R_many_32 rfl (lv_at hl 0 rfl) ?_
    have hc1 := hR.rc
    refine x_get hC hw hc1 rfl 0 (by decide) (hts _ k_176) (fun _ h9 => h9) rfl d_R_many_33 ?_
    refine lv_iload_n hx hb d_R_many_36 rfl (lv_at hl 2 rfl) ?_
    obtain ⟨mc2, hc2⟩ := hR.la (k := 0) (by decide)
    refine x_callG hC (c_R_rowOf0 l hfl G M (Array.size s.heap) fz ad nu sg hR no h20) k_298 k_1 ⟨Nat.le_of_ble_eq_true rfl, Nat.le_of_ble_eq_true rfl⟩ ⟨Nat.le_of_ble_eq_true rfl, Nat.le_of_ble_eq_true rfl⟩ hw hl.1 (Nat.le_of_ble_eq_true rfl) d_R_many_37 (x_ivS hC k_298 k_296 k_297 k_1 (show _ ∧ _ ∧ _ = some 2 from by decide +kernel) rfl d_R_many_37) (fun rv M3 H locs hq hw => ?_) (fun x X M9 H locs hth hxT hw => x_out hC hno hw hxT (by obtain ⟨rfl, hno9, rfl⟩ := hth; exact ⟨rfl, manyK_t (by rw [ct_0]; exact many_0 nu) hno9, rfl⟩) (Nat.le_of_ble_eq_true rfl) (Nat.le_of_ble_eq_true rfl))
    obtain ⟨rfl, hn1, hM⟩ := hq
    subst M3
    refine W.eq (g2 := F0 m 40 ls [.ref (ad 2 (cN no))]) rfl ?_
    have hs9 := hn1.2
    have hc4 := hR.row (r := cN no) (by omega)
    refine x_get hC hw hc4 rfl 2 (by decide) (hts _ k_94) (u_same (hts _ k_87)) rfl d_R_many_40 ?_
    exact x_iret hC hr hw (⟨congrArg (fun z => some (Value.int z)) ((by rw [ct_0, manyV_0])), manyK_f (by rw [ct_0]; exact many_0 nu) hn1, rfl⟩) (Nat.le_of_ble_eq_true rfl) (Nat.le_of_ble_eq_true rfl) d_R_many_43
  by_cases ct_1 : wh = nI 1
  · refine x_vi (y := nI 1) ct_1 ?_
    refine lv_tableIn (off := 43) (tgt := 44) hx hb d_R_many_1 (by decide +kernel) (by decide +kernel) (by decide +kernel) (by decide) ?_
    refine lv_aload_n hx hb d_R_many_44 rfl (lv_at hl 0 rfl) ?_
    have hc5 := hR.rc
    refine x_get hC hw hc5 rfl 1 (by decide) (hts _ k_177) (fun _ h9 => h9) rfl d_R_many_45 ?_
    refine lv_iload_n hx hb d_R_many_48 rfl (lv_at hl 2 rfl) ?_
    obtain ⟨mc6, hc6⟩ := hR.la (k := 1) (by decide)
    refine x_callG hC (c_R_rowOf1 l hfl G M (Array.size s.heap) fz ad nu sg hR no h20) k_298 k_1 ⟨Nat.le_of_ble_eq_true rfl, Nat.le_of_ble_eq_true rfl⟩ ⟨Nat.le_of_ble_eq_true rfl, Nat.le_of_ble_eq_true rfl⟩ hw hl.1 (Nat.le_of_ble_eq_true rfl) d_R_many_49 (x_ivS hC k_298 k_296 k_297 k_1 (show _ ∧ _ ∧ _ = some 2 from by decide +kernel) rfl d_R_many_49) (fun rv M7 H locs hq hw => ?_) (fun x X M9 H locs hth hxT hw => x_out hC hno hw hxT (by obtain ⟨rfl, hno9, rfl⟩ := hth; exact ⟨rfl, manyK_t (by rw [ct_1]; exact many_1 nu) hno9, rfl⟩) (Nat.le_of_ble_eq_true rfl) (Nat.le_of_ble_eq_true rfl))
    obtain ⟨rfl, hn1, hM⟩ := hq
    subst M7
    refine W.eq (g2 := F0 m 52 ls [.ref (ad 2 (4 + cN no))]) rfl ?_
    have hs9 := hn1.2
    have hc8 := hR.row (r := 4 + cN no) (by omega)
    refine x_get hC hw hc8 rfl 2 (by decide) (hts _ k_94) (u_same (hts _ k_87)) rfl d_R_many_52 ?_
    exact x_iret hC hr hw (⟨congrArg (fun z => some (Value.int z)) ((by rw [ct_1, manyV_1])), manyK_f (by rw [ct_1]; exact many_1 nu) hn1, rfl⟩) (Nat.le_of_ble_eq_true rfl) (Nat.le_of_ble_eq_true rfl) d_R_many_55
  by_cases ct_2 : wh = nI 2
  · refine x_vi (y := nI 2) ct_2 ?_
    refine lv_tableIn (off := 55) (tgt := 56) hx hb d_R_many_1 (by decide +kernel) (by decide +kernel) (by decide +kernel) (by decide) ?_
    refine lv_aload_n hx hb d_R_many_56 rfl (lv_at hl 0 rfl) ?_
    refine lv_iload_n hx hb d_R_many_57 rfl (lv_at hl 2 rfl) ?_
    have hc9 := hR.rc
    refine x_callG hC (c_R_storeOf l hfl G M (Array.size s.heap) fz ad nu sg hR no h8) k_569 k_1 ⟨Nat.le_of_ble_eq_true rfl, Nat.le_of_ble_eq_true rfl⟩ ⟨Nat.le_of_ble_eq_true rfl, Nat.le_of_ble_eq_true rfl⟩ hw hl.1 (Nat.le_of_ble_eq_true rfl) d_R_many_58 (x_ivV hC k_569 k_566 k_568 kp_9 (show _ ∧ _ ∧ _ = some 1 from by decide +kernel) (x_recv hC hw hc9 rfl) rfl d_R_many_58) (fun rv M10 H locs hq hw => ?_) (fun x X M9 H locs hth hxT hw => x_out hC hno hw hxT (by obtain ⟨rfl, hno9, rfl⟩ := hth; exact ⟨rfl, manyK_t (by rw [ct_2]; exact many_2 nu) hno9, rfl⟩) (Nat.le_of_ble_eq_true rfl) (Nat.le_of_ble_eq_true rfl))
    obtain ⟨rfl, hn1, hM⟩ := hq
    subst M10
    refine W.eq (g2 := F0 m 61 ls [.ref (ad 8 (cN no))]) rfl ?_
    have hs9 := hn1.2
    have hc11 := hR.so (t := cN no) (by omega)
    refine x_get hC hw hc11 rfl 1 (by decide) (hts _ k_550) (fun _ h9 => h9) rfl d_R_many_61 ?_
    exact x_iret hC hr hw (⟨congrArg (fun z => some (Value.int z)) ((by rw [ct_2, manyV_2])), manyK_f (by rw [ct_2]; exact many_2 nu) hn1, rfl⟩) (Nat.le_of_ble_eq_true rfl) (Nat.le_of_ble_eq_true rfl) d_R_many_64
  by_cases ct_3 : wh = nI 3
  · refine x_vi (y := nI 3) ct_3 ?_
    refine lv_tableIn (off := 64) (tgt := 65) hx hb d_R_many_1 (by decide +kernel) (by decide +kernel) (by decide +kernel) (by decide) ?_
    refine lv_aload_n hx hb d_R_many_65 rfl (lv_at hl 0 rfl) ?_
    refine lv_iload_n hx hb d_R_many_66 rfl (lv_at hl 2 rfl) ?_
    have hc12 := hR.rc
    refine x_callG hC (c_R_wordOf l hfl G M (Array.size s.heap) fz ad nu sg hR no h4) k_499 k_1 ⟨Nat.le_of_ble_eq_true rfl, Nat.le_of_ble_eq_true rfl⟩ ⟨Nat.le_of_ble_eq_true rfl, Nat.le_of_ble_eq_true rfl⟩ hw hl.1 (Nat.le_of_ble_eq_true rfl) d_R_many_67 (x_ivV hC k_499 k_496 k_498 kp_8 (show _ ∧ _ ∧ _ = some 1 from by decide +kernel) (x_recv hC hw hc12 rfl) rfl d_R_many_67) (fun rv M13 H locs hq hw => ?_) (fun x X M9 H locs hth hxT hw => x_out hC hno hw hxT (by obtain ⟨rfl, hno9, rfl⟩ := hth; exact ⟨rfl, manyK_t (by rw [ct_3]; exact many_3 nu) hno9, rfl⟩) (Nat.le_of_ble_eq_true rfl) (Nat.le_of_ble_eq_true rfl))
    obtain ⟨rfl, hn1, hM⟩ := hq
    subst M13
    refine W.eq (g2 := F0 m 70 ls [.ref (ad 5 (cN no))]) rfl ?_
    have hs9 := hn1.2
    have hc14 := hR.wo (w := cN no) (by omega)
    refine x_get hC hw hc14 rfl 0 (by decide) (hts _ k_482) (fun _ h9 => h9) rfl d_R_many_70 ?_
    exact x_iret hC hr hw (⟨congrArg (fun z => some (Value.int z)) ((by rw [ct_3, manyV_3])), manyK_f (by rw [ct_3]; exact many_3 nu) hn1, rfl⟩) (Nat.le_of_ble_eq_true rfl) (Nat.le_of_ble_eq_true rfl) d_R_many_73
  refine lv_tableOut (tgt := 74) hx hb d_R_many_1 (x_tabO (n := 3) (by decide) (x_all4 ct_0 ct_1 ct_2 ct_3)) (by decide) ?_
  exact x_throw hfl hC hno hw k_299 k_300 k_17 x_str_175 (by decide +kernel) hat_IO d_R_many_74 d_R_many_77 d_R_many_78 d_R_many_80 d_R_many_83 hl.1 (Nat.le_of_ble_eq_true rfl) (Nat.le_of_ble_eq_true rfl) (Nat.le_of_ble_eq_true rfl) (Nat.le_of_ble_eq_true rfl) (⟨rfl, manyK_t (many_out ct_0 ct_1 ct_2 ct_3) num_no, rfl⟩) (Nat.le_of_ble_eq_true rfl) (Nat.le_of_ble_eq_true rfl)

theorem at_1 {of : Int32} (h : numP of 2) (h0 : ¬ of = 0) : of = nI 1 := by
  have h2 := h.2
  rw [h.1] at h0 ⊢
  have : cN of = 0 ∨ cN of = 1 := by omega
  rcases this with z | z
  · rw [z] at h0
    exact absurd nI_0 h0
  · rw [z]
section ATK
variable {nu : Nat → Nat → Nat} {of no i wh : Int32}
theorem at_b9 (h : ¬ numP of 2) : atK nu of no i wh = 1 := by
  unfold atK
  rw [kt_t]
  rintro ⟨z, -⟩
  rcases z with z | z
  · exact h (by rw [z.1, ← nI_0]; exact num_of (by decide) (by decide))
  · exact h (by rw [z.1]; exact num_of (by decide) (by decide))
theorem at_b0 (e : of = 0) (h : ¬ numP no 4) : atK nu of no i wh = 1 := by
  unfold atK
  rw [kt_t]
  rintro ⟨z, -⟩
  rcases z with z | z
  · exact h z.2
  · rw [e] at z
    exact absurd z.1 (by decide +kernel)
theorem at_b1 (e : of = nI 1) (h : ¬ numP no (nu 6 0)) : atK nu of no i wh = 1 := by
  unfold atK
  rw [kt_t]
  rintro ⟨z, -⟩
  rcases z with z | z
  · rw [e] at z
    exact absurd z.1 (by decide +kernel)
  · exact h z.2
theorem at_b2 {r : Nat} (e : rowN of no = r) (h : ¬ numP i (nu 1 r)) : atK nu of no i wh = 1 := by
  unfold atK
  rw [e, kt_t]
  rintro ⟨-, z, -⟩
  exact h z
theorem at_b3 (h : ¬ numP wh 4) : atK nu of no i wh = 1 := by
  unfold atK
  rw [kt_t]
  rintro ⟨-, -, z⟩
  exact h z
theorem at_ok {r : Nat} (h1 : of = 0 ∧ numP no 4 ∨ of = nI 1 ∧ numP no (nu 6 0)) (e : rowN of no = r) (h2 : numP i (nu 1 r)) (h3 : numP wh 4) : atK nu of no i wh = 0 := by
  unfold atK
  rw [e, kt_f (not_not_intro ⟨h1, h2, h3⟩)]
end ATK
set_option maxHeartbeats 400000 in
set_option maxRecDepth 100000 in
/-- at -/
theorem c_R_at (l : Launch) (hfl : l.flags = flags0) (G : xT) (M : xMem) (sz : Nat) (fz : Nat) (ad : Nat → Nat → Nat) (nu : Nat → Nat → Nat) (sg : Nat → Nat → Int32) (hR : cRep G M fz ad nu sg) (of no i wh : Int32) (h20 : nu 6 0 ≤ 20) (h40 : ∀ r, nu 1 r ≤ 40) : xMet l G y_R_at (Cond.code y_R_at b_R_at 6 (Option.some Jvm.ClassFile.FieldType.int) :: x_tbl) { frames := 7, cells := 4, slots := 24, locals := 103 } [.ref (ad 14 0), .int of, .int no, .int i, .int wh] M sz (fun u M' => u = some (.int (sg (2 + cN wh) (40 * rowN of no + cN i))) ∧ atK nu of no i wh = 0 ∧ M' = M) (fun X M' => M' = M ∧ (atK nu of no i wh = 1 ∧ X = "java/lang/IndexOutOfBoundsException")) := by
  refine xMet.of (by decide) (Nat.le_of_ble_eq_true rfl) ?_
  intro p e s m below meth c ls hC hr hnm hno hsz hw hl
  obtain ⟨hx, hb, hown, hts, hK, hml, hlk, hz⟩ := id hC
  have hl : lv_has ls 6 [(0, .ref (ad 14 0)), (1, .int of), (2, .int no), (3, .int i), (4, .int wh)] := hl
  refine lv_iload_n hx hb d_R_at_0 rfl (lv_at hl 1 rfl) ?_
  refine lv_iconst (v := nI 2) hx hb d_R_at_1 (by decide) ?_
  refine x_callG hC (c_R_checkNumber l hfl G M (Array.size s.heap) (of) (2) (by omega)) k_439 k_1 ⟨Nat.le_of_ble_eq_true rfl, Nat.le_of_ble_eq_true rfl⟩ ⟨Nat.le_of_ble_eq_true rfl, Nat.le_of_ble_eq_true rfl⟩ hw hl.1 (Nat.le_of_ble_eq_true rfl) d_R_at_2 (x_ivS hC k_439 k_437 k_438 k_1 (show _ ∧ _ ∧ _ = some 2 from by decide +kernel) rfl d_R_at_2) (fun rv M1 H locs hq hw => ?_) (fun x X M9 H locs hth hxT hw => x_out hC hno hw hxT (by obtain ⟨rfl, hno9, rfl⟩ := hth; exact ⟨rfl, ⟨at_b9 hno9, rfl⟩⟩) (Nat.le_of_ble_eq_true rfl) (Nat.le_of_ble_eq_true rfl))
  obtain ⟨rfl, hn1, hM⟩ := hq
  subst M1
  refine W.eq (g2 := F0 m 5 ls []) rfl ?_
  refine lv_iload_n hx hb d_R_at_5 rfl (lv_at hl 1 rfl) ?_
  refine lv_if_ne (tgt := 16) hx hb d_R_at_6 (by decide) (fun c_6 => ?_) (fun c_6 => ?_)
  · refine lv_aload_n hx hb d_R_at_16 rfl (lv_at hl 0 rfl) ?_
    have hc2 := hR.rc
    refine x_get hC hw hc2 rfl 1 (by decide) (hts _ k_177) (fun _ h9 => h9) rfl d_R_at_17 ?_
    refine lv_iload_n hx hb d_R_at_20 rfl (lv_at hl 2 rfl) ?_
    have e_of : of = nI 1 := at_1 hn1 c_6
    obtain ⟨mc3, hc3⟩ := hR.la (k := 1) (by decide)
    refine x_callG hC (c_R_rowOf1 l hfl G M (Array.size H) fz ad nu sg hR no h20) k_298 k_1 ⟨Nat.le_of_ble_eq_true rfl, Nat.le_of_ble_eq_true rfl⟩ ⟨Nat.le_of_ble_eq_true rfl, Nat.le_of_ble_eq_true rfl⟩ hw hl.1 (Nat.le_of_ble_eq_true rfl) d_R_at_21 (x_ivS hC k_298 k_296 k_297 k_1 (show _ ∧ _ ∧ _ = some 2 from by decide +kernel) rfl d_R_at_21) (fun rv M4 H locs hq hw => ?_) (fun x X M9 H locs hth hxT hw => x_out hC hno hw hxT (by obtain ⟨rfl, hno9, rfl⟩ := hth; exact ⟨rfl, at_b1 e_of hno9, rfl⟩) (Nat.le_of_ble_eq_true rfl) (Nat.le_of_ble_eq_true rfl))
    obtain ⟨rfl, hn2, hM⟩ := hq
    subst M4
    refine W.eq (g2 := F0 m 24 ls [.ref (ad 2 (4 + cN no))]) rfl ?_
    have hs9 := hn2.2
    have hr9 : rowN of no = 4 + cN no := by unfold rowN; rw [kt_f c_6]
    have h409 := h40 (4 + cN no)
    refine lv_astore (lv' := [(5, .ref (ad 2 (4 + cN no))), (0, .ref (ad 14 0)), (1, .int of), (2, .int no), (3, .int i), (4, .int wh)]) hx hb d_R_at_24 hl (by decide) rfl (fun ls hl => ?_)
    refine lv_iload_n hx hb d_R_at_26 rfl (lv_at hl 4 rfl) ?_
    refine lv_aload hx hb d_R_at_27 (lv_at hl 0 rfl) ?_
    have hc5 := hR.row (r := 4 + cN no) (by omega)
    refine x_get hC hw hc5 rfl 2 (by decide) (hts _ k_94) (u_same (hts _ k_87)) rfl d_R_at_29 ?_
    refine x_callG hC (c_R_checkNumber l hfl G M (Array.size H) (i) (nu 1 (4 + cN no)) (by omega)) k_439 k_1 ⟨Nat.le_of_ble_eq_true rfl, Nat.le_of_ble_eq_true rfl⟩ ⟨Nat.le_of_ble_eq_true rfl, Nat.le_of_ble_eq_true rfl⟩ hw hl.1 (Nat.le_of_ble_eq_true rfl) d_R_at_32 (x_ivS hC k_439 k_437 k_438 k_1 (show _ ∧ _ ∧ _ = some 2 from by decide +kernel) rfl d_R_at_32) (fun rv M6 H locs hq hw => ?_) (fun x X M9 H locs hth hxT hw => x_out hC hno hw hxT (by obtain ⟨rfl, hno9, rfl⟩ := hth; exact ⟨rfl, ⟨at_b2 hr9 hno9, rfl⟩⟩) (Nat.le_of_ble_eq_true rfl) (Nat.le_of_ble_eq_true rfl))
    obtain ⟨rfl, hn3, hM⟩ := hq
    subst M6
    refine W.eq (g2 := F0 m 35 ls []) rfl ?_
    refine lv_iload hx hb d_R_at_35 (lv_at hl 5 rfl) ?_
    refine lv_iconst (v := nI 4) hx hb d_R_at_37 (by decide) ?_
    refine x_callG hC (c_R_checkNumber l hfl G M (Array.size H) (wh) (4) (by omega)) k_439 k_1 ⟨Nat.le_of_ble_eq_true rfl, Nat.le_of_ble_eq_true rfl⟩ ⟨Nat.le_of_ble_eq_true rfl, Nat.le_of_ble_eq_true rfl⟩ hw hl.1 (Nat.le_of_ble_eq_true rfl) d_R_at_38 (x_ivS hC k_439 k_437 k_438 k_1 (show _ ∧ _ ∧ _ = some 2 from by decide +kernel) rfl d_R_at_38) (fun rv M7 H locs hq hw => ?_) (fun x X M9 H locs hth hxT hw => x_out hC hno hw hxT (by obtain ⟨rfl, hno9, rfl⟩ := hth; exact ⟨rfl, ⟨at_b3 hno9, rfl⟩⟩) (Nat.le_of_ble_eq_true rfl) (Nat.le_of_ble_eq_true rfl))
    obtain ⟨rfl, hn4, hM⟩ := hq
    subst M7
    refine W.eq (g2 := F0 m 41 ls []) rfl ?_
    refine lv_aload hx hb d_R_at_41 (lv_at hl 0 rfl) ?_
    refine lv_iload_n hx hb d_R_at_43 rfl (lv_at hl 4 rfl) ?_
    refine x_vi (y := nI (cN i)) hn3.1 ?_
    refine lv_iload hx hb d_R_at_44 (lv_at hl 5 rfl) ?_
    refine x_vi (y := nI (cN wh)) hn4.1 ?_
    have hi9 := hn3.2
    have hw9 := hn4.2
    obtain ⟨p8, hc8, hp8⟩ := hR.pa (r := 4 + cN no) (by omega)
    refine x_callG hC (c_S_part l G M (Array.size H) (ad 2 (4 + cN no)) (ad 3 (4 + cN no)) (cN i) (cN wh) (nI (nu 1 (4 + cN no))) (nI (nmb (4 + cN no))) p8 (by omega) (by omega) hc5 hc8) k_234 k_8 ⟨Nat.le_of_ble_eq_true rfl, Nat.le_of_ble_eq_true rfl⟩ ⟨Nat.le_of_ble_eq_true rfl, Nat.le_of_ble_eq_true rfl⟩ hw hl.1 (Nat.le_of_ble_eq_true rfl) d_R_at_46 (x_ivV hC k_234 k_598 k_232 k_233 (show _ ∧ _ ∧ _ = some 2 from by decide +kernel) (x_recv hC hw hc5 rfl) rfl d_R_at_46) (fun rv M9 H locs hq hw => ?_) (fun _ _ _ _ _ h _ _ => h.elim)
    obtain ⟨rfl, hM⟩ := hq
    subst M9
    refine W.eq (g2 := F0 m 49 ls [.int (p8 (cN i * 4 + cN wh))]) rfl ?_
    exact x_iret hC hr hw (⟨congrArg (fun z => some (Value.int z)) ((by rw [hr9]; exact x_part4 hw9 (hp8 _ hi9))), at_ok (Or.inr ⟨e_of, hn2⟩) hr9 hn3 hn4, rfl⟩) (Nat.le_of_ble_eq_true rfl) (Nat.le_of_ble_eq_true rfl) d_R_at_49
  · refine lv_aload_n hx hb d_R_at_9 rfl (lv_at hl 0 rfl) ?_
    have hc10 := hR.rc
    refine x_get hC hw hc10 rfl 0 (by decide) (hts _ k_176) (fun _ h9 => h9) rfl d_R_at_10 ?_
    refine lv_goto (tgt := 20) hx hb d_R_at_13 (by decide) ?_
    refine lv_iload_n hx hb d_R_at_20 rfl (lv_at hl 2 rfl) ?_
    have e_of : of = 0 := c_6
    obtain ⟨mc11, hc11⟩ := hR.la (k := 0) (by decide)
    refine x_callG hC (c_R_rowOf0 l hfl G M (Array.size H) fz ad nu sg hR no h20) k_298 k_1 ⟨Nat.le_of_ble_eq_true rfl, Nat.le_of_ble_eq_true rfl⟩ ⟨Nat.le_of_ble_eq_true rfl, Nat.le_of_ble_eq_true rfl⟩ hw hl.1 (Nat.le_of_ble_eq_true rfl) d_R_at_21 (x_ivS hC k_298 k_296 k_297 k_1 (show _ ∧ _ ∧ _ = some 2 from by decide +kernel) rfl d_R_at_21) (fun rv M12 H locs hq hw => ?_) (fun x X M9 H locs hth hxT hw => x_out hC hno hw hxT (by obtain ⟨rfl, hno9, rfl⟩ := hth; exact ⟨rfl, at_b0 e_of hno9, rfl⟩) (Nat.le_of_ble_eq_true rfl) (Nat.le_of_ble_eq_true rfl))
    obtain ⟨rfl, hn2, hM⟩ := hq
    subst M12
    refine W.eq (g2 := F0 m 24 ls [.ref (ad 2 (cN no))]) rfl ?_
    have hs9 := hn2.2
    have hr9 : rowN of no = cN no := by unfold rowN; rw [kt_t e_of]
    have h409 := h40 (cN no)
    refine lv_astore (lv' := [(5, .ref (ad 2 (cN no))), (0, .ref (ad 14 0)), (1, .int of), (2, .int no), (3, .int i), (4, .int wh)]) hx hb d_R_at_24 hl (by decide) rfl (fun ls hl => ?_)
    refine lv_iload_n hx hb d_R_at_26 rfl (lv_at hl 4 rfl) ?_
    refine lv_aload hx hb d_R_at_27 (lv_at hl 0 rfl) ?_
    have hc13 := hR.row (r := cN no) (by omega)
    refine x_get hC hw hc13 rfl 2 (by decide) (hts _ k_94) (u_same (hts _ k_87)) rfl d_R_at_29 ?_
    refine x_callG hC (c_R_checkNumber l hfl G M (Array.size H) (i) (nu 1 (cN no)) (by omega)) k_439 k_1 ⟨Nat.le_of_ble_eq_true rfl, Nat.le_of_ble_eq_true rfl⟩ ⟨Nat.le_of_ble_eq_true rfl, Nat.le_of_ble_eq_true rfl⟩ hw hl.1 (Nat.le_of_ble_eq_true rfl) d_R_at_32 (x_ivS hC k_439 k_437 k_438 k_1 (show _ ∧ _ ∧ _ = some 2 from by decide +kernel) rfl d_R_at_32) (fun rv M14 H locs hq hw => ?_) (fun x X M9 H locs hth hxT hw => x_out hC hno hw hxT (by obtain ⟨rfl, hno9, rfl⟩ := hth; exact ⟨rfl, ⟨at_b2 hr9 hno9, rfl⟩⟩) (Nat.le_of_ble_eq_true rfl) (Nat.le_of_ble_eq_true rfl))
    obtain ⟨rfl, hn3, hM⟩ := hq
    subst M14
    refine W.eq (g2 := F0 m 35 ls []) rfl ?_
    refine lv_iload hx hb d_R_at_35 (lv_at hl 5 rfl) ?_
    refine lv_iconst (v := nI 4) hx hb d_R_at_37 (by decide) ?_
    refine x_callG hC (c_R_checkNumber l hfl G M (Array.size H) (wh) (4) (by omega)) k_439 k_1 ⟨Nat.le_of_ble_eq_true rfl, Nat.le_of_ble_eq_true rfl⟩ ⟨Nat.le_of_ble_eq_true rfl, Nat.le_of_ble_eq_true rfl⟩ hw hl.1 (Nat.le_of_ble_eq_true rfl) d_R_at_38 (x_ivS hC k_439 k_437 k_438 k_1 (show _ ∧ _ ∧ _ = some 2 from by decide +kernel) rfl d_R_at_38) (fun rv M15 H locs hq hw => ?_) (fun x X M9 H locs hth hxT hw => x_out hC hno hw hxT (by obtain ⟨rfl, hno9, rfl⟩ := hth; exact ⟨rfl, ⟨at_b3 hno9, rfl⟩⟩) (Nat.le_of_ble_eq_true rfl) (Nat.le_of_ble_eq_true rfl))
    obtain ⟨rfl, hn4, hM⟩ := hq
    subst M15
    refine W.eq (g2 := F0 m 41 ls []) rfl ?_
    refine lv_aload hx hb d_R_at_41 (lv_at hl 0 rfl) ?_
    refine lv_iload_n hx hb d_R_at_43 rfl (lv_at hl 4 rfl) ?_
    refine x_vi (y := nI (cN i)) hn3.1 ?_
    refine lv_iload hx hb d_R_at_44 (lv_at hl 5 rfl) ?_
    refine x_vi (y := nI (cN wh)) hn4.1 ?_
    have hi9 := hn3.2
    have hw9 := hn4.2
    obtain ⟨p16, hc16, hp16⟩ := hR.pa (r := cN no) (by omega)
    refine x_callG hC (c_S_part l G M (Array.size H) (ad 2 (cN no)) (ad 3 (cN no)) (cN i) (cN wh) (nI (nu 1 (cN no))) (nI (nmb (cN no))) p16 (by omega) (by omega) hc13 hc16) k_234 k_8 ⟨Nat.le_of_ble_eq_true rfl, Nat.le_of_ble_eq_true rfl⟩ ⟨Nat.le_of_ble_eq_true rfl, Nat.le_of_ble_eq_true rfl⟩ hw hl.1 (Nat.le_of_ble_eq_true rfl) d_R_at_46 (x_ivV hC k_234 k_598 k_232 k_233 (show _ ∧ _ ∧ _ = some 2 from by decide +kernel) (x_recv hC hw hc13 rfl) rfl d_R_at_46) (fun rv M17 H locs hq hw => ?_) (fun _ _ _ _ _ h _ _ => h.elim)
    obtain ⟨rfl, hM⟩ := hq
    subst M17
    refine W.eq (g2 := F0 m 49 ls [.int (p16 (cN i * 4 + cN wh))]) rfl ?_
    exact x_iret hC hr hw (⟨congrArg (fun z => some (Value.int z)) ((by rw [hr9]; exact x_part4 hw9 (hp16 _ hi9))), at_ok (Or.inl ⟨e_of, hn2⟩) hr9 hn3 hn4, rfl⟩) (Nat.le_of_ble_eq_true rfl) (Nat.le_of_ble_eq_true rfl) d_R_at_49
