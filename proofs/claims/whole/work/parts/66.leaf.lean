theorem nI_127 (n : Nat) : (nI n &&& nI 127) = nI (n % 128) := by
  refine Int32.toBitVec_inj.mp ?_
  rw [Int32.toBitVec_and]
  show BitVec.ofNat 32 n &&& BitVec.ofNat 32 127 = BitVec.ofNat 32 (n % 128)
  apply BitVec.eq_of_toNat_eq
  rw [BitVec.toNat_and, BitVec.toNat_ofNat, BitVec.toNat_ofNat, BitVec.toNat_ofNat]
  rw [show (127 % 2 ^ 32 : Nat) = 2 ^ 7 - 1 from rfl, Nat.and_two_pow_sub_one_eq_mod]
  show n % 2 ^ 32 % 128 = n % 128 % 2 ^ 32
  omega
theorem pop_a {x : Nat} (hx : x < 2 ^ 64) : (x / 2 &&& 6148914691236517205) ≤ x ∧ x - (x / 2 &&& 6148914691236517205) = pw_1 32 x := by
  have h5 : (6148914691236517205 : Nat) = pw_5 32 := by decide +kernel
  have h4 : (4 : Nat) ^ 32 = 2 ^ 64 := by decide +kernel
  rw [h5]
  exact pw_s1 32 x (by rw [h4]; exact hx)
theorem pop_b (x : Nat) : (pw_1 32 x &&& 3689348814741910323) + (pw_1 32 x / 4 &&& 3689348814741910323) = pw_2 16 x := by
  have h3 : (3689348814741910323 : Nat) = pw_3 16 := by decide +kernel
  rw [h3]
  exact pw_s2 16 x
theorem pop_c (x : Nat) : (pw_2 16 x + pw_2 16 x / 16) &&& 1085102592571150095 = pw_4 8 x := by
  have hf : (1085102592571150095 : Nat) = pw_f 8 := by decide +kernel
  rw [hf]
  exact pw_s4 8 x
theorem pop_end {x : Nat} (hx : x < 2 ^ 64) {n : Nat} (h : n = pcN 64 x) : nI n = nI (cnt (bitP (lN x)) 64) := by
  rw [h, pcN_cnt]
  refine congrArg nI (cnt_c (fun k hk => ?_))
  rw [bitP_lN hx hk, ← bt_iff]
theorem pop_lt {x : Nat} : pw_1 32 x < 2 ^ 64 ∧ pw_2 16 x < 2 ^ 64 ∧ pw_2 16 x + pw_2 16 x / 16 < 2 ^ 64 := by
  have a := pw_1_lt 32 x
  have b := pw_2_lt 16 x
  have h4 : (4 : Nat) ^ 32 = 2 ^ 64 := by decide +kernel
  have h16 : (16 : Nat) ^ 16 = 2 ^ 64 := by decide +kernel
  rw [h4] at a
  rw [h16] at b
  have c := pw_2_half 16 x
  rw [h16] at c
  refine ⟨a, b, ?_⟩
  rcases c with c | c
  · omega
  · cases c
set_option maxHeartbeats 400000 in
set_option maxRecDepth 100000 in
/-- Long.bitCount -/
theorem c_LNG_bitCount (l : Launch) (G : xT) (M : xMem) (sz : Nat) (X : Nat) (hX : X < 2 ^ 64) : xMet l G y_LNG_bitCount (Cond.code y_LNG_bitCount b_LNG_bitCount 2 (Option.some Jvm.ClassFile.FieldType.int) :: x_tbl) { frames := 0, cells := 0, slots := 0, locals := 0 } [.long (lN X)] M sz (fun u M' => u = some (.int (nI (cnt (bitP (lN X)) 64))) ∧ M' = M) (fun _ _ => False) := by
  refine xMet.of (by decide) (Nat.le_of_ble_eq_true rfl) ?_
  intro p e s m below meth c ls hC hr hnm hno hsz hw hl
  obtain ⟨hx, hb, hown, hts, hK, hml, hlk, hz⟩ := id hC
  have hl : lv_has ls 2 [(0, .long (lN X))] := hl
  have pl := pop_lt (x := X)
  have pa := pop_a hX
  obtain ⟨c0, c1, c2, c3, c4, c5, c6, c7, h0, h1, h2, h3, h4, h5, h6, h7, hp, pq⟩ := pw_8 X hX
  have pe := pw_end _ c0 c1 c2 c3 c4 c5 c6 c7 h0 h1 h2 h3 h4 h5 h6 h7 hp
  refine lv_lload_n hx hb d_LNG_bitCount_0 rfl (lv_at hl 0 rfl) ?_
  refine lv_lload_n hx hb d_LNG_bitCount_1 rfl (lv_at hl 0 rfl) ?_
  refine lv_iconst (v := nI 1) hx hb d_LNG_bitCount_2 (by decide) ?_
  refine lv_lushr (v := (Int64.toUInt64 (lN X) >>> ((Int32.toInt64 (nI 1)).toUInt64 &&& Int64.toUInt64 63)).toInt64) hx hb d_LNG_bitCount_3 rfl ?_
  refine x_vl (y := lN (X / 2 ^ 1)) (wb_shr hX (by decide)) ?_
  refine lv_ldc2 hx hb hown (hts _ k_648) d_LNG_bitCount_4 ?_
  refine x_vl (y := lN 6148914691236517205) (rfl) ?_
  refine lv_land hx hb d_LNG_bitCount_7 ?_
  refine x_vl (y := lN (X / 2 &&& 6148914691236517205)) (wb_and (Nat.lt_of_le_of_lt (Nat.div_le_self _ _) hX) (by decide)) ?_
  refine lv_lsub hx hb d_LNG_bitCount_8 ?_
  refine x_vl (y := lN (pw_1 32 X)) ((lN_sub pa.1).trans (congrArg lN pa.2)) ?_
  refine lv_lstore_n (lv' := [(0, .long (lN (pw_1 32 X)))]) hx hb d_LNG_bitCount_9 rfl hl (by decide) rfl (fun ls hl => ?_)
  refine lv_lload_n hx hb d_LNG_bitCount_10 rfl (lv_at hl 0 rfl) ?_
  refine lv_ldc2 hx hb hown (hts _ k_649) d_LNG_bitCount_11 ?_
  refine x_vl (y := lN 3689348814741910323) (rfl) ?_
  refine lv_land hx hb d_LNG_bitCount_14 ?_
  refine x_vl (y := lN (pw_1 32 X &&& 3689348814741910323)) (wb_and pl.1 (by decide)) ?_
  refine lv_lload_n hx hb d_LNG_bitCount_15 rfl (lv_at hl 0 rfl) ?_
  refine lv_iconst (v := nI 2) hx hb d_LNG_bitCount_16 (by decide) ?_
  refine lv_lushr (v := (Int64.toUInt64 (lN (pw_1 32 X)) >>> ((Int32.toInt64 (nI 2)).toUInt64 &&& Int64.toUInt64 63)).toInt64) hx hb d_LNG_bitCount_17 rfl ?_
  refine x_vl (y := lN (pw_1 32 X / 2 ^ 2)) (wb_shr pl.1 (by decide)) ?_
  refine lv_ldc2 hx hb hown (hts _ k_649) d_LNG_bitCount_18 ?_
  refine x_vl (y := lN 3689348814741910323) (rfl) ?_
  refine lv_land hx hb d_LNG_bitCount_21 ?_
  refine x_vl (y := lN (pw_1 32 X / 4 &&& 3689348814741910323)) (wb_and (Nat.lt_of_le_of_lt (Nat.div_le_self _ _) pl.1) (by decide)) ?_
  refine lv_ladd hx hb d_LNG_bitCount_22 ?_
  refine x_vl (y := lN (pw_2 16 X)) ((lN_add _ _).trans (congrArg lN (pop_b X))) ?_
  refine lv_lstore_n (lv' := [(0, .long (lN (pw_2 16 X)))]) hx hb d_LNG_bitCount_23 rfl hl (by decide) rfl (fun ls hl => ?_)
  refine lv_lload_n hx hb d_LNG_bitCount_24 rfl (lv_at hl 0 rfl) ?_
  refine lv_lload_n hx hb d_LNG_bitCount_25 rfl (lv_at hl 0 rfl) ?_
  refine lv_iconst (v := nI 4) hx hb d_LNG_bitCount_26 (by decide) ?_
  refine lv_lushr (v := (Int64.toUInt64 (lN (pw_2 16 X)) >>> ((Int32.toInt64 (nI 4)).toUInt64 &&& Int64.toUInt64 63)).toInt64) hx hb d_LNG_bitCount_27 rfl ?_
  refine x_vl (y := lN (pw_2 16 X / 2 ^ 4)) (wb_shr pl.2.1 (by decide)) ?_
  refine lv_ladd hx hb d_LNG_bitCount_28 ?_
  refine x_vl (y := lN (pw_2 16 X + pw_2 16 X / 16)) (lN_add _ _) ?_
  refine lv_ldc2 hx hb hown (hts _ k_650) d_LNG_bitCount_29 ?_
  refine x_vl (y := lN 1085102592571150095) (rfl) ?_
  refine lv_land hx hb d_LNG_bitCount_32 ?_
  refine x_vl (y := lN (pw_4 8 X)) ((wb_and pl.2.2 (by decide)).trans (congrArg lN (pop_c X))) ?_
  refine lv_lstore_n (lv' := [(0, .long (lN (pw_4 8 X)))]) hx hb d_LNG_bitCount_33 rfl hl (by decide) rfl (fun ls hl => ?_)
  refine lv_lload_n hx hb d_LNG_bitCount_34 rfl (lv_at hl 0 rfl) ?_
  refine lv_lload_n hx hb d_LNG_bitCount_35 rfl (lv_at hl 0 rfl) ?_
  refine lv_bipush (v := nI 8) hx hb d_LNG_bitCount_36 (by decide) ?_
  refine lv_lushr (v := (Int64.toUInt64 (lN (pw_4 8 X)) >>> ((Int32.toInt64 (nI 8)).toUInt64 &&& Int64.toUInt64 63)).toInt64) hx hb d_LNG_bitCount_38 rfl ?_
  refine x_vl (y := lN (pw_4 8 X / 2 ^ 8)) (wb_shr (Nat.lt_trans pe.1 (by decide)) (by decide)) ?_
  refine lv_ladd hx hb d_LNG_bitCount_39 ?_
  refine x_vl (y := lN (pw_4 8 X + pw_4 8 X / 256)) (lN_add _ _) ?_
  refine lv_lstore_n (lv' := [(0, .long (lN (pw_4 8 X + pw_4 8 X / 256)))]) hx hb d_LNG_bitCount_40 rfl hl (by decide) rfl (fun ls hl => ?_)
  refine lv_lload_n hx hb d_LNG_bitCount_41 rfl (lv_at hl 0 rfl) ?_
  refine lv_lload_n hx hb d_LNG_bitCount_42 rfl (lv_at hl 0 rfl) ?_
  refine lv_bipush (v := nI 16) hx hb d_LNG_bitCount_43 (by decide) ?_
  refine lv_lushr (v := (Int64.toUInt64 (lN (pw_4 8 X + pw_4 8 X / 256)) >>> ((Int32.toInt64 (nI 16)).toUInt64 &&& Int64.toUInt64 63)).toInt64) hx hb d_LNG_bitCount_45 rfl ?_
  refine x_vl (y := lN ((pw_4 8 X + pw_4 8 X / 256) / 2 ^ 16)) (wb_shr (Nat.lt_trans pe.2.1 (by decide)) (by decide)) ?_
  refine lv_ladd hx hb d_LNG_bitCount_46 ?_
  refine x_vl (y := lN ((pw_4 8 X + pw_4 8 X / 256) + (pw_4 8 X + pw_4 8 X / 256) / 65536)) (lN_add _ _) ?_
  refine lv_lstore_n (lv' := [(0, .long (lN ((pw_4 8 X + pw_4 8 X / 256) + (pw_4 8 X + pw_4 8 X / 256) / 65536)))]) hx hb d_LNG_bitCount_47 rfl hl (by decide) rfl (fun ls hl => ?_)
  refine lv_lload_n hx hb d_LNG_bitCount_48 rfl (lv_at hl 0 rfl) ?_
  refine lv_lload_n hx hb d_LNG_bitCount_49 rfl (lv_at hl 0 rfl) ?_
  refine lv_bipush (v := nI 32) hx hb d_LNG_bitCount_50 (by decide) ?_
  refine lv_lushr (v := (Int64.toUInt64 (lN ((pw_4 8 X + pw_4 8 X / 256) + (pw_4 8 X + pw_4 8 X / 256) / 65536)) >>> ((Int32.toInt64 (nI 32)).toUInt64 &&& Int64.toUInt64 63)).toInt64) hx hb d_LNG_bitCount_52 rfl ?_
  refine x_vl (y := lN (((pw_4 8 X + pw_4 8 X / 256) + (pw_4 8 X + pw_4 8 X / 256) / 65536) / 2 ^ 32)) (wb_shr (Nat.lt_trans pe.2.2.1 (by decide)) (by decide)) ?_
  refine lv_ladd hx hb d_LNG_bitCount_53 ?_
  refine x_vl (y := lN (((pw_4 8 X + pw_4 8 X / 256) + (pw_4 8 X + pw_4 8 X / 256) / 65536) + ((pw_4 8 X + pw_4 8 X / 256) + (pw_4 8 X + pw_4 8 X / 256) / 65536) / 4294967296)) (lN_add _ _) ?_
  refine lv_lstore_n (lv' := [(0, .long (lN (((pw_4 8 X + pw_4 8 X / 256) + (pw_4 8 X + pw_4 8 X / 256) / 65536) + ((pw_4 8 X + pw_4 8 X / 256) + (pw_4 8 X + pw_4 8 X / 256) / 65536) / 4294967296)))]) hx hb d_LNG_bitCount_54 rfl hl (by decide) rfl (fun ls hl => ?_)
  refine lv_lload_n hx hb d_LNG_bitCount_55 rfl (lv_at hl 0 rfl) ?_
  refine lv_l2i (v := Int64.toInt32 (lN (((pw_4 8 X + pw_4 8 X / 256) + (pw_4 8 X + pw_4 8 X / 256) / 65536) + ((pw_4 8 X + pw_4 8 X / 256) + (pw_4 8 X + pw_4 8 X / 256) / 65536) / 4294967296))) hx hb d_LNG_bitCount_56 rfl ?_
  refine x_vi (y := nI (((pw_4 8 X + pw_4 8 X / 256) + (pw_4 8 X + pw_4 8 X / 256) / 65536) + ((pw_4 8 X + pw_4 8 X / 256) + (pw_4 8 X + pw_4 8 X / 256) / 65536) / 4294967296)) (lN_i _) ?_
  refine lv_bipush (v := nI 127) hx hb d_LNG_bitCount_57 (by decide) ?_
  refine lv_iand hx hb d_LNG_bitCount_59 ?_
  refine x_vi (y := nI (cnt (bitP (lN X)) 64)) ((nI_127 _).trans (pop_end hX (pe.2.2.2.2.trans pq.symm))) ?_
  exact x_iret hC hr hw (⟨rfl, rfl⟩) (Nat.le_of_ble_eq_true rfl) (Nat.le_of_ble_eq_true rfl) d_LNG_bitCount_60

theorem c_bitCount (l : Launch) (G : xT) (M : xMem) (sz : Nat) (mk : Int64) : xMet l G y_LNG_bitCount (Cond.code y_LNG_bitCount b_LNG_bitCount 2 (Option.some Jvm.ClassFile.FieldType.int) :: x_tbl) { frames := 0, cells := 0, slots := 0, locals := 0 } [.long mk] M sz (fun u M' => u = some (.int (nI (cnt (bitP mk) 64))) ∧ M' = M) (fun _ _ => False) := by
  obtain ⟨X, hX, rfl⟩ := wb_of mk
  exact c_LNG_bitCount l G M sz X hX
set_option maxHeartbeats 400000 in
set_option maxRecDepth 100000 in
/-- Row.cut of S -/
theorem c_S_cut (l : Launch) (G : xT) (M : xMem) (sz : Nat) (r pa n : Nat) (num : Int32) (mk : Int64) (f0 : Nat → Int32) (hn : n ≤ 40) (h_r : M r = some (.inr (1, [.int num, .ref pa, .int (nI n)]))) (h_p : M pa = some (.inl (G.2.1 0, 160, .inl f0))) : xMet l G y_O_cut (Cond.code y_O_cut b_O_cut 7 none :: x_tbl) { frames := 2, cells := 0, slots := 0, locals := 48 } [.ref r, .long mk] M sz (fun u M' => u = none ∧ ∃ f : Nat → Int32, M' r = some (.inr (1, [.int num, .ref pa, .int (nI (kp (bitP mk) n))])) ∧ M' pa = some (.inl (G.2.1 0, 160, .inl f)) ∧ cutS (bitP mk) n f0 f ∧ xfr M M' [r, pa]) (fun _ _ => False) := by
  refine xMet.of (by decide) (Nat.le_of_ble_eq_true rfl) ?_
  intro p e s m below meth c ls hC hr hnm hno hsz hw hl
  obtain ⟨hx, hb, hown, hts, hK, hml, hlk, hz⟩ := id hC
  have hl : lv_has ls 7 [(0, .ref r), (1, .long mk)] := hl
  have hF : xfr M M [r, pa] := xfr.rf
  refine lv_iconst (v := nI 0) hx hb d_O_cut_0 (by decide) ?_
  refine x_vi (y := nI (kp (bitP mk) 0)) (rfl) ?_
  refine lv_istore_n (lv' := [(3, .int (nI (kp (bitP mk) 0))), (0, .ref r), (1, .long mk)]) hx hb d_O_cut_1 rfl hl (by decide) rfl (fun ls hl => ?_)
  refine lv_iconst (v := nI 0) hx hb d_O_cut_2 (by decide) ?_
  refine x_vi (y := zI (0 < 0 ∧ bitP mk (0 - 1))) ((zI_f (fun h => absurd h.1 (by decide))).symm) ?_
  refine lv_istore (lv' := [(4, .int (zI (0 < 0 ∧ bitP mk (0 - 1)))), (3, .int (nI (kp (bitP mk) 0))), (0, .ref r), (1, .long mk)]) hx hb d_O_cut_3 hl (by decide) rfl (fun ls hl => ?_)
  refine lv_iconst (v := nI 0) hx hb d_O_cut_5 (by decide) ?_
  refine lv_istore (lv' := [(5, .int (nI 0)), (4, .int (zI (0 < 0 ∧ bitP mk (0 - 1)))), (3, .int (nI (kp (bitP mk) 0))), (0, .ref r), (1, .long mk)]) hx hb d_O_cut_6 hl (by decide) rfl (fun ls hl => ?_)
  have HL8 : ∀ (z8 i : Nat) (f : Nat → Int32), i ≤ n → n + 1 ≤ i + z8 → (cutS (bitP mk) i f0 f) → ∀ (M1 : xMem), ∀ (H : Heap) (locs : List Loc) (ls : Array Slot), M1 r = some (.inr (1, [.int num, .ref pa, .int (nI n)])) → M1 pa = some (.inl (G.2.1 0, 160, .inl f)) → xfr M M1 [r, pa] → xWd G (xA M sz) s.heap M1 H locs → lv_has ls 7 [(0, .ref r), (1, .long mk), (3, .int (nI (kp (bitP mk) i))), (4, .int (zI (0 < i ∧ bitP mk (i - 1)))), (5, .int (nI i))] → W p l e { frames := 2, cells := 0, slots := 0, locals := 48 } s m ([.ref r, .long mk] : List Value).toArray below meth c H locs 0 0 (xMQ below G M sz (fun u M' => u = none ∧ ∃ f : Nat → Int32, M' r = some (.inr (1, [.int num, .ref pa, .int (nI (kp (bitP mk) n))])) ∧ M' pa = some (.inl (G.2.1 0, 160, .inl f)) ∧ cutS (bitP mk) n f0 f ∧ xfr M M' [r, pa]) (fun _ _ => False) s 0 0) (F0 m 8 ls []) := by
    intro z8
    induction z8 with
    | zero =>
      intro i f h1 h2
      omega
    | succ z8 ih8 =>
      intro i f hi8 hz8 hc M1 H locs ls h_r h_p hF hw hl
      refine lv_iload hx hb d_O_cut_8 (lv_at hl 4 rfl) ?_
      refine lv_aload_n hx hb d_O_cut_10 rfl (lv_at hl 0 rfl) ?_
      refine x_get hC hw h_r rfl 2 (by decide) (hts _ k_93) (fun _ h9 => h9) rfl d_O_cut_11 ?_
      refine lv_icmp_ge (tgt := 78) hx hb d_O_cut_14 (by decide) (fun c_14 => ?_) (fun c_14 => ?_)
      · have c_14 := (nI_leI (by omega) (by omega)).mp c_14
        refine lv_aload_n hx hb d_O_cut_78 rfl (lv_at hl 0 rfl) ?_
        refine lv_iload_n hx hb d_O_cut_79 rfl (lv_at hl 2 rfl) ?_
        refine x_put (ty := .int) hC hw h_r rfl 2 (by decide) (hts _ k_93) (fun _ h9 => h9) rfl (by decide +kernel) rfl rfl (Nat.le_of_ble_eq_true rfl) d_O_cut_80 (fun M1 H locs em fr hw => ?_)
        have em : M1 r = some (.inr (1, [.int num, .ref pa, .int (nI (kp (bitP mk) i))])) := em
        have h_p := (fr _ (x_ne h_p h_r (by intro z; cases z))).trans h_p
        have h_r := em
        have hF := hF.put em fr (Or.inl (by simp))
        exact x_vret hC hr hw (⟨rfl, f, (by rw [show n = i by omega]; exact h_r), h_p, (by rw [show n = i by omega]; exact hc), hF⟩) (Nat.le_of_ble_eq_true rfl) (Nat.le_of_ble_eq_true rfl) d_O_cut_83
      · have c_14 := Nat.not_le.mp ((not_congr (nI_leI (by omega) (by omega))).mp c_14)
        have J33 : ∀ (H : Heap) (locs : List Loc) (ls : Array Slot), xWd G (xA M sz) s.heap M1 H locs → lv_has ls 7 [(0, .ref r), (1, .long mk), (3, .int (nI (kp (bitP mk) i))), (4, .int (zI (0 < i ∧ bitP mk (i - 1)))), (5, .int (nI i))] → W p l e { frames := 2, cells := 0, slots := 0, locals := 48 } s m ([.ref r, .long mk] : List Value).toArray below meth c H locs 0 0 (xMQ below G M sz (fun u M' => u = none ∧ ∃ f : Nat → Int32, M' r = some (.inr (1, [.int num, .ref pa, .int (nI (kp (bitP mk) n))])) ∧ M' pa = some (.inl (G.2.1 0, 160, .inl f)) ∧ cutS (bitP mk) n f0 f ∧ xfr M M' [r, pa]) (fun _ _ => False) s 0 0) (F0 m 33 ls [.int (zI (bitP mk i))]) := by
          intro H locs ls hw hl
          refine lv_istore (lv' := [(6, .int (zI (bitP mk i))), (0, .ref r), (1, .long mk), (3, .int (nI (kp (bitP mk) i))), (4, .int (zI (0 < i ∧ bitP mk (i - 1)))), (5, .int (nI i))]) hx hb d_O_cut_33 hl (by decide) rfl (fun ls hl => ?_)
          refine lv_iload hx hb d_O_cut_35 (lv_at hl 0 rfl) ?_
          refine lv_if_ne (tgt := 53) hx hb d_O_cut_37 (by decide) (fun c_37 => ?_) (fun c_37 => ?_)
          · have c_37 := zI_1.mp c_37
            refine lv_iload hx hb d_O_cut_53 (lv_at hl 4 rfl) ?_
            refine lv_if_ne (tgt := 68) hx hb d_O_cut_55 (by decide) (fun c_55 => ?_) (fun c_55 => ?_)
            · have c_55 := zI_1.mp c_55
              have hl : lv_has ls 7 [(6, .int (zI (bitP mk i))), (0, .ref r), (1, .long mk), (3, .int (nI (kp (bitP mk) (i + 1)))), (4, .int (zI (0 < i ∧ bitP mk (i - 1)))), (5, .int (nI i))] := by rw [kp_f (em_not c_37 c_55)]; exact hl
              refine lv_iload hx hb d_O_cut_68 (lv_at hl 0 rfl) ?_
              refine x_vi (y := zI (0 < i + 1 ∧ bitP mk (i + 1 - 1))) (congrArg zI (propext ⟨fun h => ⟨by omega, h⟩, fun h => h.2⟩)) ?_
              refine lv_istore (lv' := [(4, .int (zI (0 < i + 1 ∧ bitP mk (i + 1 - 1)))), (6, .int (zI (bitP mk i))), (0, .ref r), (1, .long mk), (3, .int (nI (kp (bitP mk) (i + 1)))), (5, .int (nI i))]) hx hb d_O_cut_70 hl (by decide) rfl (fun ls hl => ?_)
              refine lv_iinc (v := nI (i + 1)) (lv' := [(5, .int (nI (i + 1))), (4, .int (zI (0 < i + 1 ∧ bitP mk (i + 1 - 1)))), (6, .int (zI (bitP mk i))), (0, .ref r), (1, .long mk), (3, .int (nI (kp (bitP mk) (i + 1))))]) hx hb d_O_cut_72 hl (k := 5) rfl (by exact nI_1 _) (by decide) rfl (fun ls hl => ?_)
              refine lv_goto (tgt := 8) hx hb d_O_cut_75 (by decide) ?_
              exact ih8 (i + 1) (f) (by omega) (by omega) (hc.no (em_not c_37 c_55)) _ _ _ _ h_r h_p hF hw (lv_sub hl [3, 4, 5, 1, 0] rfl)
            · have c_55 := zI_0.mp c_55
              refine lv_aload_n hx hb d_O_cut_58 rfl (lv_at hl 1 rfl) ?_
              refine lv_iload hx hb d_O_cut_59 (lv_at hl 5 rfl) ?_
              refine lv_iload_n hx hb d_O_cut_61 rfl (lv_at hl 3 rfl) ?_
              refine x_callG hC (c_S_blot l G M1 (Array.size H) r pa n i (kp (bitP mk) i) num f (by omega) (by omega) (kp_le _ _) h_r h_p) k_644 k_8 ⟨Nat.le_of_ble_eq_true rfl, Nat.le_of_ble_eq_true rfl⟩ ⟨Nat.le_of_ble_eq_true rfl, Nat.le_of_ble_eq_true rfl⟩ hw hl.1 (Nat.le_of_ble_eq_true rfl) d_O_cut_62 (x_ivA (x := ⟨"RedactCheck$Row", "blot", "(II)V"⟩) (owner := "RedactCheck$Row") hC k_637 k_636 k_638 k_643 k_642 (show _ ∧ _ ∧ _ = some 2 from by decide +kernel) (x_recv hC hw h_r rfl) rfl d_O_cut_62) (fun rv M2 H locs hq hw => ?_) (fun _ _ _ _ _ h _ _ => h.elim)
              obtain ⟨rfl, h_r, h_p, fr⟩ := hq
              have hF := hF.trans fr (by intro a ha; exact Or.inl ha)
              refine W.eq (g2 := F0 m 65 ls []) rfl ?_
              refine lv_iinc (v := nI (kp (bitP mk) (i + 1))) (lv' := [(3, .int (nI (kp (bitP mk) (i + 1)))), (6, .int (zI (bitP mk i))), (0, .ref r), (1, .long mk), (4, .int (zI (0 < i ∧ bitP mk (i - 1)))), (5, .int (nI i))]) hx hb d_O_cut_65 hl (k := 3) rfl (by exact (nI_1 _).trans (congrArg nI (kp_t (em_run c_55)).symm)) (by decide) rfl (fun ls hl => ?_)
              refine lv_iload hx hb d_O_cut_68 (lv_at hl 1 rfl) ?_
              refine x_vi (y := zI (0 < i + 1 ∧ bitP mk (i + 1 - 1))) (congrArg zI (propext ⟨fun h => ⟨by omega, h⟩, fun h => h.2⟩)) ?_
              refine lv_istore (lv' := [(4, .int (zI (0 < i + 1 ∧ bitP mk (i + 1 - 1)))), (3, .int (nI (kp (bitP mk) (i + 1)))), (6, .int (zI (bitP mk i))), (0, .ref r), (1, .long mk), (5, .int (nI i))]) hx hb d_O_cut_70 hl (by decide) rfl (fun ls hl => ?_)
              refine lv_iinc (v := nI (i + 1)) (lv' := [(5, .int (nI (i + 1))), (4, .int (zI (0 < i + 1 ∧ bitP mk (i + 1 - 1)))), (3, .int (nI (kp (bitP mk) (i + 1)))), (6, .int (zI (bitP mk i))), (0, .ref r), (1, .long mk)]) hx hb d_O_cut_72 hl (k := 5) rfl (by exact nI_1 _) (by decide) rfl (fun ls hl => ?_)
              refine lv_goto (tgt := 8) hx hb d_O_cut_75 (by decide) ?_
              exact ih8 (i + 1) (rowUp f (kp (bitP mk) i) (nI 0) (f (i * 4 + 1)) (f (i * 4 + 2)) (nI 100)) (by omega) (by omega) (cutS.blot hc c_37 (em_run c_55)) _ _ _ _ h_r h_p hF hw (lv_sub hl [4, 5, 2, 1, 0] rfl)
          · have c_37 := zI_0.mp c_37
            refine lv_aload_n hx hb d_O_cut_40 rfl (lv_at hl 1 rfl) ?_
            refine lv_iload hx hb d_O_cut_41 (lv_at hl 5 rfl) ?_
            refine lv_iload_n hx hb d_O_cut_43 rfl (lv_at hl 3 rfl) ?_
            refine x_callG hC (c_S_keep l G M1 (Array.size H) r pa n i (kp (bitP mk) i) num f (by omega) (by omega) (kp_le _ _) h_r h_p) k_635 k_8 ⟨Nat.le_of_ble_eq_true rfl, Nat.le_of_ble_eq_true rfl⟩ ⟨Nat.le_of_ble_eq_true rfl, Nat.le_of_ble_eq_true rfl⟩ hw hl.1 (Nat.le_of_ble_eq_true rfl) d_O_cut_44 (x_ivA (x := ⟨"RedactCheck$Row", "keep", "(II)V"⟩) (owner := "RedactCheck$Row") hC k_623 k_622 k_624 k_634 k_633 (show _ ∧ _ ∧ _ = some 2 from by decide +kernel) (x_recv hC hw h_r rfl) rfl d_O_cut_44) (fun rv M3 H locs hq hw => ?_) (fun _ _ _ _ _ h _ _ => h.elim)
            obtain ⟨rfl, h_r, h_p, fr⟩ := hq
            have hF := hF.trans fr (by intro a ha; exact Or.inl ha)
            refine W.eq (g2 := F0 m 47 ls []) rfl ?_
            refine lv_iinc (v := nI (kp (bitP mk) (i + 1))) (lv' := [(3, .int (nI (kp (bitP mk) (i + 1)))), (6, .int (zI (bitP mk i))), (0, .ref r), (1, .long mk), (4, .int (zI (0 < i ∧ bitP mk (i - 1)))), (5, .int (nI i))]) hx hb d_O_cut_47 hl (k := 3) rfl (by exact (nI_1 _).trans (congrArg nI (kp_t (Or.inl c_37)).symm)) (by decide) rfl (fun ls hl => ?_)
            refine lv_goto (tgt := 68) hx hb d_O_cut_50 (by decide) ?_
            refine lv_iload hx hb d_O_cut_68 (lv_at hl 1 rfl) ?_
            refine x_vi (y := zI (0 < i + 1 ∧ bitP mk (i + 1 - 1))) (congrArg zI (propext ⟨fun h => ⟨by omega, h⟩, fun h => h.2⟩)) ?_
            refine lv_istore (lv' := [(4, .int (zI (0 < i + 1 ∧ bitP mk (i + 1 - 1)))), (3, .int (nI (kp (bitP mk) (i + 1)))), (6, .int (zI (bitP mk i))), (0, .ref r), (1, .long mk), (5, .int (nI i))]) hx hb d_O_cut_70 hl (by decide) rfl (fun ls hl => ?_)
            refine lv_iinc (v := nI (i + 1)) (lv' := [(5, .int (nI (i + 1))), (4, .int (zI (0 < i + 1 ∧ bitP mk (i + 1 - 1)))), (3, .int (nI (kp (bitP mk) (i + 1)))), (6, .int (zI (bitP mk i))), (0, .ref r), (1, .long mk)]) hx hb d_O_cut_72 hl (k := 5) rfl (by exact nI_1 _) (by decide) rfl (fun ls hl => ?_)
            refine lv_goto (tgt := 8) hx hb d_O_cut_75 (by decide) ?_
            exact ih8 (i + 1) (rowUp f (kp (bitP mk) i) (f (i * 4 + 0)) (f (i * 4 + 1)) (f (i * 4 + 2)) (f (i * 4 + 3))) (by omega) (by omega) (cutS.keep hc c_37) _ _ _ _ h_r h_p hF hw (lv_sub hl [4, 5, 2, 1, 0] rfl)
        refine lv_lload_n hx hb d_O_cut_17 rfl (lv_at hl 1 rfl) ?_
        refine lv_iload hx hb d_O_cut_18 (lv_at hl 4 rfl) ?_
        refine lv_lushr (v := (Int64.toUInt64 mk >>> ((Int32.toInt64 (nI i)).toUInt64 &&& Int64.toUInt64 63)).toInt64) hx hb d_O_cut_20 rfl ?_
        refine lv_lconst (v := 1) hx hb d_O_cut_21 (by decide) ?_
        refine lv_land hx hb d_O_cut_22 ?_
        refine lv_lconst (v := 0) hx hb d_O_cut_23 (by decide) ?_
        refine W.lcmp hx hb d_O_cut_24 ?_
        refine lv_if_eq (tgt := 32) hx hb d_O_cut_25 (by decide) (fun c_25 => ?_) (fun c_25 => ?_)
        · have c_25 := x_lcmp.mp c_25
          refine lv_iconst (v := nI 0) hx hb d_O_cut_32 (by decide) ?_
          refine x_vi (y := zI (bitP mk i)) ((zI_f (not_not_intro c_25)).symm) ?_
          exact J33 _ _ _ hw (lv_sub hl [0, 1, 2, 3, 4] rfl)
        · have c_25 := x_lcmpN.mp c_25
          refine lv_iconst (v := nI 1) hx hb d_O_cut_28 (by decide) ?_
          refine lv_goto (tgt := 33) hx hb d_O_cut_29 (by decide) ?_
          refine x_vi (y := zI (bitP mk i)) ((zI_t c_25).symm) ?_
          exact J33 _ _ _ hw (lv_sub hl [0, 1, 2, 3, 4] rfl)
  exact HL8 (n + 1) (0) (f0) (by omega) (by omega) (cutS.zero) _ _ _ _ h_r h_p hF hw (lv_sub hl [3, 4, 2, 1, 0] rfl)

set_option maxHeartbeats 400000 in
set_option maxRecDepth 100000 in
/-- Row.cut of C -/
theorem c_C_cut (l : Launch) (G : xT) (M : xMem) (sz : Nat) (q v n : Nat) (mk : Int64) (f0 : Nat → Int32) (hn : n ≤ 60) (h_q : M q = some (.inr (2, [.ref v, .int (nI n)]))) (h_v : M v = some (.inl (G.2.1 0, 60, .inl f0))) : xMet l G y_O_cut (Cond.code y_O_cut b_O_cut 7 none :: x_tbl) { frames := 2, cells := 0, slots := 0, locals := 48 } [.ref q, .long mk] M sz (fun u M' => u = none ∧ ∃ f : Nat → Int32, M' q = some (.inr (2, [.ref v, .int (nI (kp (bitP mk) n))])) ∧ M' v = some (.inl (G.2.1 0, 60, .inl f)) ∧ cutI (bitP mk) 0 n (cV (bitP mk) (nI 42) f0 0) f0 f ∧ xfr M M' [q, v]) (fun _ _ => False) := by
  refine xMet.of (by decide) (Nat.le_of_ble_eq_true rfl) ?_
  intro p e s m below meth c ls hC hr hnm hno hsz hw hl
  obtain ⟨hx, hb, hown, hts, hK, hml, hlk, hz⟩ := id hC
  have hl : lv_has ls 7 [(0, .ref q), (1, .long mk)] := hl
  have hF : xfr M M [q, v] := xfr.rf
  refine lv_iconst (v := nI 0) hx hb d_O_cut_0 (by decide) ?_
  refine x_vi (y := nI (kp (bitP mk) 0)) (rfl) ?_
  refine lv_istore_n (lv' := [(3, .int (nI (kp (bitP mk) 0))), (0, .ref q), (1, .long mk)]) hx hb d_O_cut_1 rfl hl (by decide) rfl (fun ls hl => ?_)
  refine lv_iconst (v := nI 0) hx hb d_O_cut_2 (by decide) ?_
  refine x_vi (y := zI (0 < 0 ∧ bitP mk (0 - 1))) ((zI_f (fun h => absurd h.1 (by decide))).symm) ?_
  refine lv_istore (lv' := [(4, .int (zI (0 < 0 ∧ bitP mk (0 - 1)))), (3, .int (nI (kp (bitP mk) 0))), (0, .ref q), (1, .long mk)]) hx hb d_O_cut_3 hl (by decide) rfl (fun ls hl => ?_)
  refine lv_iconst (v := nI 0) hx hb d_O_cut_5 (by decide) ?_
  refine lv_istore (lv' := [(5, .int (nI 0)), (4, .int (zI (0 < 0 ∧ bitP mk (0 - 1)))), (3, .int (nI (kp (bitP mk) 0))), (0, .ref q), (1, .long mk)]) hx hb d_O_cut_6 hl (by decide) rfl (fun ls hl => ?_)
  have HL8 : ∀ (z8 i : Nat) (f : Nat → Int32), i ≤ n → n + 1 ≤ i + z8 → (cutI (bitP mk) 0 i (cV (bitP mk) (nI 42) f0 0) f0 f) → ∀ (M1 : xMem), ∀ (H : Heap) (locs : List Loc) (ls : Array Slot), M1 q = some (.inr (2, [.ref v, .int (nI n)])) → M1 v = some (.inl (G.2.1 0, 60, .inl f)) → xfr M M1 [q, v] → xWd G (xA M sz) s.heap M1 H locs → lv_has ls 7 [(0, .ref q), (1, .long mk), (3, .int (nI (kp (bitP mk) i))), (4, .int (zI (0 < i ∧ bitP mk (i - 1)))), (5, .int (nI i))] → W p l e { frames := 2, cells := 0, slots := 0, locals := 48 } s m ([.ref q, .long mk] : List Value).toArray below meth c H locs 0 0 (xMQ below G M sz (fun u M' => u = none ∧ ∃ f : Nat → Int32, M' q = some (.inr (2, [.ref v, .int (nI (kp (bitP mk) n))])) ∧ M' v = some (.inl (G.2.1 0, 60, .inl f)) ∧ cutI (bitP mk) 0 n (cV (bitP mk) (nI 42) f0 0) f0 f ∧ xfr M M' [q, v]) (fun _ _ => False) s 0 0) (F0 m 8 ls []) := by
    intro z8
    induction z8 with
    | zero =>
      intro i f h1 h2
      omega
    | succ z8 ih8 =>
      intro i f hi8 hz8 hc M1 H locs ls h_q h_v hF hw hl
      refine lv_iload hx hb d_O_cut_8 (lv_at hl 4 rfl) ?_
      refine lv_aload_n hx hb d_O_cut_10 rfl (lv_at hl 0 rfl) ?_
      refine x_get hC hw h_q rfl 1 (by decide) (hts _ k_93) (fun _ h9 => h9) rfl d_O_cut_11 ?_
      refine lv_icmp_ge (tgt := 78) hx hb d_O_cut_14 (by decide) (fun c_14 => ?_) (fun c_14 => ?_)
      · have c_14 := (nI_leI (by omega) (by omega)).mp c_14
        refine lv_aload_n hx hb d_O_cut_78 rfl (lv_at hl 0 rfl) ?_
        refine lv_iload_n hx hb d_O_cut_79 rfl (lv_at hl 2 rfl) ?_
        refine x_put (ty := .int) hC hw h_q rfl 1 (by decide) (hts _ k_93) (fun _ h9 => h9) rfl (by decide +kernel) rfl rfl (Nat.le_of_ble_eq_true rfl) d_O_cut_80 (fun M1 H locs em fr hw => ?_)
        have em : M1 q = some (.inr (2, [.ref v, .int (nI (kp (bitP mk) i))])) := em
        have h_v := (fr _ (x_ne h_v h_q (by intro z; cases z))).trans h_v
        have h_q := em
        have hF := hF.put em fr (Or.inl (by simp))
        exact x_vret hC hr hw (⟨rfl, f, (by rw [show n = i by omega]; exact h_q), h_v, (by rw [show n = i by omega]; exact hc), hF⟩) (Nat.le_of_ble_eq_true rfl) (Nat.le_of_ble_eq_true rfl) d_O_cut_83
      · have c_14 := Nat.not_le.mp ((not_congr (nI_leI (by omega) (by omega))).mp c_14)
        have J33 : ∀ (H : Heap) (locs : List Loc) (ls : Array Slot), xWd G (xA M sz) s.heap M1 H locs → lv_has ls 7 [(0, .ref q), (1, .long mk), (3, .int (nI (kp (bitP mk) i))), (4, .int (zI (0 < i ∧ bitP mk (i - 1)))), (5, .int (nI i))] → W p l e { frames := 2, cells := 0, slots := 0, locals := 48 } s m ([.ref q, .long mk] : List Value).toArray below meth c H locs 0 0 (xMQ below G M sz (fun u M' => u = none ∧ ∃ f : Nat → Int32, M' q = some (.inr (2, [.ref v, .int (nI (kp (bitP mk) n))])) ∧ M' v = some (.inl (G.2.1 0, 60, .inl f)) ∧ cutI (bitP mk) 0 n (cV (bitP mk) (nI 42) f0 0) f0 f ∧ xfr M M' [q, v]) (fun _ _ => False) s 0 0) (F0 m 33 ls [.int (zI (bitP mk i))]) := by
          intro H locs ls hw hl
          refine lv_istore (lv' := [(6, .int (zI (bitP mk i))), (0, .ref q), (1, .long mk), (3, .int (nI (kp (bitP mk) i))), (4, .int (zI (0 < i ∧ bitP mk (i - 1)))), (5, .int (nI i))]) hx hb d_O_cut_33 hl (by decide) rfl (fun ls hl => ?_)
          refine lv_iload hx hb d_O_cut_35 (lv_at hl 0 rfl) ?_
          refine lv_if_ne (tgt := 53) hx hb d_O_cut_37 (by decide) (fun c_37 => ?_) (fun c_37 => ?_)
          · have c_37 := zI_1.mp c_37
            refine lv_iload hx hb d_O_cut_53 (lv_at hl 4 rfl) ?_
            refine lv_if_ne (tgt := 68) hx hb d_O_cut_55 (by decide) (fun c_55 => ?_) (fun c_55 => ?_)
            · have c_55 := zI_1.mp c_55
              have hl : lv_has ls 7 [(6, .int (zI (bitP mk i))), (0, .ref q), (1, .long mk), (3, .int (nI (kp (bitP mk) (i + 1)))), (4, .int (zI (0 < i ∧ bitP mk (i - 1)))), (5, .int (nI i))] := by rw [kp_f (em_not c_37 c_55)]; exact hl
              refine lv_iload hx hb d_O_cut_68 (lv_at hl 0 rfl) ?_
              refine x_vi (y := zI (0 < i + 1 ∧ bitP mk (i + 1 - 1))) (congrArg zI (propext ⟨fun h => ⟨by omega, h⟩, fun h => h.2⟩)) ?_
              refine lv_istore (lv' := [(4, .int (zI (0 < i + 1 ∧ bitP mk (i + 1 - 1)))), (6, .int (zI (bitP mk i))), (0, .ref q), (1, .long mk), (3, .int (nI (kp (bitP mk) (i + 1)))), (5, .int (nI i))]) hx hb d_O_cut_70 hl (by decide) rfl (fun ls hl => ?_)
              refine lv_iinc (v := nI (i + 1)) (lv' := [(5, .int (nI (i + 1))), (4, .int (zI (0 < i + 1 ∧ bitP mk (i + 1 - 1)))), (6, .int (zI (bitP mk i))), (0, .ref q), (1, .long mk), (3, .int (nI (kp (bitP mk) (i + 1))))]) hx hb d_O_cut_72 hl (k := 5) rfl (by exact nI_1 _) (by decide) rfl (fun ls hl => ?_)
              refine lv_goto (tgt := 8) hx hb d_O_cut_75 (by decide) ?_
              exact ih8 (i + 1) (f) (by omega) (by omega) (hc.no (em_not c_37 c_55)) _ _ _ _ h_q h_v hF hw (lv_sub hl [3, 4, 5, 1, 0] rfl)
            · have c_55 := zI_0.mp c_55
              refine lv_aload_n hx hb d_O_cut_58 rfl (lv_at hl 1 rfl) ?_
              refine lv_iload hx hb d_O_cut_59 (lv_at hl 5 rfl) ?_
              refine lv_iload_n hx hb d_O_cut_61 rfl (lv_at hl 3 rfl) ?_
              refine x_callG hC (c_C_blot l G M1 (Array.size H) q v n i (kp (bitP mk) i) f (by omega) (by omega) (kp_le _ _) h_q h_v) k_641 k_7 ⟨Nat.le_of_ble_eq_true rfl, Nat.le_of_ble_eq_true rfl⟩ ⟨Nat.le_of_ble_eq_true rfl, Nat.le_of_ble_eq_true rfl⟩ hw hl.1 (Nat.le_of_ble_eq_true rfl) d_O_cut_62 (x_ivA (x := ⟨"RedactCheck$Row", "blot", "(II)V"⟩) (owner := "RedactCheck$Row") hC k_637 k_636 k_638 k_640 k_639 (show _ ∧ _ ∧ _ = some 2 from by decide +kernel) (x_recv hC hw h_q rfl) rfl d_O_cut_62) (fun rv M2 H locs hq hw => ?_) (fun _ _ _ _ _ h _ _ => h.elim)
              obtain ⟨rfl, h_q, h_v, fr⟩ := hq
              have hF := hF.trans fr (by intro a ha; exact Or.inl ha)
              refine W.eq (g2 := F0 m 65 ls []) rfl ?_
              refine lv_iinc (v := nI (kp (bitP mk) (i + 1))) (lv' := [(3, .int (nI (kp (bitP mk) (i + 1)))), (6, .int (zI (bitP mk i))), (0, .ref q), (1, .long mk), (4, .int (zI (0 < i ∧ bitP mk (i - 1)))), (5, .int (nI i))]) hx hb d_O_cut_65 hl (k := 3) rfl (by exact (nI_1 _).trans (congrArg nI (kp_t (em_run c_55)).symm)) (by decide) rfl (fun ls hl => ?_)
              refine lv_iload hx hb d_O_cut_68 (lv_at hl 1 rfl) ?_
              refine x_vi (y := zI (0 < i + 1 ∧ bitP mk (i + 1 - 1))) (congrArg zI (propext ⟨fun h => ⟨by omega, h⟩, fun h => h.2⟩)) ?_
              refine lv_istore (lv' := [(4, .int (zI (0 < i + 1 ∧ bitP mk (i + 1 - 1)))), (3, .int (nI (kp (bitP mk) (i + 1)))), (6, .int (zI (bitP mk i))), (0, .ref q), (1, .long mk), (5, .int (nI i))]) hx hb d_O_cut_70 hl (by decide) rfl (fun ls hl => ?_)
              refine lv_iinc (v := nI (i + 1)) (lv' := [(5, .int (nI (i + 1))), (4, .int (zI (0 < i + 1 ∧ bitP mk (i + 1 - 1)))), (3, .int (nI (kp (bitP mk) (i + 1)))), (6, .int (zI (bitP mk i))), (0, .ref q), (1, .long mk)]) hx hb d_O_cut_72 hl (k := 5) rfl (by exact nI_1 _) (by decide) rfl (fun ls hl => ?_)
              refine lv_goto (tgt := 8) hx hb d_O_cut_75 (by decide) ?_
              exact ih8 (i + 1) (va_up f (kp (bitP mk) i) (nI 42)) (by omega) (by omega) (cutC.blot hc c_37 (em_run c_55)) _ _ _ _ h_q h_v hF hw (lv_sub hl [4, 5, 2, 1, 0] rfl)
          · have c_37 := zI_0.mp c_37
            refine lv_aload_n hx hb d_O_cut_40 rfl (lv_at hl 1 rfl) ?_
            refine lv_iload hx hb d_O_cut_41 (lv_at hl 5 rfl) ?_
            refine lv_iload_n hx hb d_O_cut_43 rfl (lv_at hl 3 rfl) ?_
            refine x_callG hC (c_C_keep l G M1 (Array.size H) q v n i (kp (bitP mk) i) f (by omega) (by omega) (kp_le _ _) h_q h_v) k_627 k_7 ⟨Nat.le_of_ble_eq_true rfl, Nat.le_of_ble_eq_true rfl⟩ ⟨Nat.le_of_ble_eq_true rfl, Nat.le_of_ble_eq_true rfl⟩ hw hl.1 (Nat.le_of_ble_eq_true rfl) d_O_cut_44 (x_ivA (x := ⟨"RedactCheck$Row", "keep", "(II)V"⟩) (owner := "RedactCheck$Row") hC k_623 k_622 k_624 k_626 k_625 (show _ ∧ _ ∧ _ = some 2 from by decide +kernel) (x_recv hC hw h_q rfl) rfl d_O_cut_44) (fun rv M3 H locs hq hw => ?_) (fun _ _ _ _ _ h _ _ => h.elim)
            obtain ⟨rfl, h_q, h_v, fr⟩ := hq
            have hF := hF.trans fr (by intro a ha; exact Or.inl ha)
            refine W.eq (g2 := F0 m 47 ls []) rfl ?_
            refine lv_iinc (v := nI (kp (bitP mk) (i + 1))) (lv' := [(3, .int (nI (kp (bitP mk) (i + 1)))), (6, .int (zI (bitP mk i))), (0, .ref q), (1, .long mk), (4, .int (zI (0 < i ∧ bitP mk (i - 1)))), (5, .int (nI i))]) hx hb d_O_cut_47 hl (k := 3) rfl (by exact (nI_1 _).trans (congrArg nI (kp_t (Or.inl c_37)).symm)) (by decide) rfl (fun ls hl => ?_)
            refine lv_goto (tgt := 68) hx hb d_O_cut_50 (by decide) ?_
            refine lv_iload hx hb d_O_cut_68 (lv_at hl 1 rfl) ?_
            refine x_vi (y := zI (0 < i + 1 ∧ bitP mk (i + 1 - 1))) (congrArg zI (propext ⟨fun h => ⟨by omega, h⟩, fun h => h.2⟩)) ?_
            refine lv_istore (lv' := [(4, .int (zI (0 < i + 1 ∧ bitP mk (i + 1 - 1)))), (3, .int (nI (kp (bitP mk) (i + 1)))), (6, .int (zI (bitP mk i))), (0, .ref q), (1, .long mk), (5, .int (nI i))]) hx hb d_O_cut_70 hl (by decide) rfl (fun ls hl => ?_)
            refine lv_iinc (v := nI (i + 1)) (lv' := [(5, .int (nI (i + 1))), (4, .int (zI (0 < i + 1 ∧ bitP mk (i + 1 - 1)))), (3, .int (nI (kp (bitP mk) (i + 1)))), (6, .int (zI (bitP mk i))), (0, .ref q), (1, .long mk)]) hx hb d_O_cut_72 hl (k := 5) rfl (by exact nI_1 _) (by decide) rfl (fun ls hl => ?_)
            refine lv_goto (tgt := 8) hx hb d_O_cut_75 (by decide) ?_
            exact ih8 (i + 1) (va_up f (kp (bitP mk) i) (f i)) (by omega) (by omega) (cutC.keep hc c_37) _ _ _ _ h_q h_v hF hw (lv_sub hl [4, 5, 2, 1, 0] rfl)
        refine lv_lload_n hx hb d_O_cut_17 rfl (lv_at hl 1 rfl) ?_
        refine lv_iload hx hb d_O_cut_18 (lv_at hl 4 rfl) ?_
        refine lv_lushr (v := (Int64.toUInt64 mk >>> ((Int32.toInt64 (nI i)).toUInt64 &&& Int64.toUInt64 63)).toInt64) hx hb d_O_cut_20 rfl ?_
        refine lv_lconst (v := 1) hx hb d_O_cut_21 (by decide) ?_
        refine lv_land hx hb d_O_cut_22 ?_
        refine lv_lconst (v := 0) hx hb d_O_cut_23 (by decide) ?_
        refine W.lcmp hx hb d_O_cut_24 ?_
        refine lv_if_eq (tgt := 32) hx hb d_O_cut_25 (by decide) (fun c_25 => ?_) (fun c_25 => ?_)
        · have c_25 := x_lcmp.mp c_25
          refine lv_iconst (v := nI 0) hx hb d_O_cut_32 (by decide) ?_
          refine x_vi (y := zI (bitP mk i)) ((zI_f (not_not_intro c_25)).symm) ?_
          exact J33 _ _ _ hw (lv_sub hl [0, 1, 2, 3, 4] rfl)
        · have c_25 := x_lcmpN.mp c_25
          refine lv_iconst (v := nI 1) hx hb d_O_cut_28 (by decide) ?_
          refine lv_goto (tgt := 33) hx hb d_O_cut_29 (by decide) ?_
          refine x_vi (y := zI (bitP mk i)) ((zI_t c_25).symm) ?_
          exact J33 _ _ _ hw (lv_sub hl [0, 1, 2, 3, 4] rfl)
  exact HL8 (n + 1) (0) (f0) (by omega) (by omega) (cutI.zero) _ _ _ _ h_q h_v hF hw (lv_sub hl [3, 4, 2, 1, 0] rfl)

theorem rowUp_pre {f g : Nat → Int32} {i : Nat} (h : ∀ j, j < i * 4 → g j = f j) : ∀ j, j < (i + 1) * 4 → rowUp g i (f (i * 4 + 0)) (f (i * 4 + 1)) (f (i * 4 + 2)) (f (i * 4 + 3)) j = f j := by
  intro j hj
  by_cases h0 : j < i * 4
  · rw [rowUp_ne _ _ _ _ _ (Or.inl h0)]
    exact h j h0
  · have : j = i * 4 + 0 ∨ j = i * 4 + 1 ∨ j = i * 4 + 2 ∨ j = i * 4 + 3 := by omega
    rcases this with rfl | rfl | rfl | rfl
    · rw [rowUp_0]
    · rw [rowUp_1]
    · rw [rowUp_2]
    · rw [rowUp_3]
theorem x_fr0 {M : xMem} {a b : Nat} (ha : M a = none) (hb : M b = none) : ∀ z, z ∈ [a, b] → z ∈ ([] : List Nat) ∨ M z = none := by
  intro z hz
  rcases List.mem_cons.mp hz with rfl | hz
  · exact Or.inr ha
  · rw [List.mem_singleton.mp hz]
    exact Or.inr hb
set_option maxHeartbeats 400000 in
set_option maxRecDepth 100000 in
/-- SignRow.copyNumbered -/
theorem c_S_copyNumbered (l : Launch) (G : xT) (M : xMem) (sz : Nat) (r pa n : Nat) (num num2 : Int32) (f : Nat → Int32) (hn : n ≤ 40) (h_r : M r = some (.inr (1, [.int num, .ref pa, .int (nI n)]))) (h_p : M pa = some (.inl (G.2.1 0, 160, .inl f))) : xMet l G y_S_copyNumbered (Cond.code y_S_copyNumbered b_S_copyNumbered 4 (Option.some (Jvm.ClassFile.FieldType.object "RedactCheck$SignRow")) :: x_tbl) { frames := 3, cells := 2, slots := 163, locals := 60 } [.ref r, .int num2] M sz (fun v M' => ∃ q pa2, ∃ g : Nat → Int32, v = some (.ref q) ∧ M q = none ∧ M pa2 = none ∧ M' q = some (.inr (1, [.int num2, .ref pa2, .int (nI n)])) ∧ M' pa2 = some (.inl (G.2.1 0, 160, .inl g)) ∧ (∀ j, j < n * 4 → g j = f j) ∧ xfr M M' []) (fun _ _ => False) := by
  refine xMet.of (by decide) (Nat.le_of_ble_eq_true rfl) ?_
  intro p e s m below meth c ls hC hr hnm hno hsz hw hl
  obtain ⟨hx, hb, hown, hts, hK, hml, hlk, hz⟩ := id hC
  have hl : lv_has ls 4 [(0, .ref r), (1, .int num2)] := hl
  have hF : xfr M M [] := xfr.rf
  refine x_new (fs := [.int (nI 0), .null, .int (nI 0)]) hC hw rfl (hts _ k_663) (hts _ k_102) (hts _ k_8) nf_1 (Nat.le_of_ble_eq_true rfl) (Nat.le_of_ble_eq_true rfl) d_S_copyNumbered_0 (fun q1 M2 H hn em fr hw => ?_)
  have ne_h_r_q1 : r ≠ q1 := x_neN h_r hn
  have h_r := (fr _ ne_h_r_q1).trans h_r
  have ne_h_p_q1 : pa ≠ q1 := x_neN h_p hn
  have h_p := (fr _ ne_h_p_q1).trans h_p
  have h_q1 := em
  have hn_q1 := hF.none hn
  have hF := hF.put em fr (Or.inr hn)
  refine lv_dup hx hb d_S_copyNumbered_3 rfl ?_
  refine lv_iload_n hx hb d_S_copyNumbered_4 rfl (lv_at hl 1 rfl) ?_
  refine x_callG hC (c_S_init l G M2 (Array.size H) q1 num2 h_q1) k_105 k_8 ⟨Nat.le_of_ble_eq_true rfl, Nat.le_of_ble_eq_true rfl⟩ ⟨Nat.le_of_ble_eq_true rfl, Nat.le_of_ble_eq_true rfl⟩ hw hl.1 (Nat.le_of_ble_eq_true rfl) d_S_copyNumbered_5 (x_ivI hC k_105 k_664 k_104 rfl (show _ ∧ _ ∧ _ = some 1 from by decide +kernel) rfl d_S_copyNumbered_5) (fun rv M3 H locs hq hw => ?_) (fun _ _ _ _ _ h _ _ => h.elim)
  obtain ⟨rfl, pa2, hn2, h_q1, h_p2, fr⟩ := hq
  have ne_p2 : pa ≠ pa2 := x_neN h_p hn2
  have hn_p2 : M pa2 = none := hF.none hn2
  have hF := hF.trans fr (by intro z hz; rw [List.mem_singleton.mp hz]; exact Or.inr hn_q1)
  have h_r := fr.get h_r (by simp [ne_h_r_q1])
  have h_p := fr.get h_p (by simp [ne_h_p_q1])
  refine W.eq (g2 := F0 m 8 ls [.ref q1]) rfl ?_
  refine lv_astore_n (lv' := [(2, .ref q1), (0, .ref r), (1, .int num2)]) hx hb d_S_copyNumbered_8 rfl hl (by decide) rfl (fun ls hl => ?_)
  refine lv_iconst (v := nI 0) hx hb d_S_copyNumbered_9 (by decide) ?_
  refine lv_istore_n (lv' := [(3, .int (nI 0)), (2, .ref q1), (0, .ref r), (1, .int num2)]) hx hb d_S_copyNumbered_10 rfl hl (by decide) rfl (fun ls hl => ?_)
  have HL11 : ∀ (z11 i : Nat) (g : Nat → Int32), i ≤ n → n + 1 ≤ i + z11 → (∀ j, j < i * 4 → g j = f j) → ∀ (M1 : xMem), ∀ (H : Heap) (locs : List Loc) (ls : Array Slot), M1 r = some (.inr (1, [.int num, .ref pa, .int (nI n)])) → M1 pa = some (.inl (G.2.1 0, 160, .inl f)) → M1 q1 = some (.inr (1, [.int num2, .ref pa2, .int (nI i)])) → M1 pa2 = some (.inl (G.2.1 0, 160, .inl g)) → xfr M M1 [] → xWd G (xA M sz) s.heap M1 H locs → lv_has ls 4 [(0, .ref r), (2, .ref q1), (3, .int (nI i))] → W p l e { frames := 3, cells := 2, slots := 163, locals := 60 } s m ([.ref r, .int num2] : List Value).toArray below meth c H locs 2 163 (xMQ below G M sz (fun v M' => ∃ q pa2, ∃ g : Nat → Int32, v = some (.ref q) ∧ M q = none ∧ M pa2 = none ∧ M' q = some (.inr (1, [.int num2, .ref pa2, .int (nI n)])) ∧ M' pa2 = some (.inl (G.2.1 0, 160, .inl g)) ∧ (∀ j, j < n * 4 → g j = f j) ∧ xfr M M' []) (fun _ _ => False) s 2 163) (F0 m 11 ls []) := by
    intro z11
    induction z11 with
    | zero =>
      intro i g h1 h2
      omega
    | succ z11 ih11 =>
      intro i g hi11 hz11 hg M1 H locs ls h_r h_p h_q1 h_p2 hF hw hl
      refine lv_iload_n hx hb d_S_copyNumbered_11 rfl (lv_at hl 2 rfl) ?_
      refine lv_aload_n hx hb d_S_copyNumbered_12 rfl (lv_at hl 0 rfl) ?_
      refine x_get hC hw h_r rfl 2 (by decide) (hts _ k_86) (u_same (hts _ k_87)) rfl d_S_copyNumbered_13 ?_
      refine lv_icmp_ge (tgt := 53) hx hb d_S_copyNumbered_16 (by decide) (fun c_16 => ?_) (fun c_16 => ?_)
      · have c_16 := (nI_leI (by omega) (by omega)).mp c_16
        refine lv_aload_n hx hb d_S_copyNumbered_53 rfl (lv_at hl 1 rfl) ?_
        exact x_aret hC hr (Or.inl ⟨_, rfl⟩) hw (Or.inr ⟨_, rfl⟩) (⟨q1, pa2, g, rfl, hn_q1, hn_p2, (by rw [show n = i by omega]; exact h_q1), h_p2, (by rw [show n = i by omega]; exact hg), hF⟩) (Nat.le_of_ble_eq_true rfl) (Nat.le_of_ble_eq_true rfl) d_S_copyNumbered_54
      · have c_16 := Nat.not_le.mp ((not_congr (nI_leI (by omega) (by omega))).mp c_16)
        refine lv_aload_n hx hb d_S_copyNumbered_19 rfl (lv_at hl 1 rfl) ?_
        refine lv_aload_n hx hb d_S_copyNumbered_20 rfl (lv_at hl 0 rfl) ?_
        refine lv_iload_n hx hb d_S_copyNumbered_21 rfl (lv_at hl 2 rfl) ?_
        refine lv_iconst (v := nI 0) hx hb d_S_copyNumbered_22 (by decide) ?_
        refine x_callG hC (c_S_part l G M1 (Array.size H) r pa i 0 (nI n) num f (by omega) (by omega) h_r h_p) k_234 k_8 ⟨Nat.le_of_ble_eq_true rfl, Nat.le_of_ble_eq_true rfl⟩ ⟨Nat.le_of_ble_eq_true rfl, Nat.le_of_ble_eq_true rfl⟩ hw hl.1 (Nat.le_of_ble_eq_true rfl) d_S_copyNumbered_23 (x_ivV hC k_234 k_231 k_232 k_233 (show _ ∧ _ ∧ _ = some 2 from by decide +kernel) (x_recv hC hw h_r rfl) rfl d_S_copyNumbered_23) (fun rv M4 H locs hq hw => ?_) (fun _ _ _ _ _ h _ _ => h.elim)
        obtain ⟨rfl, hM⟩ := hq
        subst M4
        refine W.eq (g2 := F0 m 26 ls [.int (f (i * 4 + 0)), .ref q1]) rfl ?_
        refine lv_aload_n hx hb d_S_copyNumbered_26 rfl (lv_at hl 0 rfl) ?_
        refine lv_iload_n hx hb d_S_copyNumbered_27 rfl (lv_at hl 2 rfl) ?_
        refine lv_iconst (v := nI 1) hx hb d_S_copyNumbered_28 (by decide) ?_
        refine x_callG hC (c_S_part l G M1 (Array.size H) r pa i 1 (nI n) num f (by omega) (by omega) h_r h_p) k_234 k_8 ⟨Nat.le_of_ble_eq_true rfl, Nat.le_of_ble_eq_true rfl⟩ ⟨Nat.le_of_ble_eq_true rfl, Nat.le_of_ble_eq_true rfl⟩ hw hl.1 (Nat.le_of_ble_eq_true rfl) d_S_copyNumbered_29 (x_ivV hC k_234 k_231 k_232 k_233 (show _ ∧ _ ∧ _ = some 2 from by decide +kernel) (x_recv hC hw h_r rfl) rfl d_S_copyNumbered_29) (fun rv M5 H locs hq hw => ?_) (fun _ _ _ _ _ h _ _ => h.elim)
        obtain ⟨rfl, hM⟩ := hq
        subst M5
        refine W.eq (g2 := F0 m 32 ls [.int (f (i * 4 + 1)), .int (f (i * 4 + 0)), .ref q1]) rfl ?_
        refine lv_aload_n hx hb d_S_copyNumbered_32 rfl (lv_at hl 0 rfl) ?_
        refine lv_iload_n hx hb d_S_copyNumbered_33 rfl (lv_at hl 2 rfl) ?_
        refine lv_iconst (v := nI 2) hx hb d_S_copyNumbered_34 (by decide) ?_
        refine x_callG hC (c_S_part l G M1 (Array.size H) r pa i 2 (nI n) num f (by omega) (by omega) h_r h_p) k_234 k_8 ⟨Nat.le_of_ble_eq_true rfl, Nat.le_of_ble_eq_true rfl⟩ ⟨Nat.le_of_ble_eq_true rfl, Nat.le_of_ble_eq_true rfl⟩ hw hl.1 (Nat.le_of_ble_eq_true rfl) d_S_copyNumbered_35 (x_ivV hC k_234 k_231 k_232 k_233 (show _ ∧ _ ∧ _ = some 2 from by decide +kernel) (x_recv hC hw h_r rfl) rfl d_S_copyNumbered_35) (fun rv M6 H locs hq hw => ?_) (fun _ _ _ _ _ h _ _ => h.elim)
        obtain ⟨rfl, hM⟩ := hq
        subst M6
        refine W.eq (g2 := F0 m 38 ls [.int (f (i * 4 + 2)), .int (f (i * 4 + 1)), .int (f (i * 4 + 0)), .ref q1]) rfl ?_
        refine lv_aload_n hx hb d_S_copyNumbered_38 rfl (lv_at hl 0 rfl) ?_
        refine lv_iload_n hx hb d_S_copyNumbered_39 rfl (lv_at hl 2 rfl) ?_
        refine lv_iconst (v := nI 3) hx hb d_S_copyNumbered_40 (by decide) ?_
        refine x_callG hC (c_S_part l G M1 (Array.size H) r pa i 3 (nI n) num f (by omega) (by omega) h_r h_p) k_234 k_8 ⟨Nat.le_of_ble_eq_true rfl, Nat.le_of_ble_eq_true rfl⟩ ⟨Nat.le_of_ble_eq_true rfl, Nat.le_of_ble_eq_true rfl⟩ hw hl.1 (Nat.le_of_ble_eq_true rfl) d_S_copyNumbered_41 (x_ivV hC k_234 k_231 k_232 k_233 (show _ ∧ _ ∧ _ = some 2 from by decide +kernel) (x_recv hC hw h_r rfl) rfl d_S_copyNumbered_41) (fun rv M7 H locs hq hw => ?_) (fun _ _ _ _ _ h _ _ => h.elim)
        obtain ⟨rfl, hM⟩ := hq
        subst M7
        refine W.eq (g2 := F0 m 44 ls [.int (f (i * 4 + 3)), .int (f (i * 4 + 2)), .int (f (i * 4 + 1)), .int (f (i * 4 + 0)), .ref q1]) rfl ?_
        have ne_h_r_h_p2 : r ≠ pa2 := x_ne h_r h_p2 (by intro z; cases z)
        refine x_callG hC (c_S_add l G M1 (Array.size H) q1 pa2 i num2 (f (i * 4 + 0)) (f (i * 4 + 1)) (f (i * 4 + 2)) (f (i * 4 + 3)) g (by omega) h_q1 h_p2) k_411 k_8 ⟨Nat.le_of_ble_eq_true rfl, Nat.le_of_ble_eq_true rfl⟩ ⟨Nat.le_of_ble_eq_true rfl, Nat.le_of_ble_eq_true rfl⟩ hw hl.1 (Nat.le_of_ble_eq_true rfl) d_S_copyNumbered_44 (x_ivV hC k_411 k_665 k_409 k_410 (show _ ∧ _ ∧ _ = some 4 from by decide +kernel) (x_recv hC hw h_q1 rfl) rfl d_S_copyNumbered_44) (fun rv M8 H locs hq hw => ?_) (fun _ _ _ _ _ h _ _ => h.elim)
        obtain ⟨rfl, h_q1, h_p2, fr⟩ := hq
        have hF := hF.trans fr (x_fr0 hn_q1 hn_p2)
        have h_r := fr.get h_r (by simp [ne_h_r_q1, ne_h_r_h_p2])
        have h_p := fr.get h_p (by simp [ne_h_p_q1, ne_p2])
        refine W.eq (g2 := F0 m 47 ls []) rfl ?_
        refine lv_iinc (v := nI (i + 1)) (lv' := [(3, .int (nI (i + 1))), (0, .ref r), (2, .ref q1)]) hx hb d_S_copyNumbered_47 hl (k := 2) rfl (by exact nI_1 _) (by decide) rfl (fun ls hl => ?_)
        refine lv_goto (tgt := 11) hx hb d_S_copyNumbered_50 (by decide) ?_
        exact ih11 (i + 1) (rowUp g i (f (i * 4 + 0)) (f (i * 4 + 1)) (f (i * 4 + 2)) (f (i * 4 + 3))) (by omega) (by omega) (rowUp_pre hg) _ _ _ _ h_r h_p h_q1 h_p2 hF hw (lv_sub hl [1, 2, 0] rfl)
  exact HL11 (n + 1) (0) (fun _ => nI 0) (by omega) (by omega) (fun j hj => absurd hj (by omega)) _ _ _ _ h_r h_p h_q1 h_p2 hF hw (lv_sub hl [2, 1, 0] rfl)
