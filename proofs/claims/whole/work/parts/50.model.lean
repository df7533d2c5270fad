set_option maxHeartbeats 1000000 in
set_option maxRecDepth 100000 in
/-- use -/
theorem c_M_use (l : Launch) (G : xT) (M : xMem) (sz : Nat) (md : Nat) (am : Nat → Nat) (nu : Nat → Nat → Nat) (sg : Nat → Nat → Int32) (hR : mRep G M md am nu sg) (pg fo dx dy : Int32) (h20 : nu 6 0 ≤ 20) (h12 : nu 7 0 ≤ 12) : xMet l G y_M_use (Cond.code y_M_use b_M_use 5 (Option.some Jvm.ClassFile.FieldType.int) :: x_tbl) { frames := 1, cells := 0, slots := 0, locals := 25 } [.ref md, .int pg, .int fo, .int dx, .int dy] M sz (fun v M' => v = some (.int (nI (kt (useK nu pg fo dx dy = 0) (nu 7 0) 0))) ∧ ∃ (nu' : Nat → Nat → Nat) (sg' : Nat → Nat → Int32), mRep G M' md am nu' sg' ∧ eqx [0, 7, 9] nu nu' ∧ eqx [8, 10, 11] sg sg' ∧ xfr M M' (mS md am) ∧ nu' 0 0 = useK nu pg fo dx dy ∧ (useK nu pg fo dx dy = 0 → nu' 7 0 = nu 7 0 + 1 ∧ nu' 9 = va_up (nu 9) (nu 7 0) (cN fo) ∧ sg' 8 = va_up (sg 8) (nu 7 0) pg ∧ sg' 10 = va_up (sg 10) (nu 7 0) dx ∧ sg' 11 = va_up (sg 11) (nu 7 0) dy) ∧ (useK nu pg fo dx dy ≠ 0 → sameP nu nu' sg sg')) (fun _ _ => False) := by
  refine xMet.of (by decide) (Nat.le_of_ble_eq_true rfl) ?_
  intro p e s m below meth c ls hC hr hnm hno hsz hw hl
  obtain ⟨hx, hb, hown, hts, hK, hml, hlk, hz⟩ := id hC
  have hl : lv_has ls 5 [(0, .ref md), (1, .int pg), (2, .int fo), (3, .int dx), (4, .int dy)] := hl
  have hF : xfr M M (mS md am) := xfr.rf
  refine lv_aload_n hx hb d_M_use_0 rfl (lv_at hl 0 rfl) ?_
  refine lv_iload_n hx hb d_M_use_1 rfl (lv_at hl 1 rfl) ?_
  refine lv_iconst (v := nI 0) hx hb d_M_use_2 (by decide) ?_
  refine lv_iconst (v := nI 3) hx hb d_M_use_3 (by decide) ?_
  refine x_callG hC (c_M_in l G M (Array.size s.heap) (pg) (nI 0) (nI 3)) k_842 k_13 ⟨Nat.le_of_ble_eq_true rfl, Nat.le_of_ble_eq_true rfl⟩ ⟨Nat.le_of_ble_eq_true rfl, Nat.le_of_ble_eq_true rfl⟩ hw hl.1 (Nat.le_of_ble_eq_true rfl) d_M_use_4 (x_ivS hC k_842 k_840 k_841 k_13 (show _ ∧ _ ∧ _ = some 3 from by decide +kernel) rfl d_M_use_4) (fun rv M1 H locs hq hw => ?_) (fun _ _ _ _ _ h _ _ => h.elim)
  obtain ⟨rfl, hM⟩ := hq
  subst M1
  refine W.eq (g2 := F0 m 7 ls [.int (zI (inP pg (nI 0) (nI 3))), .ref md]) rfl ?_
  refine lv_if_eq (tgt := 24) hx hb d_M_use_7 (by decide) (fun c_7 => ?_) (fun c_7 => ?_)
  · have c_7 := zI_0.mp c_7
    have c_7 := (not_congr num_3).mp c_7
    refine lv_iconst (v := nI 1) hx hb d_M_use_24 (by decide) ?_
    refine lv_goto (tgt := 73) hx hb d_M_use_25 (by decide) ?_
    refine m_put hC hw hR hF 0 1 rfl (by decide) (hts _ k_734) (fun _ h9 => h9) rfl (by decide +kernel) rfl rfl d_M_use_73 (fun M3 H locs nu2 hnu2 enu2 hR hF hw => ?_)
    refine lv_aload_n hx hb d_M_use_76 rfl (lv_at hl 0 rfl) ?_
    refine x_get hC hw hR.1 rfl 0 (by decide) (hts _ k_734) (fun _ h9 => h9) rfl d_M_use_77 ?_
    refine x_vi (y := nI 1) (by rw [enu2]) ?_
    refine lv_if_le (tgt := 85) hx hb d_M_use_80 (by decide) (fun c_80 => ?_) (fun c_80 => ?_)
    · exact absurd c_80 (by decide +kernel)
    · refine lv_iconst (v := nI 0) hx hb d_M_use_83 (by decide) ?_
      have hk : useK nu pg fo dx dy = 1 := by rw [useK, kt_t (fun h => c_7 h.1)]
      exact x_iret hC hr hw (⟨congrArg (fun z => some (Value.int (nI z))) (kt_f (by rw [hk]; decide)).symm, nu2, sg, hR, (eqx.trans (L := [0, 7, 9]) (eqx.rf (L := [0, 7, 9])) hnu2 (by decide) (by decide)), (eqx.rf (L := [8, 10, 11])), hF, (by rw [hk, enu2]), fun h => absurd h (by rw [hk]; decide), fun _ => ⟨(eqx.trans (L := [0]) (eqx.rf (L := [0])) hnu2 (by decide) (by decide)), rfl⟩⟩) (Nat.le_of_ble_eq_true rfl) (Nat.le_of_ble_eq_true rfl) d_M_use_84
  · have c_7 := zI_1.mp c_7
    have c_7 := num_3.mp c_7
    obtain ⟨j, hj, rfl⟩ := c_7.ex
    have hcj : cN (nI j) = j := cN_nI (by omega)
    refine lv_iload_n hx hb d_M_use_10 rfl (lv_at hl 2 rfl) ?_
    refine lv_iconst (v := nI 0) hx hb d_M_use_11 (by decide) ?_
    refine lv_aload_n hx hb d_M_use_12 rfl (lv_at hl 0 rfl) ?_
    refine x_get hC hw hR.1 rfl 6 (by decide) (hts _ k_740) (fun _ h9 => h9) rfl d_M_use_13 ?_
    refine lv_iconst (v := nI 1) hx hb d_M_use_16 (by decide) ?_
    refine lv_isub hx hb d_M_use_17 ?_
    refine x_callG hC (c_M_in l G M (Array.size H) (fo) (nI 0) ((nI (nu 6 0) - nI 1))) k_842 k_13 ⟨Nat.le_of_ble_eq_true rfl, Nat.le_of_ble_eq_true rfl⟩ ⟨Nat.le_of_ble_eq_true rfl, Nat.le_of_ble_eq_true rfl⟩ hw hl.1 (Nat.le_of_ble_eq_true rfl) d_M_use_18 (x_ivS hC k_842 k_840 k_841 k_13 (show _ ∧ _ ∧ _ = some 3 from by decide +kernel) rfl d_M_use_18) (fun rv M4 H locs hq hw => ?_) (fun _ _ _ _ _ h _ _ => h.elim)
    obtain ⟨rfl, hM⟩ := hq
    subst M4
    refine W.eq (g2 := F0 m 21 ls [.int (zI (inP fo (nI 0) (nI (nu 6 0) - nI 1))), .ref md]) rfl ?_
    refine lv_if_ne (tgt := 28) hx hb d_M_use_21 (by decide) (fun c_21 => ?_) (fun c_21 => ?_)
    · have c_21 := zI_1.mp c_21
      have c_21 := (num_in (by omega)).mp c_21
      obtain ⟨i, hi, rfl⟩ := c_21.ex
      have hci : cN (nI i) = i := cN_nI (by omega)
      refine lv_iload_n hx hb d_M_use_28 rfl (lv_at hl 3 rfl) ?_
      refine lv_sipush (v := (-999)) hx hb d_M_use_29 (by decide) ?_
      refine lv_sipush (v := nI 999) hx hb d_M_use_32 (by decide) ?_
      refine x_callG hC (c_M_in l G M (Array.size H) (dx) ((-999)) (nI 999)) k_842 k_13 ⟨Nat.le_of_ble_eq_true rfl, Nat.le_of_ble_eq_true rfl⟩ ⟨Nat.le_of_ble_eq_true rfl, Nat.le_of_ble_eq_true rfl⟩ hw hl.1 (Nat.le_of_ble_eq_true rfl) d_M_use_35 (x_ivS hC k_842 k_840 k_841 k_13 (show _ ∧ _ ∧ _ = some 3 from by decide +kernel) rfl d_M_use_35) (fun rv M5 H locs hq hw => ?_) (fun _ _ _ _ _ h _ _ => h.elim)
      obtain ⟨rfl, hM⟩ := hq
      subst M5
      refine W.eq (g2 := F0 m 38 ls [.int (zI (inP dx (-999) (nI 999))), .ref md]) rfl ?_
      refine lv_if_eq (tgt := 55) hx hb d_M_use_38 (by decide) (fun c_38 => ?_) (fun c_38 => ?_)
      · have c_38 := zI_0.mp c_38
        refine lv_iconst (v := nI 2) hx hb d_M_use_55 (by decide) ?_
        refine lv_goto (tgt := 73) hx hb d_M_use_56 (by decide) ?_
        refine m_put hC hw hR hF 0 2 rfl (by decide) (hts _ k_734) (fun _ h9 => h9) rfl (by decide +kernel) rfl rfl d_M_use_73 (fun M7 H locs nu6 hnu6 enu6 hR hF hw => ?_)
        refine lv_aload_n hx hb d_M_use_76 rfl (lv_at hl 0 rfl) ?_
        refine x_get hC hw hR.1 rfl 0 (by decide) (hts _ k_734) (fun _ h9 => h9) rfl d_M_use_77 ?_
        refine x_vi (y := nI 2) (by rw [enu6]) ?_
        refine lv_if_le (tgt := 85) hx hb d_M_use_80 (by decide) (fun c_80 => ?_) (fun c_80 => ?_)
        · exact absurd c_80 (by decide +kernel)
        · refine lv_iconst (v := nI 0) hx hb d_M_use_83 (by decide) ?_
          have hk : useK nu (nI j) (nI i) dx dy = 2 := by rw [useK, kt_f (not_not_intro ⟨c_7, c_21⟩), kt_t (fun h => c_38 h.1)]
          exact x_iret hC hr hw (⟨congrArg (fun z => some (Value.int (nI z))) (kt_f (by rw [hk]; decide)).symm, nu6, sg, hR, (eqx.trans (L := [0, 7, 9]) (eqx.rf (L := [0, 7, 9])) hnu6 (by decide) (by decide)), (eqx.rf (L := [8, 10, 11])), hF, (by rw [hk, enu6]), fun h => absurd h (by rw [hk]; decide), fun _ => ⟨(eqx.trans (L := [0]) (eqx.rf (L := [0])) hnu6 (by decide) (by decide)), rfl⟩⟩) (Nat.le_of_ble_eq_true rfl) (Nat.le_of_ble_eq_true rfl) d_M_use_84
      · have c_38 := zI_1.mp c_38
        refine lv_iload hx hb d_M_use_41 (lv_at hl 4 rfl) ?_
        refine lv_sipush (v := (-999)) hx hb d_M_use_43 (by decide) ?_
        refine lv_sipush (v := nI 999) hx hb d_M_use_46 (by decide) ?_
        refine x_callG hC (c_M_in l G M (Array.size H) (dy) ((-999)) (nI 999)) k_842 k_13 ⟨Nat.le_of_ble_eq_true rfl, Nat.le_of_ble_eq_true rfl⟩ ⟨Nat.le_of_ble_eq_true rfl, Nat.le_of_ble_eq_true rfl⟩ hw hl.1 (Nat.le_of_ble_eq_true rfl) d_M_use_49 (x_ivS hC k_842 k_840 k_841 k_13 (show _ ∧ _ ∧ _ = some 3 from by decide +kernel) rfl d_M_use_49) (fun rv M8 H locs hq hw => ?_) (fun _ _ _ _ _ h _ _ => h.elim)
        obtain ⟨rfl, hM⟩ := hq
        subst M8
        refine W.eq (g2 := F0 m 52 ls [.int (zI (inP dy (-999) (nI 999))), .ref md]) rfl ?_
        refine lv_if_ne (tgt := 59) hx hb d_M_use_52 (by decide) (fun c_52 => ?_) (fun c_52 => ?_)
        · have c_52 := zI_1.mp c_52
          refine lv_aload_n hx hb d_M_use_59 rfl (lv_at hl 0 rfl) ?_
          refine x_get hC hw hR.1 rfl 7 (by decide) (hts _ k_741) (fun _ h9 => h9) rfl d_M_use_60 ?_
          refine lv_bipush (v := nI 12) hx hb d_M_use_63 (by decide) ?_
          refine lv_icmp_ne (tgt := 72) hx hb d_M_use_65 (by decide) (fun c_65 => ?_) (fun c_65 => ?_)
          · have c_65 := (not_congr (nI_eq (by omega) (by omega))).mp c_65
            refine lv_iconst (v := nI 0) hx hb d_M_use_72 (by decide) ?_
            refine m_put hC hw hR hF 0 0 rfl (by decide) (hts _ k_734) (fun _ h9 => h9) rfl (by decide +kernel) rfl rfl d_M_use_73 (fun M10 H locs nu9 hnu9 enu9 hR hF hw => ?_)
            refine lv_aload_n hx hb d_M_use_76 rfl (lv_at hl 0 rfl) ?_
            refine x_get hC hw hR.1 rfl 0 (by decide) (hts _ k_734) (fun _ h9 => h9) rfl d_M_use_77 ?_
            refine x_vi (y := nI 0) (by rw [enu9]) ?_
            refine lv_if_le (tgt := 85) hx hb d_M_use_80 (by decide) (fun c_80 => ?_) (fun c_80 => ?_)
            · refine lv_aload_n hx hb d_M_use_85 rfl (lv_at hl 0 rfl) ?_
              refine x_get hC hw hR.1 rfl 8 (by decide) (hts _ k_742) (fun _ h9 => h9) rfl d_M_use_86 ?_
              refine lv_aload_n hx hb d_M_use_89 rfl (lv_at hl 0 rfl) ?_
              refine x_get hC hw hR.1 rfl 7 (by decide) (hts _ k_741) (fun _ h9 => h9) rfl d_M_use_90 ?_
              refine x_vi (y := nI (nu 7 0)) (by rw [hnu9 7 (by decide)]) ?_
              refine lv_iload_n hx hb d_M_use_93 rfl (lv_at hl 1 rfl) ?_
              refine m_stI hC hw hR hF 8 (nu 7 0) rfl (rfl) (by show _ < 12; omega) (by decide) d_M_use_94 (fun M11 H locs sg12 hsg12 esg12 hR hF hw => ?_)
              refine lv_aload_n hx hb d_M_use_95 rfl (lv_at hl 0 rfl) ?_
              refine x_get hC hw hR.1 rfl 9 (by decide) (hts _ k_743) (fun _ h9 => h9) rfl d_M_use_96 ?_
              refine lv_aload_n hx hb d_M_use_99 rfl (lv_at hl 0 rfl) ?_
              refine x_get hC hw hR.1 rfl 7 (by decide) (hts _ k_741) (fun _ h9 => h9) rfl d_M_use_100 ?_
              refine x_vi (y := nI (nu 7 0)) (by rw [hnu9 7 (by decide)]) ?_
              refine lv_iload_n hx hb d_M_use_103 rfl (lv_at hl 2 rfl) ?_
              refine m_stN hC hw hR hF 9 (nu 7 0) i rfl (rfl) rfl (by show _ < 12; omega) (by decide) d_M_use_104 (fun M13 H locs nu14 hnu14 enu14 hR hF hw => ?_)
              refine lv_aload_n hx hb d_M_use_105 rfl (lv_at hl 0 rfl) ?_
              refine x_get hC hw hR.1 rfl 10 (by decide) (hts _ k_744) (fun _ h9 => h9) rfl d_M_use_106 ?_
              refine lv_aload_n hx hb d_M_use_109 rfl (lv_at hl 0 rfl) ?_
              refine x_get hC hw hR.1 rfl 7 (by decide) (hts _ k_741) (fun _ h9 => h9) rfl d_M_use_110 ?_
              refine x_vi (y := nI (nu 7 0)) (by rw [hnu14 7 (by decide), hnu9 7 (by decide)]) ?_
              refine lv_iload_n hx hb d_M_use_113 rfl (lv_at hl 3 rfl) ?_
              refine m_stI hC hw hR hF 10 (nu 7 0) rfl (rfl) (by show _ < 12; omega) (by decide) d_M_use_114 (fun M15 H locs sg16 hsg16 esg16 hR hF hw => ?_)
              refine lv_aload_n hx hb d_M_use_115 rfl (lv_at hl 0 rfl) ?_
              refine x_get hC hw hR.1 rfl 11 (by decide) (hts _ k_745) (fun _ h9 => h9) rfl d_M_use_116 ?_
              refine lv_aload_n hx hb d_M_use_119 rfl (lv_at hl 0 rfl) ?_
              refine x_get hC hw hR.1 rfl 7 (by decide) (hts _ k_741) (fun _ h9 => h9) rfl d_M_use_120 ?_
              refine x_vi (y := nI (nu 7 0)) (by rw [hnu14 7 (by decide), hnu9 7 (by decide)]) ?_
              refine lv_iload hx hb d_M_use_123 (lv_at hl 4 rfl) ?_
              refine m_stI hC hw hR hF 11 (nu 7 0) rfl (rfl) (by show _ < 12; omega) (by decide) d_M_use_125 (fun M17 H locs sg18 hsg18 esg18 hR hF hw => ?_)
              refine lv_aload_n hx hb d_M_use_126 rfl (lv_at hl 0 rfl) ?_
              refine lv_dup hx hb d_M_use_127 rfl ?_
              refine x_get hC hw hR.1 rfl 7 (by decide) (hts _ k_741) (fun _ h9 => h9) rfl d_M_use_128 ?_
              refine x_vi (y := nI (nu 7 0)) (by rw [hnu14 7 (by decide), hnu9 7 (by decide)]) ?_
              refine lv_iconst (v := nI 1) hx hb d_M_use_131 (by decide) ?_
              refine lv_iadd hx hb d_M_use_132 ?_
              refine x_vi (y := nI ((nu 7 0) + 1)) (nI_add _ _) ?_
              refine m_put hC hw hR hF 7 ((nu 7 0) + 1) rfl (by decide) (hts _ k_741) (fun _ h9 => h9) rfl (by decide +kernel) rfl rfl d_M_use_133 (fun M20 H locs nu19 hnu19 enu19 hR hF hw => ?_)
              refine lv_aload_n hx hb d_M_use_136 rfl (lv_at hl 0 rfl) ?_
              refine x_get hC hw hR.1 rfl 7 (by decide) (hts _ k_741) (fun _ h9 => h9) rfl d_M_use_137 ?_
              refine x_vi (y := nI ((nu 7 0) + 1)) (by rw [enu19]) ?_
              refine lv_iconst (v := nI 1) hx hb d_M_use_140 (by decide) ?_
              refine lv_isub hx hb d_M_use_141 ?_
              refine x_vi (y := nI (((nu 7 0) + 1) - 1)) (x_sub (by omega)) ?_
              have hk : useK nu (nI j) (nI i) dx dy = 0 := by rw [useK, kt_f (not_not_intro ⟨c_7, c_21⟩), kt_f (not_not_intro ⟨c_38, c_52⟩), kt_f c_65]
              exact x_iret hC hr hw (⟨(by rw [kt_t hk]; rw [Nat.add_sub_cancel]), nu19, sg18, hR, (eqx.trans (L := [0, 7, 9]) (eqx.trans (L := [0, 7, 9]) (eqx.trans (L := [0, 7, 9]) (eqx.rf (L := [0, 7, 9])) hnu9 (by decide) (by decide)) hnu14 (by decide) (by decide)) hnu19 (by decide) (by decide)), (eqx.trans (L := [8, 10, 11]) (eqx.trans (L := [8, 10, 11]) (eqx.trans (L := [8, 10, 11]) (eqx.rf (L := [8, 10, 11])) hsg12 (by decide) (by decide)) hsg16 (by decide) (by decide)) hsg18 (by decide) (by decide)), hF, (by rw [hk, hnu19 0 (by decide), hnu14 0 (by decide), enu9]), fun _ => ⟨(by rw [enu19]), (by rw [hci]; exact (by rw [hnu19 9 (by decide), enu14, hnu9 9 (by decide)])), (by rw [hsg18 8 (by decide), hsg16 8 (by decide), esg12]), (by rw [hsg18 10 (by decide), esg16, hsg12 10 (by decide)]), (by rw [esg18, hsg16 11 (by decide), hsg12 11 (by decide)])⟩, fun h => absurd hk h⟩) (Nat.le_of_ble_eq_true rfl) (Nat.le_of_ble_eq_true rfl) d_M_use_142
            · exact absurd c_80 (by decide +kernel)
          · have c_65 := (nI_eq (by omega) (by omega)).mp c_65
            refine lv_iconst (v := nI 3) hx hb d_M_use_68 (by decide) ?_
            refine lv_goto (tgt := 73) hx hb d_M_use_69 (by decide) ?_
            refine m_put hC hw hR hF 0 3 rfl (by decide) (hts _ k_734) (fun _ h9 => h9) rfl (by decide +kernel) rfl rfl d_M_use_73 (fun M22 H locs nu21 hnu21 enu21 hR hF hw => ?_)
            refine lv_aload_n hx hb d_M_use_76 rfl (lv_at hl 0 rfl) ?_
            refine x_get hC hw hR.1 rfl 0 (by decide) (hts _ k_734) (fun _ h9 => h9) rfl d_M_use_77 ?_
            refine x_vi (y := nI 3) (by rw [enu21]) ?_
            refine lv_if_le (tgt := 85) hx hb d_M_use_80 (by decide) (fun c_80 => ?_) (fun c_80 => ?_)
            · exact absurd c_80 (by decide +kernel)
            · refine lv_iconst (v := nI 0) hx hb d_M_use_83 (by decide) ?_
              have hk : useK nu (nI j) (nI i) dx dy = 3 := by rw [useK, kt_f (not_not_intro ⟨c_7, c_21⟩), kt_f (not_not_intro ⟨c_38, c_52⟩), kt_t c_65]
              exact x_iret hC hr hw (⟨congrArg (fun z => some (Value.int (nI z))) (kt_f (by rw [hk]; decide)).symm, nu21, sg, hR, (eqx.trans (L := [0, 7, 9]) (eqx.rf (L := [0, 7, 9])) hnu21 (by decide) (by decide)), (eqx.rf (L := [8, 10, 11])), hF, (by rw [hk, enu21]), fun h => absurd h (by rw [hk]; decide), fun _ => ⟨(eqx.trans (L := [0]) (eqx.rf (L := [0])) hnu21 (by decide) (by decide)), rfl⟩⟩) (Nat.le_of_ble_eq_true rfl) (Nat.le_of_ble_eq_true rfl) d_M_use_84
        · have c_52 := zI_0.mp c_52
          refine lv_iconst (v := nI 2) hx hb d_M_use_55 (by decide) ?_
          refine lv_goto (tgt := 73) hx hb d_M_use_56 (by decide) ?_
          refine m_put hC hw hR hF 0 2 rfl (by decide) (hts _ k_734) (fun _ h9 => h9) rfl (by decide +kernel) rfl rfl d_M_use_73 (fun M24 H locs nu23 hnu23 enu23 hR hF hw => ?_)
          refine lv_aload_n hx hb d_M_use_76 rfl (lv_at hl 0 rfl) ?_
          refine x_get hC hw hR.1 rfl 0 (by decide) (hts _ k_734) (fun _ h9 => h9) rfl d_M_use_77 ?_
          refine x_vi (y := nI 2) (by rw [enu23]) ?_
          refine lv_if_le (tgt := 85) hx hb d_M_use_80 (by decide) (fun c_80 => ?_) (fun c_80 => ?_)
          · exact absurd c_80 (by decide +kernel)
          · refine lv_iconst (v := nI 0) hx hb d_M_use_83 (by decide) ?_
            have hk : useK nu (nI j) (nI i) dx dy = 2 := by rw [useK, kt_f (not_not_intro ⟨c_7, c_21⟩), kt_t (fun h => c_52 h.2)]
            exact x_iret hC hr hw (⟨congrArg (fun z => some (Value.int (nI z))) (kt_f (by rw [hk]; decide)).symm, nu23, sg, hR, (eqx.trans (L := [0, 7, 9]) (eqx.rf (L := [0, 7, 9])) hnu23 (by decide) (by decide)), (eqx.rf (L := [8, 10, 11])), hF, (by rw [hk, enu23]), fun h => absurd h (by rw [hk]; decide), fun _ => ⟨(eqx.trans (L := [0]) (eqx.rf (L := [0])) hnu23 (by decide) (by decide)), rfl⟩⟩) (Nat.le_of_ble_eq_true rfl) (Nat.le_of_ble_eq_true rfl) d_M_use_84
    · have c_21 := zI_0.mp c_21
      have c_21 := (not_congr (num_in (by omega))).mp c_21
      refine lv_iconst (v := nI 1) hx hb d_M_use_24 (by decide) ?_
      refine lv_goto (tgt := 73) hx hb d_M_use_25 (by decide) ?_
      refine m_put hC hw hR hF 0 1 rfl (by decide) (hts _ k_734) (fun _ h9 => h9) rfl (by decide +kernel) rfl rfl d_M_use_73 (fun M26 H locs nu25 hnu25 enu25 hR hF hw => ?_)
      refine lv_aload_n hx hb d_M_use_76 rfl (lv_at hl 0 rfl) ?_
      refine x_get hC hw hR.1 rfl 0 (by decide) (hts _ k_734) (fun _ h9 => h9) rfl d_M_use_77 ?_
      refine x_vi (y := nI 1) (by rw [enu25]) ?_
      refine lv_if_le (tgt := 85) hx hb d_M_use_80 (by decide) (fun c_80 => ?_) (fun c_80 => ?_)
      · exact absurd c_80 (by decide +kernel)
      · refine lv_iconst (v := nI 0) hx hb d_M_use_83 (by decide) ?_
        have hk : useK nu (nI j) fo dx dy = 1 := by rw [useK, kt_t (fun h => c_21 h.2)]
        exact x_iret hC hr hw (⟨congrArg (fun z => some (Value.int (nI z))) (kt_f (by rw [hk]; decide)).symm, nu25, sg, hR, (eqx.trans (L := [0, 7, 9]) (eqx.rf (L := [0, 7, 9])) hnu25 (by decide) (by decide)), (eqx.rf (L := [8, 10, 11])), hF, (by rw [hk, enu25]), fun h => absurd h (by rw [hk]; decide), fun _ => ⟨(eqx.trans (L := [0]) (eqx.rf (L := [0])) hnu25 (by decide) (by decide)), rfl⟩⟩) (Nat.le_of_ble_eq_true rfl) (Nat.le_of_ble_eq_true rfl) d_M_use_84

set_option maxHeartbeats 1000000 in
set_option maxRecDepth 100000 in
/-- letter -/
theorem c_M_letter (l : Launch) (G : xT) (M : xMem) (sz : Nat) (md : Nat) (am : Nat → Nat) (nu : Nat → Nat → Nat) (sg : Nat → Nat → Int32) (hR : mRep G M md am nu sg) (wo co : Int32) (h4 : nu 12 0 ≤ 4) (h8 : ∀ w, nu 13 w ≤ 8) : xMet l G y_M_letter (Cond.code y_M_letter b_M_letter 3 (Option.some Jvm.ClassFile.FieldType.int) :: x_tbl) { frames := 1, cells := 0, slots := 0, locals := 25 } [.ref md, .int wo, .int co] M sz (fun v M' => v = some (.int (nI (kt (letterK nu wo co = 0) (nu 13 (cN wo) + 1) 0))) ∧ ∃ (nu' : Nat → Nat → Nat) (sg' : Nat → Nat → Int32), mRep G M' md am nu' sg' ∧ eqx [0, 13] nu nu' ∧ eqx [14] sg sg' ∧ xfr M M' (mS md am) ∧ nu' 0 0 = letterK nu wo co ∧ (letterK nu wo co = 0 → nu' 13 = va_up (nu 13) (cN wo) (nu 13 (cN wo) + 1) ∧ sg' 14 = va_up (sg 14) (8 * cN wo + nu 13 (cN wo)) co) ∧ (letterK nu wo co ≠ 0 → sameP nu nu' sg sg')) (fun _ _ => False) := by
  refine xMet.of (by decide) (Nat.le_of_ble_eq_true rfl) ?_
  intro p e s m below meth c ls hC hr hnm hno hsz hw hl
  obtain ⟨hx, hb, hown, hts, hK, hml, hlk, hz⟩ := id hC
  have hl : lv_has ls 3 [(0, .ref md), (1, .int wo), (2, .int co)] := hl
  have hF : xfr M M (mS md am) := xfr.rf
  refine lv_aload_n hx hb d_M_letter_0 rfl (lv_at hl 0 rfl) ?_
  refine lv_iload_n hx hb d_M_letter_1 rfl (lv_at hl 1 rfl) ?_
  refine lv_iconst (v := nI 0) hx hb d_M_letter_2 (by decide) ?_
  refine lv_aload_n hx hb d_M_letter_3 rfl (lv_at hl 0 rfl) ?_
  refine x_get hC hw hR.1 rfl 12 (by decide) (hts _ k_746) (fun _ h9 => h9) rfl d_M_letter_4 ?_
  refine lv_iconst (v := nI 1) hx hb d_M_letter_7 (by decide) ?_
  refine lv_isub hx hb d_M_letter_8 ?_
  refine x_callG hC (c_M_in l G M (Array.size s.heap) (wo) (nI 0) ((nI (nu 12 0) - nI 1))) k_842 k_13 ⟨Nat.le_of_ble_eq_true rfl, Nat.le_of_ble_eq_true rfl⟩ ⟨Nat.le_of_ble_eq_true rfl, Nat.le_of_ble_eq_true rfl⟩ hw hl.1 (Nat.le_of_ble_eq_true rfl) d_M_letter_9 (x_ivS hC k_842 k_840 k_841 k_13 (show _ ∧ _ ∧ _ = some 3 from by decide +kernel) rfl d_M_letter_9) (fun rv M1 H locs hq hw => ?_) (fun _ _ _ _ _ h _ _ => h.elim)
  obtain ⟨rfl, hM⟩ := hq
  subst M1
  refine W.eq (g2 := F0 m 12 ls [.int (zI (inP wo (nI 0) (nI (nu 12 0) - nI 1))), .ref md]) rfl ?_
  refine lv_if_ne (tgt := 19) hx hb d_M_letter_12 (by decide) (fun c_12 => ?_) (fun c_12 => ?_)
  · have c_12 := zI_1.mp c_12
    have c_12 := (num_in (by omega)).mp c_12
    obtain ⟨j, hj, rfl⟩ := c_12.ex
    have hcj : cN (nI j) = j := cN_nI (by omega)
    have h8j := h8 j
    refine lv_iload_n hx hb d_M_letter_19 rfl (lv_at hl 2 rfl) ?_
    refine lv_bipush (v := nI 33) hx hb d_M_letter_20 (by decide) ?_
    refine lv_bipush (v := nI 126) hx hb d_M_letter_22 (by decide) ?_
    refine x_callG hC (c_M_in l G M (Array.size H) (co) (nI 33) (nI 126)) k_842 k_13 ⟨Nat.le_of_ble_eq_true rfl, Nat.le_of_ble_eq_true rfl⟩ ⟨Nat.le_of_ble_eq_true rfl, Nat.le_of_ble_eq_true rfl⟩ hw hl.1 (Nat.le_of_ble_eq_true rfl) d_M_letter_24 (x_ivS hC k_842 k_840 k_841 k_13 (show _ ∧ _ ∧ _ = some 3 from by decide +kernel) rfl d_M_letter_24) (fun rv M2 H locs hq hw => ?_) (fun _ _ _ _ _ h _ _ => h.elim)
    obtain ⟨rfl, hM⟩ := hq
    subst M2
    refine W.eq (g2 := F0 m 27 ls [.int (zI (inP co (nI 33) (nI 126))), .ref md]) rfl ?_
    refine lv_if_eq (tgt := 36) hx hb d_M_letter_27 (by decide) (fun c_27 => ?_) (fun c_27 => ?_)
    · have c_27 := zI_0.mp c_27
      refine lv_iconst (v := nI 2) hx hb d_M_letter_36 (by decide) ?_
      refine lv_goto (tgt := 56) hx hb d_M_letter_37 (by decide) ?_
      refine m_put hC hw hR hF 0 2 rfl (by decide) (hts _ k_734) (fun _ h9 => h9) rfl (by decide +kernel) rfl rfl d_M_letter_56 (fun M4 H locs nu3 hnu3 enu3 hR hF hw => ?_)
      refine lv_aload_n hx hb d_M_letter_59 rfl (lv_at hl 0 rfl) ?_
      refine x_get hC hw hR.1 rfl 0 (by decide) (hts _ k_734) (fun _ h9 => h9) rfl d_M_letter_60 ?_
      refine x_vi (y := nI 2) (by rw [enu3]) ?_
      refine lv_if_le (tgt := 68) hx hb d_M_letter_63 (by decide) (fun c_63 => ?_) (fun c_63 => ?_)
      · exact absurd c_63 (by decide +kernel)
      · refine lv_iconst (v := nI 0) hx hb d_M_letter_66 (by decide) ?_
        have hk : letterK nu (nI j) co = 2 := by rw [letterK, kt_f (not_not_intro c_12), kt_t (fun h => c_27 h.1)]
        exact x_iret hC hr hw (⟨congrArg (fun z => some (Value.int (nI z))) (kt_f (by rw [hk]; decide)).symm, nu3, sg, hR, (eqx.trans (L := [0, 13]) (eqx.rf (L := [0, 13])) hnu3 (by decide) (by decide)), (eqx.rf (L := [14])), hF, (by rw [hk, enu3]), fun h => absurd h (by rw [hk]; decide), fun _ => ⟨(eqx.trans (L := [0]) (eqx.rf (L := [0])) hnu3 (by decide) (by decide)), rfl⟩⟩) (Nat.le_of_ble_eq_true rfl) (Nat.le_of_ble_eq_true rfl) d_M_letter_67
    · have c_27 := zI_1.mp c_27
      refine lv_iload_n hx hb d_M_letter_30 rfl (lv_at hl 2 rfl) ?_
      refine lv_bipush (v := nI 42) hx hb d_M_letter_31 (by decide) ?_
      refine lv_icmp_ne (tgt := 40) hx hb d_M_letter_33 (by decide) (fun c_33 => ?_) (fun c_33 => ?_)
      · refine lv_aload_n hx hb d_M_letter_40 rfl (lv_at hl 0 rfl) ?_
        refine x_get hC hw hR.1 rfl 13 (by decide) (hts _ k_747) (fun _ h9 => h9) rfl d_M_letter_41 ?_
        refine lv_iload_n hx hb d_M_letter_44 rfl (lv_at hl 1 rfl) ?_
        refine m_ldN hC hw hR 13 j rfl (rfl) (by show _ < 4; omega) (by decide) d_M_letter_45 ?_
        refine lv_bipush (v := nI 8) hx hb d_M_letter_46 (by decide) ?_
        refine lv_icmp_ne (tgt := 55) hx hb d_M_letter_48 (by decide) (fun c_48 => ?_) (fun c_48 => ?_)
        · have c_48 := (not_congr (nI_eq (by omega) (by omega))).mp c_48
          refine lv_iconst (v := nI 0) hx hb d_M_letter_55 (by decide) ?_
          refine m_put hC hw hR hF 0 0 rfl (by decide) (hts _ k_734) (fun _ h9 => h9) rfl (by decide +kernel) rfl rfl d_M_letter_56 (fun M6 H locs nu5 hnu5 enu5 hR hF hw => ?_)
          refine lv_aload_n hx hb d_M_letter_59 rfl (lv_at hl 0 rfl) ?_
          refine x_get hC hw hR.1 rfl 0 (by decide) (hts _ k_734) (fun _ h9 => h9) rfl d_M_letter_60 ?_
          refine x_vi (y := nI 0) (by rw [enu5]) ?_
          refine lv_if_le (tgt := 68) hx hb d_M_letter_63 (by decide) (fun c_63 => ?_) (fun c_63 => ?_)
          · refine lv_aload_n hx hb d_M_letter_68 rfl (lv_at hl 0 rfl) ?_
            refine x_get hC hw hR.1 rfl 14 (by decide) (hts _ k_748) (fun _ h9 => h9) rfl d_M_letter_69 ?_
            refine lv_bipush (v := nI 8) hx hb d_M_letter_72 (by decide) ?_
            refine lv_iload_n hx hb d_M_letter_74 rfl (lv_at hl 1 rfl) ?_
            refine lv_imul hx hb d_M_letter_75 ?_
            refine x_vi (y := nI (8 * j)) (pk_mul _ _) ?_
            refine lv_aload_n hx hb d_M_letter_76 rfl (lv_at hl 0 rfl) ?_
            refine x_get hC hw hR.1 rfl 13 (by decide) (hts _ k_747) (fun _ h9 => h9) rfl d_M_letter_77 ?_
            refine lv_iload_n hx hb d_M_letter_80 rfl (lv_at hl 1 rfl) ?_
            refine m_ldN hC hw hR 13 j rfl (rfl) (by show _ < 4; omega) (by decide) d_M_letter_81 ?_
            refine x_vi (y := nI (nu 13 j)) (by rw [hnu5 13 (by decide)]) ?_
            refine lv_iadd hx hb d_M_letter_82 ?_
            refine x_vi (y := nI ((8 * j) + (nu 13 j))) (nI_add _ _) ?_
            refine lv_iload_n hx hb d_M_letter_83 rfl (lv_at hl 2 rfl) ?_
            refine m_stI hC hw hR hF 14 ((8 * j) + (nu 13 j)) rfl (rfl) (by show _ < 32; omega) (by decide) d_M_letter_84 (fun M7 H locs sg8 hsg8 esg8 hR hF hw => ?_)
            refine lv_aload_n hx hb d_M_letter_85 rfl (lv_at hl 0 rfl) ?_
            refine x_get hC hw hR.1 rfl 13 (by decide) (hts _ k_747) (fun _ h9 => h9) rfl d_M_letter_86 ?_
            refine lv_iload_n hx hb d_M_letter_89 rfl (lv_at hl 1 rfl) ?_
            refine lv_dup2_11 hx hb d_M_letter_90 rfl rfl ?_
            refine m_ldN hC hw hR 13 j rfl (rfl) (by show _ < 4; omega) (by decide) d_M_letter_91 ?_
            refine x_vi (y := nI (nu 13 j)) (by rw [hnu5 13 (by decide)]) ?_
            refine lv_iconst (v := nI 1) hx hb d_M_letter_92 (by decide) ?_
            refine lv_iadd hx hb d_M_letter_93 ?_
            refine x_vi (y := nI ((nu 13 j) + 1)) (nI_add _ _) ?_
            refine m_stN hC hw hR hF 13 j ((nu 13 j) + 1) rfl (rfl) rfl (by show _ < 4; omega) (by decide) d_M_letter_94 (fun M9 H locs nu10 hnu10 enu10 hR hF hw => ?_)
            refine lv_aload_n hx hb d_M_letter_95 rfl (lv_at hl 0 rfl) ?_
            refine x_get hC hw hR.1 rfl 13 (by decide) (hts _ k_747) (fun _ h9 => h9) rfl d_M_letter_96 ?_
            refine lv_iload_n hx hb d_M_letter_99 rfl (lv_at hl 1 rfl) ?_
            refine m_ldN hC hw hR 13 j rfl (rfl) (by show _ < 4; omega) (by decide) d_M_letter_100 ?_
            refine x_vi (y := nI ((nu 13 j) + 1)) (by rw [enu10, va_up_self]) ?_
            have hk : letterK nu (nI j) co = 0 := by rw [letterK, kt_f (not_not_intro c_12), kt_f (not_not_intro ⟨c_27, c_33⟩), hcj, kt_f c_48]
            exact x_iret hC hr hw (⟨(by rw [kt_t hk]; rw [hcj]), nu10, sg8, hR, (eqx.trans (L := [0, 13]) (eqx.trans (L := [0, 13]) (eqx.rf (L := [0, 13])) hnu5 (by decide) (by decide)) hnu10 (by decide) (by decide)), (eqx.trans (L := [14]) (eqx.rf (L := [14])) hsg8 (by decide) (by decide)), hF, (by rw [hk, hnu10 0 (by decide), enu5]), fun _ => (by rw [hcj]; exact ⟨(by rw [enu10, hnu5 13 (by decide)]), (by rw [esg8])⟩), fun h => absurd hk h⟩) (Nat.le_of_ble_eq_true rfl) (Nat.le_of_ble_eq_true rfl) d_M_letter_101
          · exact absurd c_63 (by decide +kernel)
        · have c_48 := (nI_eq (by omega) (by omega)).mp c_48
          refine lv_iconst (v := nI 3) hx hb d_M_letter_51 (by decide) ?_
          refine lv_goto (tgt := 56) hx hb d_M_letter_52 (by decide) ?_
          refine m_put hC hw hR hF 0 3 rfl (by decide) (hts _ k_734) (fun _ h9 => h9) rfl (by decide +kernel) rfl rfl d_M_letter_56 (fun M12 H locs nu11 hnu11 enu11 hR hF hw => ?_)
          refine lv_aload_n hx hb d_M_letter_59 rfl (lv_at hl 0 rfl) ?_
          refine x_get hC hw hR.1 rfl 0 (by decide) (hts _ k_734) (fun _ h9 => h9) rfl d_M_letter_60 ?_
          refine x_vi (y := nI 3) (by rw [enu11]) ?_
          refine lv_if_le (tgt := 68) hx hb d_M_letter_63 (by decide) (fun c_63 => ?_) (fun c_63 => ?_)
          · exact absurd c_63 (by decide +kernel)
          · refine lv_iconst (v := nI 0) hx hb d_M_letter_66 (by decide) ?_
            have hk : letterK nu (nI j) co = 3 := by rw [letterK, kt_f (not_not_intro c_12), kt_f (not_not_intro ⟨c_27, c_33⟩), hcj, kt_t c_48]
            exact x_iret hC hr hw (⟨congrArg (fun z => some (Value.int (nI z))) (kt_f (by rw [hk]; decide)).symm, nu11, sg, hR, (eqx.trans (L := [0, 13]) (eqx.rf (L := [0, 13])) hnu11 (by decide) (by decide)), (eqx.rf (L := [14])), hF, (by rw [hk, enu11]), fun h => absurd h (by rw [hk]; decide), fun _ => ⟨(eqx.trans (L := [0]) (eqx.rf (L := [0])) hnu11 (by decide) (by decide)), rfl⟩⟩) (Nat.le_of_ble_eq_true rfl) (Nat.le_of_ble_eq_true rfl) d_M_letter_67
      · refine lv_iconst (v := nI 2) hx hb d_M_letter_36 (by decide) ?_
        refine lv_goto (tgt := 56) hx hb d_M_letter_37 (by decide) ?_
        refine m_put hC hw hR hF 0 2 rfl (by decide) (hts _ k_734) (fun _ h9 => h9) rfl (by decide +kernel) rfl rfl d_M_letter_56 (fun M14 H locs nu13 hnu13 enu13 hR hF hw => ?_)
        refine lv_aload_n hx hb d_M_letter_59 rfl (lv_at hl 0 rfl) ?_
        refine x_get hC hw hR.1 rfl 0 (by decide) (hts _ k_734) (fun _ h9 => h9) rfl d_M_letter_60 ?_
        refine x_vi (y := nI 2) (by rw [enu13]) ?_
        refine lv_if_le (tgt := 68) hx hb d_M_letter_63 (by decide) (fun c_63 => ?_) (fun c_63 => ?_)
        · exact absurd c_63 (by decide +kernel)
        · refine lv_iconst (v := nI 0) hx hb d_M_letter_66 (by decide) ?_
          have hk : letterK nu (nI j) co = 2 := by rw [letterK, kt_f (not_not_intro c_12), kt_t (fun h => h.2 c_33)]
          exact x_iret hC hr hw (⟨congrArg (fun z => some (Value.int (nI z))) (kt_f (by rw [hk]; decide)).symm, nu13, sg, hR, (eqx.trans (L := [0, 13]) (eqx.rf (L := [0, 13])) hnu13 (by decide) (by decide)), (eqx.rf (L := [14])), hF, (by rw [hk, enu13]), fun h => absurd h (by rw [hk]; decide), fun _ => ⟨(eqx.trans (L := [0]) (eqx.rf (L := [0])) hnu13 (by decide) (by decide)), rfl⟩⟩) (Nat.le_of_ble_eq_true rfl) (Nat.le_of_ble_eq_true rfl) d_M_letter_67
  · have c_12 := zI_0.mp c_12
    have c_12 := (not_congr (num_in (by omega))).mp c_12
    refine lv_iconst (v := nI 1) hx hb d_M_letter_15 (by decide) ?_
    refine lv_goto (tgt := 56) hx hb d_M_letter_16 (by decide) ?_
    refine m_put hC hw hR hF 0 1 rfl (by decide) (hts _ k_734) (fun _ h9 => h9) rfl (by decide +kernel) rfl rfl d_M_letter_56 (fun M16 H locs nu15 hnu15 enu15 hR hF hw => ?_)
    refine lv_aload_n hx hb d_M_letter_59 rfl (lv_at hl 0 rfl) ?_
    refine x_get hC hw hR.1 rfl 0 (by decide) (hts _ k_734) (fun _ h9 => h9) rfl d_M_letter_60 ?_
    refine x_vi (y := nI 1) (by rw [enu15]) ?_
    refine lv_if_le (tgt := 68) hx hb d_M_letter_63 (by decide) (fun c_63 => ?_) (fun c_63 => ?_)
    · exact absurd c_63 (by decide +kernel)
    · refine lv_iconst (v := nI 0) hx hb d_M_letter_66 (by decide) ?_
      have hk : letterK nu wo co = 1 := by rw [letterK, kt_t c_12]
      exact x_iret hC hr hw (⟨congrArg (fun z => some (Value.int (nI z))) (kt_f (by rw [hk]; decide)).symm, nu15, sg, hR, (eqx.trans (L := [0, 13]) (eqx.rf (L := [0, 13])) hnu15 (by decide) (by decide)), (eqx.rf (L := [14])), hF, (by rw [hk, enu15]), fun h => absurd h (by rw [hk]; decide), fun _ => ⟨(eqx.trans (L := [0]) (eqx.rf (L := [0])) hnu15 (by decide) (by decide)), rfl⟩⟩) (Nat.le_of_ble_eq_true rfl) (Nat.le_of_ble_eq_true rfl) d_M_letter_67

set_option maxHeartbeats 1000000 in
set_option maxRecDepth 100000 in
/-- area -/
theorem c_M_area (l : Launch) (G : xT) (M : xMem) (sz : Nat) (md : Nat) (am : Nat → Nat) (nu : Nat → Nat → Nat) (sg : Nat → Nat → Int32) (hR : mRep G M md am nu sg) (pg x y wd hg : Int32) (h8 : nu 15 0 ≤ 8) : xMet l G y_M_area (Cond.code y_M_area b_M_area 6 (Option.some Jvm.ClassFile.FieldType.int) :: x_tbl) { frames := 1, cells := 0, slots := 0, locals := 25 } [.ref md, .int pg, .int x, .int y, .int wd, .int hg] M sz (fun v M' => v = some (.int (nI (kt (areaK nu pg x y wd hg = 0) (nu 15 0 + 1) 0))) ∧ ∃ (nu' : Nat → Nat → Nat) (sg' : Nat → Nat → Int32), mRep G M' md am nu' sg' ∧ eqx [0, 15] nu nu' ∧ eqx [16, 17, 18, 19, 20] sg sg' ∧ xfr M M' (mS md am) ∧ nu' 0 0 = areaK nu pg x y wd hg ∧ (areaK nu pg x y wd hg = 0 → nu' 15 0 = nu 15 0 + 1 ∧ sg' 16 = va_up (sg 16) (nu 15 0) pg ∧ sg' 17 = va_up (sg 17) (nu 15 0) x ∧ sg' 18 = va_up (sg 18) (nu 15 0) y ∧ sg' 19 = va_up (sg 19) (nu 15 0) wd ∧ sg' 20 = va_up (sg 20) (nu 15 0) hg) ∧ (areaK nu pg x y wd hg ≠ 0 → sameP nu nu' sg sg')) (fun _ _ => False) := by
  refine xMet.of (by decide) (Nat.le_of_ble_eq_true rfl) ?_
  intro p e s m below meth c ls hC hr hnm hno hsz hw hl
  obtain ⟨hx, hb, hown, hts, hK, hml, hlk, hz⟩ := id hC
  have hl : lv_has ls 6 [(0, .ref md), (1, .int pg), (2, .int x), (3, .int y), (4, .int wd), (5, .int hg)] := hl
  have hF : xfr M M (mS md am) := xfr.rf
  refine lv_aload_n hx hb d_M_area_0 rfl (lv_at hl 0 rfl) ?_
  refine lv_iload_n hx hb d_M_area_1 rfl (lv_at hl 1 rfl) ?_
  refine lv_iconst (v := nI 0) hx hb d_M_area_2 (by decide) ?_
  refine lv_iconst (v := nI 3) hx hb d_M_area_3 (by decide) ?_
  refine x_callG hC (c_M_in l G M (Array.size s.heap) (pg) (nI 0) (nI 3)) k_842 k_13 ⟨Nat.le_of_ble_eq_true rfl, Nat.le_of_ble_eq_true rfl⟩ ⟨Nat.le_of_ble_eq_true rfl, Nat.le_of_ble_eq_true rfl⟩ hw hl.1 (Nat.le_of_ble_eq_true rfl) d_M_area_4 (x_ivS hC k_842 k_840 k_841 k_13 (show _ ∧ _ ∧ _ = some 3 from by decide +kernel) rfl d_M_area_4) (fun rv M1 H locs hq hw => ?_) (fun _ _ _ _ _ h _ _ => h.elim)
  obtain ⟨rfl, hM⟩ := hq
  subst M1
  refine W.eq (g2 := F0 m 7 ls [.int (zI (inP pg (nI 0) (nI 3))), .ref md]) rfl ?_
  refine lv_if_ne (tgt := 14) hx hb d_M_area_7 (by decide) (fun c_7 => ?_) (fun c_7 => ?_)
  · have c_7 := zI_1.mp c_7
    have c_7 := num_3.mp c_7
    obtain ⟨j, hj, rfl⟩ := c_7.ex
    have hcj : cN (nI j) = j := cN_nI (by omega)
    refine lv_iload_n hx hb d_M_area_14 rfl (lv_at hl 2 rfl) ?_
    refine lv_sipush (v := (-999)) hx hb d_M_area_15 (by decide) ?_
    refine lv_sipush (v := nI 999) hx hb d_M_area_18 (by decide) ?_
    refine x_callG hC (c_M_in l G M (Array.size H) (x) ((-999)) (nI 999)) k_842 k_13 ⟨Nat.le_of_ble_eq_true rfl, Nat.le_of_ble_eq_true rfl⟩ ⟨Nat.le_of_ble_eq_true rfl, Nat.le_of_ble_eq_true rfl⟩ hw hl.1 (Nat.le_of_ble_eq_true rfl) d_M_area_21 (x_ivS hC k_842 k_840 k_841 k_13 (show _ ∧ _ ∧ _ = some 3 from by decide +kernel) rfl d_M_area_21) (fun rv M2 H locs hq hw => ?_) (fun _ _ _ _ _ h _ _ => h.elim)
    obtain ⟨rfl, hM⟩ := hq
    subst M2
    refine W.eq (g2 := F0 m 24 ls [.int (zI (inP x (-999) (nI 999))), .ref md]) rfl ?_
    refine lv_if_eq (tgt := 64) hx hb d_M_area_24 (by decide) (fun c_24 => ?_) (fun c_24 => ?_)
    · have c_24 := zI_0.mp c_24
      refine lv_iconst (v := nI 2) hx hb d_M_area_64 (by decide) ?_
      refine lv_goto (tgt := 82) hx hb d_M_area_65 (by decide) ?_
      refine m_put hC hw hR hF 0 2 rfl (by decide) (hts _ k_734) (fun _ h9 => h9) rfl (by decide +kernel) rfl rfl d_M_area_82 (fun M4 H locs nu3 hnu3 enu3 hR hF hw => ?_)
      refine lv_aload_n hx hb d_M_area_85 rfl (lv_at hl 0 rfl) ?_
      refine x_get hC hw hR.1 rfl 0 (by decide) (hts _ k_734) (fun _ h9 => h9) rfl d_M_area_86 ?_
      refine x_vi (y := nI 2) (by rw [enu3]) ?_
      refine lv_if_le (tgt := 94) hx hb d_M_area_89 (by decide) (fun c_89 => ?_) (fun c_89 => ?_)
      · exact absurd c_89 (by decide +kernel)
      · refine lv_iconst (v := nI 0) hx hb d_M_area_92 (by decide) ?_
        have hk : areaK nu (nI j) x y wd hg = 2 := by rw [areaK, kt_f (not_not_intro c_7), kt_t (fun h => c_24 h.1)]
        exact x_iret hC hr hw (⟨congrArg (fun z => some (Value.int (nI z))) (kt_f (by rw [hk]; decide)).symm, nu3, sg, hR, (eqx.trans (L := [0, 15]) (eqx.rf (L := [0, 15])) hnu3 (by decide) (by decide)), (eqx.rf (L := [16, 17, 18, 19, 20])), hF, (by rw [hk, enu3]), fun h => absurd h (by rw [hk]; decide), fun _ => ⟨(eqx.trans (L := [0]) (eqx.rf (L := [0])) hnu3 (by decide) (by decide)), rfl⟩⟩) (Nat.le_of_ble_eq_true rfl) (Nat.le_of_ble_eq_true rfl) d_M_area_93
    · have c_24 := zI_1.mp c_24
      refine lv_iload_n hx hb d_M_area_27 rfl (lv_at hl 3 rfl) ?_
      refine lv_sipush (v := (-999)) hx hb d_M_area_28 (by decide) ?_
      refine lv_sipush (v := nI 999) hx hb d_M_area_31 (by decide) ?_
      refine x_callG hC (c_M_in l G M (Array.size H) (y) ((-999)) (nI 999)) k_842 k_13 ⟨Nat.le_of_ble_eq_true rfl, Nat.le_of_ble_eq_true rfl⟩ ⟨Nat.le_of_ble_eq_true rfl, Nat.le_of_ble_eq_true rfl⟩ hw hl.1 (Nat.le_of_ble_eq_true rfl) d_M_area_34 (x_ivS hC k_842 k_840 k_841 k_13 (show _ ∧ _ ∧ _ = some 3 from by decide +kernel) rfl d_M_area_34) (fun rv M5 H locs hq hw => ?_) (fun _ _ _ _ _ h _ _ => h.elim)
      obtain ⟨rfl, hM⟩ := hq
      subst M5
      refine W.eq (g2 := F0 m 37 ls [.int (zI (inP y (-999) (nI 999))), .ref md]) rfl ?_
      refine lv_if_eq (tgt := 64) hx hb d_M_area_37 (by decide) (fun c_37 => ?_) (fun c_37 => ?_)
      · have c_37 := zI_0.mp c_37
        refine lv_iconst (v := nI 2) hx hb d_M_area_64 (by decide) ?_
        refine lv_goto (tgt := 82) hx hb d_M_area_65 (by decide) ?_
        refine m_put hC hw hR hF 0 2 rfl (by decide) (hts _ k_734) (fun _ h9 => h9) rfl (by decide +kernel) rfl rfl d_M_area_82 (fun M7 H locs nu6 hnu6 enu6 hR hF hw => ?_)
        refine lv_aload_n hx hb d_M_area_85 rfl (lv_at hl 0 rfl) ?_
        refine x_get hC hw hR.1 rfl 0 (by decide) (hts _ k_734) (fun _ h9 => h9) rfl d_M_area_86 ?_
        refine x_vi (y := nI 2) (by rw [enu6]) ?_
        refine lv_if_le (tgt := 94) hx hb d_M_area_89 (by decide) (fun c_89 => ?_) (fun c_89 => ?_)
        · exact absurd c_89 (by decide +kernel)
        · refine lv_iconst (v := nI 0) hx hb d_M_area_92 (by decide) ?_
          have hk : areaK nu (nI j) x y wd hg = 2 := by rw [areaK, kt_f (not_not_intro c_7), kt_t (fun h => c_37 h.2.1)]
          exact x_iret hC hr hw (⟨congrArg (fun z => some (Value.int (nI z))) (kt_f (by rw [hk]; decide)).symm, nu6, sg, hR, (eqx.trans (L := [0, 15]) (eqx.rf (L := [0, 15])) hnu6 (by decide) (by decide)), (eqx.rf (L := [16, 17, 18, 19, 20])), hF, (by rw [hk, enu6]), fun h => absurd h (by rw [hk]; decide), fun _ => ⟨(eqx.trans (L := [0]) (eqx.rf (L := [0])) hnu6 (by decide) (by decide)), rfl⟩⟩) (Nat.le_of_ble_eq_true rfl) (Nat.le_of_ble_eq_true rfl) d_M_area_93
      · have c_37 := zI_1.mp c_37
        refine lv_iload hx hb d_M_area_40 (lv_at hl 4 rfl) ?_
        refine lv_iconst (v := nI 0) hx hb d_M_area_42 (by decide) ?_
        refine lv_sipush (v := nI 1999) hx hb d_M_area_43 (by decide) ?_
        refine x_callG hC (c_M_in l G M (Array.size H) (wd) (nI 0) (nI 1999)) k_842 k_13 ⟨Nat.le_of_ble_eq_true rfl, Nat.le_of_ble_eq_true rfl⟩ ⟨Nat.le_of_ble_eq_true rfl, Nat.le_of_ble_eq_true rfl⟩ hw hl.1 (Nat.le_of_ble_eq_true rfl) d_M_area_46 (x_ivS hC k_842 k_840 k_841 k_13 (show _ ∧ _ ∧ _ = some 3 from by decide +kernel) rfl d_M_area_46) (fun rv M8 H locs hq hw => ?_) (fun _ _ _ _ _ h _ _ => h.elim)
        obtain ⟨rfl, hM⟩ := hq
        subst M8
        refine W.eq (g2 := F0 m 49 ls [.int (zI (inP wd (nI 0) (nI 1999))), .ref md]) rfl ?_
        refine lv_if_eq (tgt := 64) hx hb d_M_area_49 (by decide) (fun c_49 => ?_) (fun c_49 => ?_)
        · have c_49 := zI_0.mp c_49
          refine lv_iconst (v := nI 2) hx hb d_M_area_64 (by decide) ?_
          refine lv_goto (tgt := 82) hx hb d_M_area_65 (by decide) ?_
          refine m_put hC hw hR hF 0 2 rfl (by decide) (hts _ k_734) (fun _ h9 => h9) rfl (by decide +kernel) rfl rfl d_M_area_82 (fun M10 H locs nu9 hnu9 enu9 hR hF hw => ?_)
          refine lv_aload_n hx hb d_M_area_85 rfl (lv_at hl 0 rfl) ?_
          refine x_get hC hw hR.1 rfl 0 (by decide) (hts _ k_734) (fun _ h9 => h9) rfl d_M_area_86 ?_
          refine x_vi (y := nI 2) (by rw [enu9]) ?_
          refine lv_if_le (tgt := 94) hx hb d_M_area_89 (by decide) (fun c_89 => ?_) (fun c_89 => ?_)
          · exact absurd c_89 (by decide +kernel)
          · refine lv_iconst (v := nI 0) hx hb d_M_area_92 (by decide) ?_
            have hk : areaK nu (nI j) x y wd hg = 2 := by rw [areaK, kt_f (not_not_intro c_7), kt_t (fun h => c_49 h.2.2.1)]
            exact x_iret hC hr hw (⟨congrArg (fun z => some (Value.int (nI z))) (kt_f (by rw [hk]; decide)).symm, nu9, sg, hR, (eqx.trans (L := [0, 15]) (eqx.rf (L := [0, 15])) hnu9 (by decide) (by decide)), (eqx.rf (L := [16, 17, 18, 19, 20])), hF, (by rw [hk, enu9]), fun h => absurd h (by rw [hk]; decide), fun _ => ⟨(eqx.trans (L := [0]) (eqx.rf (L := [0])) hnu9 (by decide) (by decide)), rfl⟩⟩) (Nat.le_of_ble_eq_true rfl) (Nat.le_of_ble_eq_true rfl) d_M_area_93
        · have c_49 := zI_1.mp c_49
          refine lv_iload hx hb d_M_area_52 (lv_at hl 5 rfl) ?_
          refine lv_iconst (v := nI 0) hx hb d_M_area_54 (by decide) ?_
          refine lv_sipush (v := nI 1999) hx hb d_M_area_55 (by decide) ?_
          refine x_callG hC (c_M_in l G M (Array.size H) (hg) (nI 0) (nI 1999)) k_842 k_13 ⟨Nat.le_of_ble_eq_true rfl, Nat.le_of_ble_eq_true rfl⟩ ⟨Nat.le_of_ble_eq_true rfl, Nat.le_of_ble_eq_true rfl⟩ hw hl.1 (Nat.le_of_ble_eq_true rfl) d_M_area_58 (x_ivS hC k_842 k_840 k_841 k_13 (show _ ∧ _ ∧ _ = some 3 from by decide +kernel) rfl d_M_area_58) (fun rv M11 H locs hq hw => ?_) (fun _ _ _ _ _ h _ _ => h.elim)
          obtain ⟨rfl, hM⟩ := hq
          subst M11
          refine W.eq (g2 := F0 m 61 ls [.int (zI (inP hg (nI 0) (nI 1999))), .ref md]) rfl ?_
          refine lv_if_ne (tgt := 68) hx hb d_M_area_61 (by decide) (fun c_61 => ?_) (fun c_61 => ?_)
          · have c_61 := zI_1.mp c_61
            refine lv_aload_n hx hb d_M_area_68 rfl (lv_at hl 0 rfl) ?_
            refine x_get hC hw hR.1 rfl 15 (by decide) (hts _ k_749) (fun _ h9 => h9) rfl d_M_area_69 ?_
            refine lv_bipush (v := nI 8) hx hb d_M_area_72 (by decide) ?_
            refine lv_icmp_ne (tgt := 81) hx hb d_M_area_74 (by decide) (fun c_74 => ?_) (fun c_74 => ?_)
            · have c_74 := (not_congr (nI_eq (by omega) (by omega))).mp c_74
              refine lv_iconst (v := nI 0) hx hb d_M_area_81 (by decide) ?_
              refine m_put hC hw hR hF 0 0 rfl (by decide) (hts _ k_734) (fun _ h9 => h9) rfl (by decide +kernel) rfl rfl d_M_area_82 (fun M13 H locs nu12 hnu12 enu12 hR hF hw => ?_)
              refine lv_aload_n hx hb d_M_area_85 rfl (lv_at hl 0 rfl) ?_
              refine x_get hC hw hR.1 rfl 0 (by decide) (hts _ k_734) (fun _ h9 => h9) rfl d_M_area_86 ?_
              refine x_vi (y := nI 0) (by rw [enu12]) ?_
              refine lv_if_le (tgt := 94) hx hb d_M_area_89 (by decide) (fun c_89 => ?_) (fun c_89 => ?_)
              · refine lv_aload_n hx hb d_M_area_94 rfl (lv_at hl 0 rfl) ?_
                refine x_get hC hw hR.1 rfl 16 (by decide) (hts _ k_750) (fun _ h9 => h9) rfl d_M_area_95 ?_
                refine lv_aload_n hx hb d_M_area_98 rfl (lv_at hl 0 rfl) ?_
                refine x_get hC hw hR.1 rfl 15 (by decide) (hts _ k_749) (fun _ h9 => h9) rfl d_M_area_99 ?_
                refine x_vi (y := nI (nu 15 0)) (by rw [hnu12 15 (by decide)]) ?_
                refine lv_iload_n hx hb d_M_area_102 rfl (lv_at hl 1 rfl) ?_
                refine m_stI hC hw hR hF 16 (nu 15 0) rfl (rfl) (by show _ < 8; omega) (by decide) d_M_area_103 (fun M14 H locs sg15 hsg15 esg15 hR hF hw => ?_)
                refine lv_aload_n hx hb d_M_area_104 rfl (lv_at hl 0 rfl) ?_
                refine x_get hC hw hR.1 rfl 17 (by decide) (hts _ k_751) (fun _ h9 => h9) rfl d_M_area_105 ?_
                refine lv_aload_n hx hb d_M_area_108 rfl (lv_at hl 0 rfl) ?_
                refine x_get hC hw hR.1 rfl 15 (by decide) (hts _ k_749) (fun _ h9 => h9) rfl d_M_area_109 ?_
                refine x_vi (y := nI (nu 15 0)) (by rw [hnu12 15 (by decide)]) ?_
                refine lv_iload_n hx hb d_M_area_112 rfl (lv_at hl 2 rfl) ?_
                refine m_stI hC hw hR hF 17 (nu 15 0) rfl (rfl) (by show _ < 8; omega) (by decide) d_M_area_113 (fun M16 H locs sg17 hsg17 esg17 hR hF hw => ?_)
                refine lv_aload_n hx hb d_M_area_114 rfl (lv_at hl 0 rfl) ?_
                refine x_get hC hw hR.1 rfl 18 (by decide) (hts _ k_752) (fun _ h9 => h9) rfl d_M_area_115 ?_
                refine lv_aload_n hx hb d_M_area_118 rfl (lv_at hl 0 rfl) ?_
                refine x_get hC hw hR.1 rfl 15 (by decide) (hts _ k_749) (fun _ h9 => h9) rfl d_M_area_119 ?_
                refine x_vi (y := nI (nu 15 0)) (by rw [hnu12 15 (by decide)]) ?_
                refine lv_iload_n hx hb d_M_area_122 rfl (lv_at hl 3 rfl) ?_
                refine m_stI hC hw hR hF 18 (nu 15 0) rfl (rfl) (by show _ < 8; omega) (by decide) d_M_area_123 (fun M18 H locs sg19 hsg19 esg19 hR hF hw => ?_)
                refine lv_aload_n hx hb d_M_area_124 rfl (lv_at hl 0 rfl) ?_
                refine x_get hC hw hR.1 rfl 19 (by decide) (hts _ k_753) (fun _ h9 => h9) rfl d_M_area_125 ?_
                refine lv_aload_n hx hb d_M_area_128 rfl (lv_at hl 0 rfl) ?_
                refine x_get hC hw hR.1 rfl 15 (by decide) (hts _ k_749) (fun _ h9 => h9) rfl d_M_area_129 ?_
                refine x_vi (y := nI (nu 15 0)) (by rw [hnu12 15 (by decide)]) ?_
                refine lv_iload hx hb d_M_area_132 (lv_at hl 4 rfl) ?_
                refine m_stI hC hw hR hF 19 (nu 15 0) rfl (rfl) (by show _ < 8; omega) (by decide) d_M_area_134 (fun M20 H locs sg21 hsg21 esg21 hR hF hw => ?_)
                refine lv_aload_n hx hb d_M_area_135 rfl (lv_at hl 0 rfl) ?_
                refine x_get hC hw hR.1 rfl 20 (by decide) (hts _ k_754) (fun _ h9 => h9) rfl d_M_area_136 ?_
                refine lv_aload_n hx hb d_M_area_139 rfl (lv_at hl 0 rfl) ?_
                refine x_get hC hw hR.1 rfl 15 (by decide) (hts _ k_749) (fun _ h9 => h9) rfl d_M_area_140 ?_
                refine x_vi (y := nI (nu 15 0)) (by rw [hnu12 15 (by decide)]) ?_
                refine lv_iload hx hb d_M_area_143 (lv_at hl 5 rfl) ?_
                refine m_stI hC hw hR hF 20 (nu 15 0) rfl (rfl) (by show _ < 8; omega) (by decide) d_M_area_145 (fun M22 H locs sg23 hsg23 esg23 hR hF hw => ?_)
                refine lv_aload_n hx hb d_M_area_146 rfl (lv_at hl 0 rfl) ?_
                refine lv_dup hx hb d_M_area_147 rfl ?_
                refine x_get hC hw hR.1 rfl 15 (by decide) (hts _ k_749) (fun _ h9 => h9) rfl d_M_area_148 ?_
                refine x_vi (y := nI (nu 15 0)) (by rw [hnu12 15 (by decide)]) ?_
                refine lv_iconst (v := nI 1) hx hb d_M_area_151 (by decide) ?_
                refine lv_iadd hx hb d_M_area_152 ?_
                refine x_vi (y := nI ((nu 15 0) + 1)) (nI_add _ _) ?_
                refine m_put hC hw hR hF 15 ((nu 15 0) + 1) rfl (by decide) (hts _ k_749) (fun _ h9 => h9) rfl (by decide +kernel) rfl rfl d_M_area_153 (fun M25 H locs nu24 hnu24 enu24 hR hF hw => ?_)
                refine lv_aload_n hx hb d_M_area_156 rfl (lv_at hl 0 rfl) ?_
                refine x_get hC hw hR.1 rfl 15 (by decide) (hts _ k_749) (fun _ h9 => h9) rfl d_M_area_157 ?_
                refine x_vi (y := nI ((nu 15 0) + 1)) (by rw [enu24]) ?_
                have hk : areaK nu (nI j) x y wd hg = 0 := by rw [areaK, kt_f (not_not_intro c_7), kt_f (not_not_intro ⟨c_24, c_37, c_49, c_61⟩), kt_f c_74]
                exact x_iret hC hr hw (⟨(by rw [kt_t hk]), nu24, sg23, hR, (eqx.trans (L := [0, 15]) (eqx.trans (L := [0, 15]) (eqx.rf (L := [0, 15])) hnu12 (by decide) (by decide)) hnu24 (by decide) (by decide)), (eqx.trans (L := [16, 17, 18, 19, 20]) (eqx.trans (L := [16, 17, 18, 19, 20]) (eqx.trans (L := [16, 17, 18, 19, 20]) (eqx.trans (L := [16, 17, 18, 19, 20]) (eqx.trans (L := [16, 17, 18, 19, 20]) (eqx.rf (L := [16, 17, 18, 19, 20])) hsg15 (by decide) (by decide)) hsg17 (by decide) (by decide)) hsg19 (by decide) (by decide)) hsg21 (by decide) (by decide)) hsg23 (by decide) (by decide)), hF, (by rw [hk, hnu24 0 (by decide), enu12]), fun _ => ⟨(by rw [enu24]), (by rw [hsg23 16 (by decide), hsg21 16 (by decide), hsg19 16 (by decide), hsg17 16 (by decide), esg15]), (by rw [hsg23 17 (by decide), hsg21 17 (by decide), hsg19 17 (by decide), esg17, hsg15 17 (by decide)]), (by rw [hsg23 18 (by decide), hsg21 18 (by decide), esg19, hsg17 18 (by decide), hsg15 18 (by decide)]), (by rw [hsg23 19 (by decide), esg21, hsg19 19 (by decide), hsg17 19 (by decide), hsg15 19 (by decide)]), (by rw [esg23, hsg21 20 (by decide), hsg19 20 (by decide), hsg17 20 (by decide), hsg15 20 (by decide)])⟩, fun h => absurd hk h⟩) (Nat.le_of_ble_eq_true rfl) (Nat.le_of_ble_eq_true rfl) d_M_area_160
              · exact absurd c_89 (by decide +kernel)
            · have c_74 := (nI_eq (by omega) (by omega)).mp c_74
              refine lv_iconst (v := nI 3) hx hb d_M_area_77 (by decide) ?_
              refine lv_goto (tgt := 82) hx hb d_M_area_78 (by decide) ?_
              refine m_put hC hw hR hF 0 3 rfl (by decide) (hts _ k_734) (fun _ h9 => h9) rfl (by decide +kernel) rfl rfl d_M_area_82 (fun M27 H locs nu26 hnu26 enu26 hR hF hw => ?_)
              refine lv_aload_n hx hb d_M_area_85 rfl (lv_at hl 0 rfl) ?_
              refine x_get hC hw hR.1 rfl 0 (by decide) (hts _ k_734) (fun _ h9 => h9) rfl d_M_area_86 ?_
              refine x_vi (y := nI 3) (by rw [enu26]) ?_
              refine lv_if_le (tgt := 94) hx hb d_M_area_89 (by decide) (fun c_89 => ?_) (fun c_89 => ?_)
              · exact absurd c_89 (by decide +kernel)
              · refine lv_iconst (v := nI 0) hx hb d_M_area_92 (by decide) ?_
                have hk : areaK nu (nI j) x y wd hg = 3 := by rw [areaK, kt_f (not_not_intro c_7), kt_f (not_not_intro ⟨c_24, c_37, c_49, c_61⟩), kt_t c_74]
                exact x_iret hC hr hw (⟨congrArg (fun z => some (Value.int (nI z))) (kt_f (by rw [hk]; decide)).symm, nu26, sg, hR, (eqx.trans (L := [0, 15]) (eqx.rf (L := [0, 15])) hnu26 (by decide) (by decide)), (eqx.rf (L := [16, 17, 18, 19, 20])), hF, (by rw [hk, enu26]), fun h => absurd h (by rw [hk]; decide), fun _ => ⟨(eqx.trans (L := [0]) (eqx.rf (L := [0])) hnu26 (by decide) (by decide)), rfl⟩⟩) (Nat.le_of_ble_eq_true rfl) (Nat.le_of_ble_eq_true rfl) d_M_area_93
          · have c_61 := zI_0.mp c_61
            refine lv_iconst (v := nI 2) hx hb d_M_area_64 (by decide) ?_
            refine lv_goto (tgt := 82) hx hb d_M_area_65 (by decide) ?_
            refine m_put hC hw hR hF 0 2 rfl (by decide) (hts _ k_734) (fun _ h9 => h9) rfl (by decide +kernel) rfl rfl d_M_area_82 (fun M29 H locs nu28 hnu28 enu28 hR hF hw => ?_)
            refine lv_aload_n hx hb d_M_area_85 rfl (lv_at hl 0 rfl) ?_
            refine x_get hC hw hR.1 rfl 0 (by decide) (hts _ k_734) (fun _ h9 => h9) rfl d_M_area_86 ?_
            refine x_vi (y := nI 2) (by rw [enu28]) ?_
            refine lv_if_le (tgt := 94) hx hb d_M_area_89 (by decide) (fun c_89 => ?_) (fun c_89 => ?_)
            · exact absurd c_89 (by decide +kernel)
            · refine lv_iconst (v := nI 0) hx hb d_M_area_92 (by decide) ?_
              have hk : areaK nu (nI j) x y wd hg = 2 := by rw [areaK, kt_f (not_not_intro c_7), kt_t (fun h => c_61 h.2.2.2)]
              exact x_iret hC hr hw (⟨congrArg (fun z => some (Value.int (nI z))) (kt_f (by rw [hk]; decide)).symm, nu28, sg, hR, (eqx.trans (L := [0, 15]) (eqx.rf (L := [0, 15])) hnu28 (by decide) (by decide)), (eqx.rf (L := [16, 17, 18, 19, 20])), hF, (by rw [hk, enu28]), fun h => absurd h (by rw [hk]; decide), fun _ => ⟨(eqx.trans (L := [0]) (eqx.rf (L := [0])) hnu28 (by decide) (by decide)), rfl⟩⟩) (Nat.le_of_ble_eq_true rfl) (Nat.le_of_ble_eq_true rfl) d_M_area_93
  · have c_7 := zI_0.mp c_7
    have c_7 := (not_congr num_3).mp c_7
    refine lv_iconst (v := nI 1) hx hb d_M_area_10 (by decide) ?_
    refine lv_goto (tgt := 82) hx hb d_M_area_11 (by decide) ?_
    refine m_put hC hw hR hF 0 1 rfl (by decide) (hts _ k_734) (fun _ h9 => h9) rfl (by decide +kernel) rfl rfl d_M_area_82 (fun M31 H locs nu30 hnu30 enu30 hR hF hw => ?_)
    refine lv_aload_n hx hb d_M_area_85 rfl (lv_at hl 0 rfl) ?_
    refine x_get hC hw hR.1 rfl 0 (by decide) (hts _ k_734) (fun _ h9 => h9) rfl d_M_area_86 ?_
    refine x_vi (y := nI 1) (by rw [enu30]) ?_
    refine lv_if_le (tgt := 94) hx hb d_M_area_89 (by decide) (fun c_89 => ?_) (fun c_89 => ?_)
    · exact absurd c_89 (by decide +kernel)
    · refine lv_iconst (v := nI 0) hx hb d_M_area_92 (by decide) ?_
      have hk : areaK nu pg x y wd hg = 1 := by rw [areaK, kt_t c_7]
      exact x_iret hC hr hw (⟨congrArg (fun z => some (Value.int (nI z))) (kt_f (by rw [hk]; decide)).symm, nu30, sg, hR, (eqx.trans (L := [0, 15]) (eqx.rf (L := [0, 15])) hnu30 (by decide) (by decide)), (eqx.rf (L := [16, 17, 18, 19, 20])), hF, (by rw [hk, enu30]), fun h => absurd h (by rw [hk]; decide), fun _ => ⟨(eqx.trans (L := [0]) (eqx.rf (L := [0])) hnu30 (by decide) (by decide)), rfl⟩⟩) (Nat.le_of_ble_eq_true rfl) (Nat.le_of_ble_eq_true rfl) d_M_area_93

set_option maxHeartbeats 1000000 in
set_option maxRecDepth 100000 in
/-- store -/
theorem c_M_store (l : Launch) (G : xT) (M : xMem) (sz : Nat) (md : Nat) (am : Nat → Nat) (nu : Nat → Nat → Nat) (sg : Nat → Nat → Int32) (hR : mRep G M md am nu sg) (en : Int32) (h8 : nu 21 0 ≤ 8) : xMet l G y_M_store (Cond.code y_M_store b_M_store 2 (Option.some Jvm.ClassFile.FieldType.int) :: x_tbl) { frames := 1, cells := 0, slots := 0, locals := 25 } [.ref md, .int en] M sz (fun v M' => v = some (.int (nI (kt (storeK nu en = 0) (nu 21 0) 0))) ∧ ∃ (nu' : Nat → Nat → Nat) (sg' : Nat → Nat → Int32), mRep G M' md am nu' sg' ∧ eqx [0, 21] nu nu' ∧ eqx [22] sg sg' ∧ xfr M M' (mS md am) ∧ nu' 0 0 = storeK nu en ∧ (storeK nu en = 0 → nu' 21 0 = nu 21 0 + 1 ∧ sg' 22 = va_up (sg 22) (nu 21 0) en) ∧ (storeK nu en ≠ 0 → sameP nu nu' sg sg')) (fun _ _ => False) := by
  refine xMet.of (by decide) (Nat.le_of_ble_eq_true rfl) ?_
  intro p e s m below meth c ls hC hr hnm hno hsz hw hl
  obtain ⟨hx, hb, hown, hts, hK, hml, hlk, hz⟩ := id hC
  have hl : lv_has ls 2 [(0, .ref md), (1, .int en)] := hl
  have hF : xfr M M (mS md am) := xfr.rf
  refine lv_aload_n hx hb d_M_store_0 rfl (lv_at hl 0 rfl) ?_
  refine lv_iload_n hx hb d_M_store_1 rfl (lv_at hl 1 rfl) ?_
  refine lv_iconst (v := nI 0) hx hb d_M_store_2 (by decide) ?_
  refine lv_iconst (v := nI 3) hx hb d_M_store_3 (by decide) ?_
  refine x_callG hC (c_M_in l G M (Array.size s.heap) (en) (nI 0) (nI 3)) k_842 k_13 ⟨Nat.le_of_ble_eq_true rfl, Nat.le_of_ble_eq_true rfl⟩ ⟨Nat.le_of_ble_eq_true rfl, Nat.le_of_ble_eq_true rfl⟩ hw hl.1 (Nat.le_of_ble_eq_true rfl) d_M_store_4 (x_ivS hC k_842 k_840 k_841 k_13 (show _ ∧ _ ∧ _ = some 3 from by decide +kernel) rfl d_M_store_4) (fun rv M1 H locs hq hw => ?_) (fun _ _ _ _ _ h _ _ => h.elim)
  obtain ⟨rfl, hM⟩ := hq
  subst M1
  refine W.eq (g2 := F0 m 7 ls [.int (zI (inP en (nI 0) (nI 3))), .ref md]) rfl ?_
  refine lv_if_ne (tgt := 14) hx hb d_M_store_7 (by decide) (fun c_7 => ?_) (fun c_7 => ?_)
  · have c_7 := zI_1.mp c_7
    have c_7 := num_3.mp c_7
    obtain ⟨j, hj, rfl⟩ := c_7.ex
    have hcj : cN (nI j) = j := cN_nI (by omega)
    refine lv_aload_n hx hb d_M_store_14 rfl (lv_at hl 0 rfl) ?_
    refine x_get hC hw hR.1 rfl 21 (by decide) (hts _ k_755) (fun _ h9 => h9) rfl d_M_store_15 ?_
    refine lv_bipush (v := nI 8) hx hb d_M_store_18 (by decide) ?_
    refine lv_icmp_ne (tgt := 27) hx hb d_M_store_20 (by decide) (fun c_20 => ?_) (fun c_20 => ?_)
    · have c_20 := (not_congr (nI_eq (by omega) (by omega))).mp c_20
      refine lv_iconst (v := nI 0) hx hb d_M_store_27 (by decide) ?_
      refine m_put hC hw hR hF 0 0 rfl (by decide) (hts _ k_734) (fun _ h9 => h9) rfl (by decide +kernel) rfl rfl d_M_store_28 (fun M3 H locs nu2 hnu2 enu2 hR hF hw => ?_)
      refine lv_aload_n hx hb d_M_store_31 rfl (lv_at hl 0 rfl) ?_
      refine x_get hC hw hR.1 rfl 0 (by decide) (hts _ k_734) (fun _ h9 => h9) rfl d_M_store_32 ?_
      refine x_vi (y := nI 0) (by rw [enu2]) ?_
      refine lv_if_le (tgt := 40) hx hb d_M_store_35 (by decide) (fun c_35 => ?_) (fun c_35 => ?_)
      · refine lv_aload_n hx hb d_M_store_40 rfl (lv_at hl 0 rfl) ?_
        refine x_get hC hw hR.1 rfl 22 (by decide) (hts _ k_756) (fun _ h9 => h9) rfl d_M_store_41 ?_
        refine lv_aload_n hx hb d_M_store_44 rfl (lv_at hl 0 rfl) ?_
        refine x_get hC hw hR.1 rfl 21 (by decide) (hts _ k_755) (fun _ h9 => h9) rfl d_M_store_45 ?_
        refine x_vi (y := nI (nu 21 0)) (by rw [hnu2 21 (by decide)]) ?_
        refine lv_iload_n hx hb d_M_store_48 rfl (lv_at hl 1 rfl) ?_
        refine m_stI hC hw hR hF 22 (nu 21 0) rfl (rfl) (by show _ < 8; omega) (by decide) d_M_store_49 (fun M4 H locs sg5 hsg5 esg5 hR hF hw => ?_)
        refine lv_aload_n hx hb d_M_store_50 rfl (lv_at hl 0 rfl) ?_
        refine lv_dup hx hb d_M_store_51 rfl ?_
        refine x_get hC hw hR.1 rfl 21 (by decide) (hts _ k_755) (fun _ h9 => h9) rfl d_M_store_52 ?_
        refine x_vi (y := nI (nu 21 0)) (by rw [hnu2 21 (by decide)]) ?_
        refine lv_iconst (v := nI 1) hx hb d_M_store_55 (by decide) ?_
        refine lv_iadd hx hb d_M_store_56 ?_
        refine x_vi (y := nI ((nu 21 0) + 1)) (nI_add _ _) ?_
        refine m_put hC hw hR hF 21 ((nu 21 0) + 1) rfl (by decide) (hts _ k_755) (fun _ h9 => h9) rfl (by decide +kernel) rfl rfl d_M_store_57 (fun M7 H locs nu6 hnu6 enu6 hR hF hw => ?_)
        refine lv_aload_n hx hb d_M_store_60 rfl (lv_at hl 0 rfl) ?_
        refine x_get hC hw hR.1 rfl 21 (by decide) (hts _ k_755) (fun _ h9 => h9) rfl d_M_store_61 ?_
        refine x_vi (y := nI ((nu 21 0) + 1)) (by rw [enu6]) ?_
        refine lv_iconst (v := nI 1) hx hb d_M_store_64 (by decide) ?_
        refine lv_isub hx hb d_M_store_65 ?_
        refine x_vi (y := nI (((nu 21 0) + 1) - 1)) (x_sub (by omega)) ?_
        have hk : storeK nu (nI j) = 0 := by rw [storeK, kt_f (not_not_intro c_7), kt_f c_20]
        exact x_iret hC hr hw (⟨(by rw [kt_t hk]; rw [Nat.add_sub_cancel]), nu6, sg5, hR, (eqx.trans (L := [0, 21]) (eqx.trans (L := [0, 21]) (eqx.rf (L := [0, 21])) hnu2 (by decide) (by decide)) hnu6 (by decide) (by decide)), (eqx.trans (L := [22]) (eqx.rf (L := [22])) hsg5 (by decide) (by decide)), hF, (by rw [hk, hnu6 0 (by decide), enu2]), fun _ => ⟨(by rw [enu6]), (by rw [esg5])⟩, fun h => absurd hk h⟩) (Nat.le_of_ble_eq_true rfl) (Nat.le_of_ble_eq_true rfl) d_M_store_66
      · exact absurd c_35 (by decide +kernel)
    · have c_20 := (nI_eq (by omega) (by omega)).mp c_20
      refine lv_iconst (v := nI 2) hx hb d_M_store_23 (by decide) ?_
      refine lv_goto (tgt := 28) hx hb d_M_store_24 (by decide) ?_
      refine m_put hC hw hR hF 0 2 rfl (by decide) (hts _ k_734) (fun _ h9 => h9) rfl (by decide +kernel) rfl rfl d_M_store_28 (fun M9 H locs nu8 hnu8 enu8 hR hF hw => ?_)
      refine lv_aload_n hx hb d_M_store_31 rfl (lv_at hl 0 rfl) ?_
      refine x_get hC hw hR.1 rfl 0 (by decide) (hts _ k_734) (fun _ h9 => h9) rfl d_M_store_32 ?_
      refine x_vi (y := nI 2) (by rw [enu8]) ?_
      refine lv_if_le (tgt := 40) hx hb d_M_store_35 (by decide) (fun c_35 => ?_) (fun c_35 => ?_)
      · exact absurd c_35 (by decide +kernel)
      · refine lv_iconst (v := nI 0) hx hb d_M_store_38 (by decide) ?_
        have hk : storeK nu (nI j) = 2 := by rw [storeK, kt_f (not_not_intro c_7), kt_t c_20]
        exact x_iret hC hr hw (⟨congrArg (fun z => some (Value.int (nI z))) (kt_f (by rw [hk]; decide)).symm, nu8, sg, hR, (eqx.trans (L := [0, 21]) (eqx.rf (L := [0, 21])) hnu8 (by decide) (by decide)), (eqx.rf (L := [22])), hF, (by rw [hk, enu8]), fun h => absurd h (by rw [hk]; decide), fun _ => ⟨(eqx.trans (L := [0]) (eqx.rf (L := [0])) hnu8 (by decide) (by decide)), rfl⟩⟩) (Nat.le_of_ble_eq_true rfl) (Nat.le_of_ble_eq_true rfl) d_M_store_39
  · have c_7 := zI_0.mp c_7
    have c_7 := (not_congr num_3).mp c_7
    refine lv_iconst (v := nI 1) hx hb d_M_store_10 (by decide) ?_
    refine lv_goto (tgt := 28) hx hb d_M_store_11 (by decide) ?_
    refine m_put hC hw hR hF 0 1 rfl (by decide) (hts _ k_734) (fun _ h9 => h9) rfl (by decide +kernel) rfl rfl d_M_store_28 (fun M11 H locs nu10 hnu10 enu10 hR hF hw => ?_)
    refine lv_aload_n hx hb d_M_store_31 rfl (lv_at hl 0 rfl) ?_
    refine x_get hC hw hR.1 rfl 0 (by decide) (hts _ k_734) (fun _ h9 => h9) rfl d_M_store_32 ?_
    refine x_vi (y := nI 1) (by rw [enu10]) ?_
    refine lv_if_le (tgt := 40) hx hb d_M_store_35 (by decide) (fun c_35 => ?_) (fun c_35 => ?_)
    · exact absurd c_35 (by decide +kernel)
    · refine lv_iconst (v := nI 0) hx hb d_M_store_38 (by decide) ?_
      have hk : storeK nu en = 1 := by rw [storeK, kt_t c_7]
      exact x_iret hC hr hw (⟨congrArg (fun z => some (Value.int (nI z))) (kt_f (by rw [hk]; decide)).symm, nu10, sg, hR, (eqx.trans (L := [0, 21]) (eqx.rf (L := [0, 21])) hnu10 (by decide) (by decide)), (eqx.rf (L := [22])), hF, (by rw [hk, enu10]), fun h => absurd h (by rw [hk]; decide), fun _ => ⟨(eqx.trans (L := [0]) (eqx.rf (L := [0])) hnu10 (by decide) (by decide)), rfl⟩⟩) (Nat.le_of_ble_eq_true rfl) (Nat.le_of_ble_eq_true rfl) d_M_store_39

set_option maxHeartbeats 1000000 in
set_option maxRecDepth 100000 in
/-- octet -/
theorem c_M_octet (l : Launch) (G : xT) (M : xMem) (sz : Nat) (md : Nat) (am : Nat → Nat) (nu : Nat → Nat → Nat) (sg : Nat → Nat → Int32) (hR : mRep G M md am nu sg) (so b : Int32) (h8 : nu 21 0 ≤ 8) (h60 : ∀ t, nu 23 t ≤ 60) : xMet l G y_M_octet (Cond.code y_M_octet b_M_octet 3 (Option.some Jvm.ClassFile.FieldType.int) :: x_tbl) { frames := 1, cells := 0, slots := 0, locals := 25 } [.ref md, .int so, .int b] M sz (fun v M' => v = some (.int (nI (kt (octetK nu so = 0) (nu 23 (cN so) + 1) 0))) ∧ ∃ (nu' : Nat → Nat → Nat) (sg' : Nat → Nat → Int32), mRep G M' md am nu' sg' ∧ eqx [0, 23] nu nu' ∧ eqx [24] sg sg' ∧ xfr M M' (mS md am) ∧ nu' 0 0 = octetK nu so ∧ (octetK nu so = 0 → nu' 23 = va_up (nu 23) (cN so) (nu 23 (cN so) + 1) ∧ sg' 24 = va_up (sg 24) (60 * cN so + nu 23 (cN so)) (b &&& nI 255)) ∧ (octetK nu so ≠ 0 → sameP nu nu' sg sg')) (fun _ _ => False) := by
  refine xMet.of (by decide) (Nat.le_of_ble_eq_true rfl) ?_
  intro p e s m below meth c ls hC hr hnm hno hsz hw hl
  obtain ⟨hx, hb, hown, hts, hK, hml, hlk, hz⟩ := id hC
  have hl : lv_has ls 3 [(0, .ref md), (1, .int so), (2, .int b)] := hl
  have hF : xfr M M (mS md am) := xfr.rf
  refine lv_aload_n hx hb d_M_octet_0 rfl (lv_at hl 0 rfl) ?_
  refine lv_iload_n hx hb d_M_octet_1 rfl (lv_at hl 1 rfl) ?_
  refine lv_iconst (v := nI 0) hx hb d_M_octet_2 (by decide) ?_
  refine lv_aload_n hx hb d_M_octet_3 rfl (lv_at hl 0 rfl) ?_
  refine x_get hC hw hR.1 rfl 21 (by decide) (hts _ k_755) (fun _ h9 => h9) rfl d_M_octet_4 ?_
  refine lv_iconst (v := nI 1) hx hb d_M_octet_7 (by decide) ?_
  refine lv_isub hx hb d_M_octet_8 ?_
  refine x_callG hC (c_M_in l G M (Array.size s.heap) (so) (nI 0) ((nI (nu 21 0) - nI 1))) k_842 k_13 ⟨Nat.le_of_ble_eq_true rfl, Nat.le_of_ble_eq_true rfl⟩ ⟨Nat.le_of_ble_eq_true rfl, Nat.le_of_ble_eq_true rfl⟩ hw hl.1 (Nat.le_of_ble_eq_true rfl) d_M_octet_9 (x_ivS hC k_842 k_840 k_841 k_13 (show _ ∧ _ ∧ _ = some 3 from by decide +kernel) rfl d_M_octet_9) (fun rv M1 H locs hq hw => ?_) (fun _ _ _ _ _ h _ _ => h.elim)
  obtain ⟨rfl, hM⟩ := hq
  subst M1
  refine W.eq (g2 := F0 m 12 ls [.int (zI (inP so (nI 0) (nI (nu 21 0) - nI 1))), .ref md]) rfl ?_
  refine lv_if_ne (tgt := 19) hx hb d_M_octet_12 (by decide) (fun c_12 => ?_) (fun c_12 => ?_)
  · have c_12 := zI_1.mp c_12
    have c_12 := (num_in (by omega)).mp c_12
    obtain ⟨j, hj, rfl⟩ := c_12.ex
    have hcj : cN (nI j) = j := cN_nI (by omega)
    have h60j := h60 j
    refine lv_aload_n hx hb d_M_octet_19 rfl (lv_at hl 0 rfl) ?_
    refine x_get hC hw hR.1 rfl 23 (by decide) (hts _ k_757) (fun _ h9 => h9) rfl d_M_octet_20 ?_
    refine lv_iload_n hx hb d_M_octet_23 rfl (lv_at hl 1 rfl) ?_
    refine m_ldN hC hw hR 23 j rfl (rfl) (by show _ < 8; omega) (by decide) d_M_octet_24 ?_
    refine lv_bipush (v := nI 60) hx hb d_M_octet_25 (by decide) ?_
    refine lv_icmp_ne (tgt := 34) hx hb d_M_octet_27 (by decide) (fun c_27 => ?_) (fun c_27 => ?_)
    · have c_27 := (not_congr (nI_eq (by omega) (by omega))).mp c_27
      refine lv_iconst (v := nI 0) hx hb d_M_octet_34 (by decide) ?_
      refine m_put hC hw hR hF 0 0 rfl (by decide) (hts _ k_734) (fun _ h9 => h9) rfl (by decide +kernel) rfl rfl d_M_octet_35 (fun M3 H locs nu2 hnu2 enu2 hR hF hw => ?_)
      refine lv_aload_n hx hb d_M_octet_38 rfl (lv_at hl 0 rfl) ?_
      refine x_get hC hw hR.1 rfl 0 (by decide) (hts _ k_734) (fun _ h9 => h9) rfl d_M_octet_39 ?_
      refine x_vi (y := nI 0) (by rw [enu2]) ?_
      refine lv_if_le (tgt := 47) hx hb d_M_octet_42 (by decide) (fun c_42 => ?_) (fun c_42 => ?_)
      · refine lv_aload_n hx hb d_M_octet_47 rfl (lv_at hl 0 rfl) ?_
        refine x_get hC hw hR.1 rfl 24 (by decide) (hts _ k_758) (fun _ h9 => h9) rfl d_M_octet_48 ?_
        refine lv_bipush (v := nI 60) hx hb d_M_octet_51 (by decide) ?_
        refine lv_iload_n hx hb d_M_octet_53 rfl (lv_at hl 1 rfl) ?_
        refine lv_imul hx hb d_M_octet_54 ?_
        refine x_vi (y := nI (60 * j)) (pk_mul _ _) ?_
        refine lv_aload_n hx hb d_M_octet_55 rfl (lv_at hl 0 rfl) ?_
        refine x_get hC hw hR.1 rfl 23 (by decide) (hts _ k_757) (fun _ h9 => h9) rfl d_M_octet_56 ?_
        refine lv_iload_n hx hb d_M_octet_59 rfl (lv_at hl 1 rfl) ?_
        refine m_ldN hC hw hR 23 j rfl (rfl) (by show _ < 8; omega) (by decide) d_M_octet_60 ?_
        refine x_vi (y := nI (nu 23 j)) (by rw [hnu2 23 (by decide)]) ?_
        refine lv_iadd hx hb d_M_octet_61 ?_
        refine x_vi (y := nI ((60 * j) + (nu 23 j))) (nI_add _ _) ?_
        refine lv_iload_n hx hb d_M_octet_62 rfl (lv_at hl 2 rfl) ?_
        refine lv_sipush (v := nI 255) hx hb d_M_octet_63 (by decide) ?_
        refine lv_iand hx hb d_M_octet_66 ?_
        refine m_stI hC hw hR hF 24 ((60 * j) + (nu 23 j)) rfl (rfl) (by show _ < 480; omega) (by decide) d_M_octet_67 (fun M4 H locs sg5 hsg5 esg5 hR hF hw => ?_)
        refine lv_aload_n hx hb d_M_octet_68 rfl (lv_at hl 0 rfl) ?_
        refine x_get hC hw hR.1 rfl 23 (by decide) (hts _ k_757) (fun _ h9 => h9) rfl d_M_octet_69 ?_
        refine lv_iload_n hx hb d_M_octet_72 rfl (lv_at hl 1 rfl) ?_
        refine lv_dup2_11 hx hb d_M_octet_73 rfl rfl ?_
        refine m_ldN hC hw hR 23 j rfl (rfl) (by show _ < 8; omega) (by decide) d_M_octet_74 ?_
        refine x_vi (y := nI (nu 23 j)) (by rw [hnu2 23 (by decide)]) ?_
        refine lv_iconst (v := nI 1) hx hb d_M_octet_75 (by decide) ?_
        refine lv_iadd hx hb d_M_octet_76 ?_
        refine x_vi (y := nI ((nu 23 j) + 1)) (nI_add _ _) ?_
        refine m_stN hC hw hR hF 23 j ((nu 23 j) + 1) rfl (rfl) rfl (by show _ < 8; omega) (by decide) d_M_octet_77 (fun M6 H locs nu7 hnu7 enu7 hR hF hw => ?_)
        refine lv_aload_n hx hb d_M_octet_78 rfl (lv_at hl 0 rfl) ?_
        refine x_get hC hw hR.1 rfl 23 (by decide) (hts _ k_757) (fun _ h9 => h9) rfl d_M_octet_79 ?_
        refine lv_iload_n hx hb d_M_octet_82 rfl (lv_at hl 1 rfl) ?_
        refine m_ldN hC hw hR 23 j rfl (rfl) (by show _ < 8; omega) (by decide) d_M_octet_83 ?_
        refine x_vi (y := nI ((nu 23 j) + 1)) (by rw [enu7, va_up_self]) ?_
        have hk : octetK nu (nI j) = 0 := by rw [octetK, kt_f (not_not_intro c_12), hcj, kt_f c_27]
        exact x_iret hC hr hw (⟨(by rw [kt_t hk]; rw [hcj]), nu7, sg5, hR, (eqx.trans (L := [0, 23]) (eqx.trans (L := [0, 23]) (eqx.rf (L := [0, 23])) hnu2 (by decide) (by decide)) hnu7 (by decide) (by decide)), (eqx.trans (L := [24]) (eqx.rf (L := [24])) hsg5 (by decide) (by decide)), hF, (by rw [hk, hnu7 0 (by decide), enu2]), fun _ => (by rw [hcj]; exact ⟨(by rw [enu7, hnu2 23 (by decide)]), (by rw [esg5])⟩), fun h => absurd hk h⟩) (Nat.le_of_ble_eq_true rfl) (Nat.le_of_ble_eq_true rfl) d_M_octet_84
      · exact absurd c_42 (by decide +kernel)
    · have c_27 := (nI_eq (by omega) (by omega)).mp c_27
      refine lv_iconst (v := nI 2) hx hb d_M_octet_30 (by decide) ?_
      refine lv_goto (tgt := 35) hx hb d_M_octet_31 (by decide) ?_
      refine m_put hC hw hR hF 0 2 rfl (by decide) (hts _ k_734) (fun _ h9 => h9) rfl (by decide +kernel) rfl rfl d_M_octet_35 (fun M9 H locs nu8 hnu8 enu8 hR hF hw => ?_)
      refine lv_aload_n hx hb d_M_octet_38 rfl (lv_at hl 0 rfl) ?_
      refine x_get hC hw hR.1 rfl 0 (by decide) (hts _ k_734) (fun _ h9 => h9) rfl d_M_octet_39 ?_
      refine x_vi (y := nI 2) (by rw [enu8]) ?_
      refine lv_if_le (tgt := 47) hx hb d_M_octet_42 (by decide) (fun c_42 => ?_) (fun c_42 => ?_)
      · exact absurd c_42 (by decide +kernel)
      · refine lv_iconst (v := nI 0) hx hb d_M_octet_45 (by decide) ?_
        have hk : octetK nu (nI j) = 2 := by rw [octetK, kt_f (not_not_intro c_12), hcj, kt_t c_27]
        exact x_iret hC hr hw (⟨congrArg (fun z => some (Value.int (nI z))) (kt_f (by rw [hk]; decide)).symm, nu8, sg, hR, (eqx.trans (L := [0, 23]) (eqx.rf (L := [0, 23])) hnu8 (by decide) (by decide)), (eqx.rf (L := [24])), hF, (by rw [hk, enu8]), fun h => absurd h (by rw [hk]; decide), fun _ => ⟨(eqx.trans (L := [0]) (eqx.rf (L := [0])) hnu8 (by decide) (by decide)), rfl⟩⟩) (Nat.le_of_ble_eq_true rfl) (Nat.le_of_ble_eq_true rfl) d_M_octet_46
  · have c_12 := zI_0.mp c_12
    have c_12 := (not_congr (num_in (by omega))).mp c_12
    refine lv_iconst (v := nI 1) hx hb d_M_octet_15 (by decide) ?_
    refine lv_goto (tgt := 35) hx hb d_M_octet_16 (by decide) ?_
    refine m_put hC hw hR hF 0 1 rfl (by decide) (hts _ k_734) (fun _ h9 => h9) rfl (by decide +kernel) rfl rfl d_M_octet_35 (fun M11 H locs nu10 hnu10 enu10 hR hF hw => ?_)
    refine lv_aload_n hx hb d_M_octet_38 rfl (lv_at hl 0 rfl) ?_
    refine x_get hC hw hR.1 rfl 0 (by decide) (hts _ k_734) (fun _ h9 => h9) rfl d_M_octet_39 ?_
    refine x_vi (y := nI 1) (by rw [enu10]) ?_
    refine lv_if_le (tgt := 47) hx hb d_M_octet_42 (by decide) (fun c_42 => ?_) (fun c_42 => ?_)
    · exact absurd c_42 (by decide +kernel)
    · refine lv_iconst (v := nI 0) hx hb d_M_octet_45 (by decide) ?_
      have hk : octetK nu so = 1 := by rw [octetK, kt_t c_12]
      exact x_iret hC hr hw (⟨congrArg (fun z => some (Value.int (nI z))) (kt_f (by rw [hk]; decide)).symm, nu10, sg, hR, (eqx.trans (L := [0, 23]) (eqx.rf (L := [0, 23])) hnu10 (by decide) (by decide)), (eqx.rf (L := [24])), hF, (by rw [hk, enu10]), fun h => absurd h (by rw [hk]; decide), fun _ => ⟨(eqx.trans (L := [0]) (eqx.rf (L := [0])) hnu10 (by decide) (by decide)), rfl⟩⟩) (Nat.le_of_ble_eq_true rfl) (Nat.le_of_ble_eq_true rfl) d_M_octet_46

set_option maxHeartbeats 1000000 in
set_option maxRecDepth 100000 in
/-- formOf -/
theorem c_M_formOf (l : Launch) (G : xT) (M : xMem) (sz : Nat) (md : Nat) (am : Nat → Nat) (nu : Nat → Nat → Nat) (sg : Nat → Nat → Int32) (hR : mRep G M md am nu sg) (us : Int32) (h12 : nu 7 0 ≤ 12) : xMet l G y_M_formOf (Cond.code y_M_formOf b_M_formOf 2 (Option.some Jvm.ClassFile.FieldType.int) :: x_tbl) { frames := 1, cells := 0, slots := 0, locals := 25 } [.ref md, .int us] M sz (fun v M' => ∃ (x : Int32) (nu' : Nat → Nat → Nat), v = some (.int x) ∧ (formOfK nu us = 0 → x = nI (nu 9 (cN us))) ∧ mRep G M' md am nu' sg ∧ eqx [0] nu nu' ∧ xfr M M' (mS md am) ∧ nu' 0 0 = formOfK nu us) (fun _ _ => False) := by
  refine xMet.of (by decide) (Nat.le_of_ble_eq_true rfl) ?_
  intro p e s m below meth c ls hC hr hnm hno hsz hw hl
  obtain ⟨hx, hb, hown, hts, hK, hml, hlk, hz⟩ := id hC
  have hl : lv_has ls 2 [(0, .ref md), (1, .int us)] := hl
  have hF : xfr M M (mS md am) := xfr.rf
  refine lv_aload_n hx hb d_M_formOf_0 rfl (lv_at hl 0 rfl) ?_
  refine lv_iload_n hx hb d_M_formOf_1 rfl (lv_at hl 1 rfl) ?_
  refine lv_iconst (v := nI 0) hx hb d_M_formOf_2 (by decide) ?_
  refine lv_aload_n hx hb d_M_formOf_3 rfl (lv_at hl 0 rfl) ?_
  refine x_get hC hw hR.1 rfl 7 (by decide) (hts _ k_741) (fun _ h9 => h9) rfl d_M_formOf_4 ?_
  refine lv_iconst (v := nI 1) hx hb d_M_formOf_7 (by decide) ?_
  refine lv_isub hx hb d_M_formOf_8 ?_
  refine x_callG hC (c_M_in l G M (Array.size s.heap) (us) (nI 0) ((nI (nu 7 0) - nI 1))) k_842 k_13 ⟨Nat.le_of_ble_eq_true rfl, Nat.le_of_ble_eq_true rfl⟩ ⟨Nat.le_of_ble_eq_true rfl, Nat.le_of_ble_eq_true rfl⟩ hw hl.1 (Nat.le_of_ble_eq_true rfl) d_M_formOf_9 (x_ivS hC k_842 k_840 k_841 k_13 (show _ ∧ _ ∧ _ = some 3 from by decide +kernel) rfl d_M_formOf_9) (fun rv M1 H locs hq hw => ?_) (fun _ _ _ _ _ h _ _ => h.elim)
  obtain ⟨rfl, hM⟩ := hq
  subst M1
  refine W.eq (g2 := F0 m 12 ls [.int (zI (inP us (nI 0) (nI (nu 7 0) - nI 1))), .ref md]) rfl ?_
  refine lv_if_eq (tgt := 19) hx hb d_M_formOf_12 (by decide) (fun c_12 => ?_) (fun c_12 => ?_)
  · have c_12 := zI_0.mp c_12
    have c_12 := (not_congr (num_in (by omega))).mp c_12
    refine lv_iconst (v := nI 1) hx hb d_M_formOf_19 (by decide) ?_
    refine m_put hC hw hR hF 0 1 rfl (by decide) (hts _ k_734) (fun _ h9 => h9) rfl (by decide +kernel) rfl rfl d_M_formOf_20 (fun M3 H locs nu2 hnu2 enu2 hR hF hw => ?_)
    refine lv_aload_n hx hb d_M_formOf_23 rfl (lv_at hl 0 rfl) ?_
    refine x_get hC hw hR.1 rfl 0 (by decide) (hts _ k_734) (fun _ h9 => h9) rfl d_M_formOf_24 ?_
    refine x_vi (y := nI 1) (by rw [enu2]) ?_
    refine lv_if_le (tgt := 34) hx hb d_M_formOf_27 (by decide) (fun c_27 => ?_) (fun c_27 => ?_)
    · exact absurd c_27 (by decide +kernel)
    · refine lv_iconst (v := nI 0) hx hb d_M_formOf_30 (by decide) ?_
      refine lv_goto (tgt := 40) hx hb d_M_formOf_31 (by decide) ?_
      have hk : formOfK nu us = 1 := by rw [formOfK, kt_t c_12]
      exact x_iret hC hr hw (⟨_, nu2, rfl, (fun h => absurd h (by rw [hk]; decide)), hR, (eqx.trans (L := [0]) (eqx.rf (L := [0])) hnu2 (by decide) (by decide)), hF, (by rw [hk, enu2])⟩) (Nat.le_of_ble_eq_true rfl) (Nat.le_of_ble_eq_true rfl) d_M_formOf_40
  · have c_12 := zI_1.mp c_12
    have c_12 := (num_in (by omega)).mp c_12
    obtain ⟨j, hj, rfl⟩ := c_12.ex
    have hcj : cN (nI j) = j := cN_nI (by omega)
    refine lv_iconst (v := nI 0) hx hb d_M_formOf_15 (by decide) ?_
    refine lv_goto (tgt := 20) hx hb d_M_formOf_16 (by decide) ?_
    refine m_put hC hw hR hF 0 0 rfl (by decide) (hts _ k_734) (fun _ h9 => h9) rfl (by decide +kernel) rfl rfl d_M_formOf_20 (fun M5 H locs nu4 hnu4 enu4 hR hF hw => ?_)
    refine lv_aload_n hx hb d_M_formOf_23 rfl (lv_at hl 0 rfl) ?_
    refine x_get hC hw hR.1 rfl 0 (by decide) (hts _ k_734) (fun _ h9 => h9) rfl d_M_formOf_24 ?_
    refine x_vi (y := nI 0) (by rw [enu4]) ?_
    refine lv_if_le (tgt := 34) hx hb d_M_formOf_27 (by decide) (fun c_27 => ?_) (fun c_27 => ?_)
    · refine lv_aload_n hx hb d_M_formOf_34 rfl (lv_at hl 0 rfl) ?_
      refine x_get hC hw hR.1 rfl 9 (by decide) (hts _ k_743) (fun _ h9 => h9) rfl d_M_formOf_35 ?_
      refine lv_iload_n hx hb d_M_formOf_38 rfl (lv_at hl 1 rfl) ?_
      refine m_ldN hC hw hR 9 j rfl (rfl) (by show _ < 12; omega) (by decide) d_M_formOf_39 ?_
      refine x_vi (y := nI (nu 9 j)) (by rw [hnu4 9 (by decide)]) ?_
      have hk : formOfK nu (nI j) = 0 := by rw [formOfK, kt_f (not_not_intro c_12)]
      exact x_iret hC hr hw (⟨_, nu4, rfl, (fun _ => (by rw [hcj])), hR, (eqx.trans (L := [0]) (eqx.rf (L := [0])) hnu4 (by decide) (by decide)), hF, (by rw [hk, enu4])⟩) (Nat.le_of_ble_eq_true rfl) (Nat.le_of_ble_eq_true rfl) d_M_formOf_40
    · exact absurd c_27 (by decide +kernel)

set_option maxHeartbeats 1000000 in
set_option maxRecDepth 100000 in
/-- left -/
theorem c_M_left (l : Launch) (G : xT) (M : xMem) (sz : Nat) (md : Nat) (am : Nat → Nat) (nu : Nat → Nat → Nat) (sg : Nat → Nat → Int32) (hR : mRep G M md am nu sg) (i wh : Int32) (h100 : nu 25 0 ≤ 100) : xMet l G y_M_left (Cond.code y_M_left b_M_left 3 (Option.some Jvm.ClassFile.FieldType.int) :: x_tbl) { frames := 1, cells := 0, slots := 0, locals := 25 } [.ref md, .int i, .int wh] M sz (fun v M' => ∃ (x : Int32) (nu' : Nat → Nat → Nat), v = some (.int x) ∧ (leftK nu i wh = 0 → x = sg 26 (5 * cN i + cN wh)) ∧ mRep G M' md am nu' sg ∧ eqx [0] nu nu' ∧ xfr M M' (mS md am) ∧ nu' 0 0 = leftK nu i wh) (fun _ _ => False) := by
  refine xMet.of (by decide) (Nat.le_of_ble_eq_true rfl) ?_
  intro p e s m below meth c ls hC hr hnm hno hsz hw hl
  obtain ⟨hx, hb, hown, hts, hK, hml, hlk, hz⟩ := id hC
  have hl : lv_has ls 3 [(0, .ref md), (1, .int i), (2, .int wh)] := hl
  have hF : xfr M M (mS md am) := xfr.rf
  refine lv_aload_n hx hb d_M_left_0 rfl (lv_at hl 0 rfl) ?_
  refine lv_iload_n hx hb d_M_left_1 rfl (lv_at hl 1 rfl) ?_
  refine lv_iconst (v := nI 0) hx hb d_M_left_2 (by decide) ?_
  refine lv_aload_n hx hb d_M_left_3 rfl (lv_at hl 0 rfl) ?_
  refine x_get hC hw hR.1 rfl 25 (by decide) (hts _ k_759) (fun _ h9 => h9) rfl d_M_left_4 ?_
  refine lv_iconst (v := nI 1) hx hb d_M_left_7 (by decide) ?_
  refine lv_isub hx hb d_M_left_8 ?_
  refine x_callG hC (c_M_in l G M (Array.size s.heap) (i) (nI 0) ((nI (nu 25 0) - nI 1))) k_842 k_13 ⟨Nat.le_of_ble_eq_true rfl, Nat.le_of_ble_eq_true rfl⟩ ⟨Nat.le_of_ble_eq_true rfl, Nat.le_of_ble_eq_true rfl⟩ hw hl.1 (Nat.le_of_ble_eq_true rfl) d_M_left_9 (x_ivS hC k_842 k_840 k_841 k_13 (show _ ∧ _ ∧ _ = some 3 from by decide +kernel) rfl d_M_left_9) (fun rv M1 H locs hq hw => ?_) (fun _ _ _ _ _ h _ _ => h.elim)
  obtain ⟨rfl, hM⟩ := hq
  subst M1
  refine W.eq (g2 := F0 m 12 ls [.int (zI (inP i (nI 0) (nI (nu 25 0) - nI 1))), .ref md]) rfl ?_
  refine lv_if_eq (tgt := 28) hx hb d_M_left_12 (by decide) (fun c_12 => ?_) (fun c_12 => ?_)
  · have c_12 := zI_0.mp c_12
    have c_12 := (not_congr (num_in (by omega))).mp c_12
    refine lv_iconst (v := nI 1) hx hb d_M_left_28 (by decide) ?_
    refine m_put hC hw hR hF 0 1 rfl (by decide) (hts _ k_734) (fun _ h9 => h9) rfl (by decide +kernel) rfl rfl d_M_left_29 (fun M3 H locs nu2 hnu2 enu2 hR hF hw => ?_)
    refine lv_aload_n hx hb d_M_left_32 rfl (lv_at hl 0 rfl) ?_
    refine x_get hC hw hR.1 rfl 0 (by decide) (hts _ k_734) (fun _ h9 => h9) rfl d_M_left_33 ?_
    refine x_vi (y := nI 1) (by rw [enu2]) ?_
    refine lv_if_le (tgt := 43) hx hb d_M_left_36 (by decide) (fun c_36 => ?_) (fun c_36 => ?_)
    · exact absurd c_36 (by decide +kernel)
    · refine lv_iconst (v := nI 0) hx hb d_M_left_39 (by decide) ?_
      refine lv_goto (tgt := 53) hx hb d_M_left_40 (by decide) ?_
      have hk : leftK nu i wh = 1 := by rw [leftK, kt_t (fun h => c_12 h.1)]
      exact x_iret hC hr hw (⟨_, nu2, rfl, (fun h => absurd h (by rw [hk]; decide)), hR, (eqx.trans (L := [0]) (eqx.rf (L := [0])) hnu2 (by decide) (by decide)), hF, (by rw [hk, enu2])⟩) (Nat.le_of_ble_eq_true rfl) (Nat.le_of_ble_eq_true rfl) d_M_left_53
  · have c_12 := zI_1.mp c_12
    have c_12 := (num_in (by omega)).mp c_12
    obtain ⟨j, hj, rfl⟩ := c_12.ex
    have hcj : cN (nI j) = j := cN_nI (by omega)
    refine lv_iload_n hx hb d_M_left_15 rfl (lv_at hl 2 rfl) ?_
    refine lv_iconst (v := nI 0) hx hb d_M_left_16 (by decide) ?_
    refine lv_iconst (v := nI 4) hx hb d_M_left_17 (by decide) ?_
    refine x_callG hC (c_M_in l G M (Array.size H) (wh) (nI 0) (nI 4)) k_842 k_13 ⟨Nat.le_of_ble_eq_true rfl, Nat.le_of_ble_eq_true rfl⟩ ⟨Nat.le_of_ble_eq_true rfl, Nat.le_of_ble_eq_true rfl⟩ hw hl.1 (Nat.le_of_ble_eq_true rfl) d_M_left_18 (x_ivS hC k_842 k_840 k_841 k_13 (show _ ∧ _ ∧ _ = some 3 from by decide +kernel) rfl d_M_left_18) (fun rv M4 H locs hq hw => ?_) (fun _ _ _ _ _ h _ _ => h.elim)
    obtain ⟨rfl, hM⟩ := hq
    subst M4
    refine W.eq (g2 := F0 m 21 ls [.int (zI (inP wh (nI 0) (nI 4))), .ref md]) rfl ?_
    refine lv_if_eq (tgt := 28) hx hb d_M_left_21 (by decide) (fun c_21 => ?_) (fun c_21 => ?_)
    · have c_21 := zI_0.mp c_21
      have c_21 := (not_congr num_4).mp c_21
      refine lv_iconst (v := nI 1) hx hb d_M_left_28 (by decide) ?_
      refine m_put hC hw hR hF 0 1 rfl (by decide) (hts _ k_734) (fun _ h9 => h9) rfl (by decide +kernel) rfl rfl d_M_left_29 (fun M6 H locs nu5 hnu5 enu5 hR hF hw => ?_)
      refine lv_aload_n hx hb d_M_left_32 rfl (lv_at hl 0 rfl) ?_
      refine x_get hC hw hR.1 rfl 0 (by decide) (hts _ k_734) (fun _ h9 => h9) rfl d_M_left_33 ?_
      refine x_vi (y := nI 1) (by rw [enu5]) ?_
      refine lv_if_le (tgt := 43) hx hb d_M_left_36 (by decide) (fun c_36 => ?_) (fun c_36 => ?_)
      · exact absurd c_36 (by decide +kernel)
      · refine lv_iconst (v := nI 0) hx hb d_M_left_39 (by decide) ?_
        refine lv_goto (tgt := 53) hx hb d_M_left_40 (by decide) ?_
        have hk : leftK nu (nI j) wh = 1 := by rw [leftK, kt_t (fun h => c_21 h.2)]
        exact x_iret hC hr hw (⟨_, nu5, rfl, (fun h => absurd h (by rw [hk]; decide)), hR, (eqx.trans (L := [0]) (eqx.rf (L := [0])) hnu5 (by decide) (by decide)), hF, (by rw [hk, enu5])⟩) (Nat.le_of_ble_eq_true rfl) (Nat.le_of_ble_eq_true rfl) d_M_left_53
    · have c_21 := zI_1.mp c_21
      have c_21 := num_4.mp c_21
      obtain ⟨w, hw5, rfl⟩ := c_21.ex
      have hcw : cN (nI w) = w := cN_nI (by omega)
      refine lv_iconst (v := nI 0) hx hb d_M_left_24 (by decide) ?_
      refine lv_goto (tgt := 29) hx hb d_M_left_25 (by decide) ?_
      refine m_put hC hw hR hF 0 0 rfl (by decide) (hts _ k_734) (fun _ h9 => h9) rfl (by decide +kernel) rfl rfl d_M_left_29 (fun M8 H locs nu7 hnu7 enu7 hR hF hw => ?_)
      refine lv_aload_n hx hb d_M_left_32 rfl (lv_at hl 0 rfl) ?_
      refine x_get hC hw hR.1 rfl 0 (by decide) (hts _ k_734) (fun _ h9 => h9) rfl d_M_left_33 ?_
      refine x_vi (y := nI 0) (by rw [enu7]) ?_
      refine lv_if_le (tgt := 43) hx hb d_M_left_36 (by decide) (fun c_36 => ?_) (fun c_36 => ?_)
      · refine lv_aload_n hx hb d_M_left_43 rfl (lv_at hl 0 rfl) ?_
        refine x_get hC hw hR.1 rfl 26 (by decide) (hts _ k_760) (fun _ h9 => h9) rfl d_M_left_44 ?_
        refine lv_iconst (v := nI 5) hx hb d_M_left_47 (by decide) ?_
        refine lv_iload_n hx hb d_M_left_48 rfl (lv_at hl 1 rfl) ?_
        refine lv_imul hx hb d_M_left_49 ?_
        refine x_vi (y := nI (5 * j)) (pk_mul _ _) ?_
        refine lv_iload_n hx hb d_M_left_50 rfl (lv_at hl 2 rfl) ?_
        refine lv_iadd hx hb d_M_left_51 ?_
        refine x_vi (y := nI ((5 * j) + w)) (nI_add _ _) ?_
        refine m_ldI hC hw hR 26 ((5 * j) + w) rfl (rfl) (by show _ < 500; omega) (by decide) d_M_left_52 ?_
        have hk : leftK nu (nI j) (nI w) = 0 := by rw [leftK, kt_f (not_not_intro ⟨c_12, c_21⟩)]
        exact x_iret hC hr hw (⟨_, nu7, rfl, (fun _ => (by rw [hcj, hcw])), hR, (eqx.trans (L := [0]) (eqx.rf (L := [0])) hnu7 (by decide) (by decide)), hF, (by rw [hk, enu7])⟩) (Nat.le_of_ble_eq_true rfl) (Nat.le_of_ble_eq_true rfl) d_M_left_53
      · exact absurd c_36 (by decide +kernel)

set_option maxHeartbeats 1000000 in
set_option maxRecDepth 100000 in
/-- byteOf -/
theorem c_M_byteOf (l : Launch) (G : xT) (M : xMem) (sz : Nat) (md : Nat) (am : Nat → Nat) (nu : Nat → Nat → Nat) (sg : Nat → Nat → Int32) (hR : mRep G M md am nu sg) (so i : Int32) (h8 : nu 21 0 ≤ 8) (h60 : ∀ t, nu 23 t ≤ 60) : xMet l G y_M_byteOf (Cond.code y_M_byteOf b_M_byteOf 3 (Option.some Jvm.ClassFile.FieldType.byte) :: x_tbl) { frames := 1, cells := 0, slots := 0, locals := 25 } [.ref md, .int so, .int i] M sz (fun v M' => ∃ (x : Int32) (nu' : Nat → Nat → Nat), v = some (.int x) ∧ (byteOfK nu so i = 0 → x = (Int32.toInt8 (sg 24 (60 * cN so + cN i))).toInt32) ∧ mRep G M' md am nu' sg ∧ eqx [0] nu nu' ∧ xfr M M' (mS md am) ∧ nu' 0 0 = byteOfK nu so i) (fun _ _ => False) := by
  refine xMet.of (by decide) (Nat.le_of_ble_eq_true rfl) ?_
  intro p e s m below meth c ls hC hr hnm hno hsz hw hl
  obtain ⟨hx, hb, hown, hts, hK, hml, hlk, hz⟩ := id hC
  have hl : lv_has ls 3 [(0, .ref md), (1, .int so), (2, .int i)] := hl
  have hF : xfr M M (mS md am) := xfr.rf
  refine lv_aload_n hx hb d_M_byteOf_0 rfl (lv_at hl 0 rfl) ?_
  refine lv_iload_n hx hb d_M_byteOf_1 rfl (lv_at hl 1 rfl) ?_
  refine lv_iconst (v := nI 0) hx hb d_M_byteOf_2 (by decide) ?_
  refine lv_aload_n hx hb d_M_byteOf_3 rfl (lv_at hl 0 rfl) ?_
  refine x_get hC hw hR.1 rfl 21 (by decide) (hts _ k_755) (fun _ h9 => h9) rfl d_M_byteOf_4 ?_
  refine lv_iconst (v := nI 1) hx hb d_M_byteOf_7 (by decide) ?_
  refine lv_isub hx hb d_M_byteOf_8 ?_
  refine x_callG hC (c_M_in l G M (Array.size s.heap) (so) (nI 0) ((nI (nu 21 0) - nI 1))) k_842 k_13 ⟨Nat.le_of_ble_eq_true rfl, Nat.le_of_ble_eq_true rfl⟩ ⟨Nat.le_of_ble_eq_true rfl, Nat.le_of_ble_eq_true rfl⟩ hw hl.1 (Nat.le_of_ble_eq_true rfl) d_M_byteOf_9 (x_ivS hC k_842 k_840 k_841 k_13 (show _ ∧ _ ∧ _ = some 3 from by decide +kernel) rfl d_M_byteOf_9) (fun rv M1 H locs hq hw => ?_) (fun _ _ _ _ _ h _ _ => h.elim)
  obtain ⟨rfl, hM⟩ := hq
  subst M1
  refine W.eq (g2 := F0 m 12 ls [.int (zI (inP so (nI 0) (nI (nu 21 0) - nI 1))), .ref md]) rfl ?_
  refine lv_if_eq (tgt := 53) hx hb d_M_byteOf_12 (by decide) (fun c_12 => ?_) (fun c_12 => ?_)
  · have c_12 := zI_0.mp c_12
    have c_12 := (not_congr (num_in (by omega))).mp c_12
    refine lv_iconst (v := nI 1) hx hb d_M_byteOf_53 (by decide) ?_
    refine m_put hC hw hR hF 0 1 rfl (by decide) (hts _ k_734) (fun _ h9 => h9) rfl (by decide +kernel) rfl rfl d_M_byteOf_54 (fun M3 H locs nu2 hnu2 enu2 hR hF hw => ?_)
    refine lv_aload_n hx hb d_M_byteOf_57 rfl (lv_at hl 0 rfl) ?_
    refine x_get hC hw hR.1 rfl 0 (by decide) (hts _ k_734) (fun _ h9 => h9) rfl d_M_byteOf_58 ?_
    refine x_vi (y := nI 1) (by rw [enu2]) ?_
    refine lv_if_le (tgt := 68) hx hb d_M_byteOf_61 (by decide) (fun c_61 => ?_) (fun c_61 => ?_)
    · exact absurd c_61 (by decide +kernel)
    · refine lv_iconst (v := nI 0) hx hb d_M_byteOf_64 (by decide) ?_
      refine lv_goto (tgt := 80) hx hb d_M_byteOf_65 (by decide) ?_
      have hk : byteOfK nu so i = 1 := by rw [byteOfK, kt_t (fun h => c_12 h.1)]
      exact x_zret hC hr hw (by decide +kernel) (⟨_, nu2, rfl, (fun h => absurd h (by rw [hk]; decide)), hR, (eqx.trans (L := [0]) (eqx.rf (L := [0])) hnu2 (by decide) (by decide)), hF, (by rw [hk, enu2])⟩) (Nat.le_of_ble_eq_true rfl) (Nat.le_of_ble_eq_true rfl) d_M_byteOf_80
  · have c_12 := zI_1.mp c_12
    have c_12 := (num_in (by omega)).mp c_12
    obtain ⟨j, hj, rfl⟩ := c_12.ex
    have hcj : cN (nI j) = j := cN_nI (by omega)
    have h60j := h60 j
    refine lv_iload_n hx hb d_M_byteOf_15 rfl (lv_at hl 2 rfl) ?_
    refine lv_iconst (v := nI 0) hx hb d_M_byteOf_16 (by decide) ?_
    refine lv_aload_n hx hb d_M_byteOf_17 rfl (lv_at hl 0 rfl) ?_
    refine x_get hC hw hR.1 rfl 23 (by decide) (hts _ k_757) (fun _ h9 => h9) rfl d_M_byteOf_18 ?_
    refine lv_iload_n hx hb d_M_byteOf_21 rfl (lv_at hl 1 rfl) ?_
    refine lv_iconst (v := nI 0) hx hb d_M_byteOf_22 (by decide) ?_
    refine lv_aload_n hx hb d_M_byteOf_23 rfl (lv_at hl 0 rfl) ?_
    refine x_get hC hw hR.1 rfl 21 (by decide) (hts _ k_755) (fun _ h9 => h9) rfl d_M_byteOf_24 ?_
    refine lv_iconst (v := nI 1) hx hb d_M_byteOf_27 (by decide) ?_
    refine lv_isub hx hb d_M_byteOf_28 ?_
    refine x_callG hC (c_M_in l G M (Array.size H) (nI j) (nI 0) ((nI (nu 21 0) - nI 1))) k_842 k_13 ⟨Nat.le_of_ble_eq_true rfl, Nat.le_of_ble_eq_true rfl⟩ ⟨Nat.le_of_ble_eq_true rfl, Nat.le_of_ble_eq_true rfl⟩ hw hl.1 (Nat.le_of_ble_eq_true rfl) d_M_byteOf_29 (x_ivS hC k_842 k_840 k_841 k_13 (show _ ∧ _ ∧ _ = some 3 from by decide +kernel) rfl d_M_byteOf_29) (fun rv M4 H locs hq hw => ?_) (fun _ _ _ _ _ h _ _ => h.elim)
    obtain ⟨rfl, hM⟩ := hq
    subst M4
    refine W.eq (g2 := F0 m 32 ls [.int (zI (inP (nI j) (nI 0) (nI (nu 21 0) - nI 1))), .ref (am 23), .int (nI 0), .int i, .ref md]) rfl ?_
    refine lv_if_eq (tgt := 39) hx hb d_M_byteOf_32 (by decide) (fun c_32 => ?_) (fun c_32 => ?_)
    · have c_32 := zI_0.mp c_32
      exact absurd ((num_in (by omega)).mpr (num_of hj (by omega))) c_32
    · have c_32 := zI_1.mp c_32
      refine lv_iload_n hx hb d_M_byteOf_35 rfl (lv_at hl 1 rfl) ?_
      refine lv_goto (tgt := 40) hx hb d_M_byteOf_36 (by decide) ?_
      refine m_ldN hC hw hR 23 j rfl (rfl) (by show _ < 8; omega) (by decide) d_M_byteOf_40 ?_
      refine lv_iconst (v := nI 1) hx hb d_M_byteOf_41 (by decide) ?_
      refine lv_isub hx hb d_M_byteOf_42 ?_
      refine x_callG hC (c_M_in l G M (Array.size H) (i) (nI 0) ((nI (nu 23 j) - nI 1))) k_842 k_13 ⟨Nat.le_of_ble_eq_true rfl, Nat.le_of_ble_eq_true rfl⟩ ⟨Nat.le_of_ble_eq_true rfl, Nat.le_of_ble_eq_true rfl⟩ hw hl.1 (Nat.le_of_ble_eq_true rfl) d_M_byteOf_43 (x_ivS hC k_842 k_840 k_841 k_13 (show _ ∧ _ ∧ _ = some 3 from by decide +kernel) rfl d_M_byteOf_43) (fun rv M5 H locs hq hw => ?_) (fun _ _ _ _ _ h _ _ => h.elim)
      obtain ⟨rfl, hM⟩ := hq
      subst M5
      refine W.eq (g2 := F0 m 46 ls [.int (zI (inP i (nI 0) (nI (nu 23 j) - nI 1))), .ref md]) rfl ?_
      refine lv_if_eq (tgt := 53) hx hb d_M_byteOf_46 (by decide) (fun c_46 => ?_) (fun c_46 => ?_)
      · have c_46 := zI_0.mp c_46
        have c_46 := (not_congr (num_in (by omega))).mp c_46
        refine lv_iconst (v := nI 1) hx hb d_M_byteOf_53 (by decide) ?_
        refine m_put hC hw hR hF 0 1 rfl (by decide) (hts _ k_734) (fun _ h9 => h9) rfl (by decide +kernel) rfl rfl d_M_byteOf_54 (fun M7 H locs nu6 hnu6 enu6 hR hF hw => ?_)
        refine lv_aload_n hx hb d_M_byteOf_57 rfl (lv_at hl 0 rfl) ?_
        refine x_get hC hw hR.1 rfl 0 (by decide) (hts _ k_734) (fun _ h9 => h9) rfl d_M_byteOf_58 ?_
        refine x_vi (y := nI 1) (by rw [enu6]) ?_
        refine lv_if_le (tgt := 68) hx hb d_M_byteOf_61 (by decide) (fun c_61 => ?_) (fun c_61 => ?_)
        · exact absurd c_61 (by decide +kernel)
        · refine lv_iconst (v := nI 0) hx hb d_M_byteOf_64 (by decide) ?_
          refine lv_goto (tgt := 80) hx hb d_M_byteOf_65 (by decide) ?_
          have hk : byteOfK nu (nI j) i = 1 := by rw [byteOfK, kt_t (fun h => c_46 (by rw [hcj] at h; exact h.2))]
          exact x_zret hC hr hw (by decide +kernel) (⟨_, nu6, rfl, (fun h => absurd h (by rw [hk]; decide)), hR, (eqx.trans (L := [0]) (eqx.rf (L := [0])) hnu6 (by decide) (by decide)), hF, (by rw [hk, enu6])⟩) (Nat.le_of_ble_eq_true rfl) (Nat.le_of_ble_eq_true rfl) d_M_byteOf_80
      · have c_46 := zI_1.mp c_46
        have c_46 := (num_in (by omega)).mp c_46
        obtain ⟨k, hk, rfl⟩ := c_46.ex
        have hck : cN (nI k) = k := cN_nI (by omega)
        refine lv_iconst (v := nI 0) hx hb d_M_byteOf_49 (by decide) ?_
        refine lv_goto (tgt := 54) hx hb d_M_byteOf_50 (by decide) ?_
        refine m_put hC hw hR hF 0 0 rfl (by decide) (hts _ k_734) (fun _ h9 => h9) rfl (by decide +kernel) rfl rfl d_M_byteOf_54 (fun M9 H locs nu8 hnu8 enu8 hR hF hw => ?_)
        refine lv_aload_n hx hb d_M_byteOf_57 rfl (lv_at hl 0 rfl) ?_
        refine x_get hC hw hR.1 rfl 0 (by decide) (hts _ k_734) (fun _ h9 => h9) rfl d_M_byteOf_58 ?_
        refine x_vi (y := nI 0) (by rw [enu8]) ?_
        refine lv_if_le (tgt := 68) hx hb d_M_byteOf_61 (by decide) (fun c_61 => ?_) (fun c_61 => ?_)
        · refine lv_aload_n hx hb d_M_byteOf_68 rfl (lv_at hl 0 rfl) ?_
          refine x_get hC hw hR.1 rfl 24 (by decide) (hts _ k_758) (fun _ h9 => h9) rfl d_M_byteOf_69 ?_
          refine lv_bipush (v := nI 60) hx hb d_M_byteOf_72 (by decide) ?_
          refine lv_iload_n hx hb d_M_byteOf_74 rfl (lv_at hl 1 rfl) ?_
          refine lv_imul hx hb d_M_byteOf_75 ?_
          refine x_vi (y := nI (60 * j)) (pk_mul _ _) ?_
          refine lv_iload_n hx hb d_M_byteOf_76 rfl (lv_at hl 2 rfl) ?_
          refine lv_iadd hx hb d_M_byteOf_77 ?_
          refine x_vi (y := nI ((60 * j) + k)) (nI_add _ _) ?_
          refine m_ldI hC hw hR 24 ((60 * j) + k) rfl (rfl) (by show _ < 480; omega) (by decide) d_M_byteOf_78 ?_
          refine lv_i2b (v := (Int32.toInt8 (sg 24 ((60 * j) + k))).toInt32) hx hb d_M_byteOf_79 rfl ?_
          have hk : byteOfK nu (nI j) (nI k) = 0 := by rw [byteOfK, hcj, kt_f (not_not_intro ⟨c_12, c_46⟩)]
          exact x_zret hC hr hw (x_i2bV _) (⟨_, nu8, rfl, (fun _ => (by rw [hcj, hck])), hR, (eqx.trans (L := [0]) (eqx.rf (L := [0])) hnu8 (by decide) (by decide)), hF, (by rw [hk, enu8])⟩) (Nat.le_of_ble_eq_true rfl) (Nat.le_of_ble_eq_true rfl) d_M_byteOf_80
        · exact absurd c_61 (by decide +kernel)

set_option maxHeartbeats 1000000 in
set_option maxRecDepth 100000 in
/-- thrown -/
theorem c_M_thrown (l : Launch) (G : xT) (M : xMem) (sz : Nat) (md : Nat) (am : Nat → Nat) (nu : Nat → Nat → Nat) (sg : Nat → Nat → Int32) (hR : mRep G M md am nu sg)  : xMet l G y_M_thrown (Cond.code y_M_thrown b_M_thrown 1 (Option.some Jvm.ClassFile.FieldType.int) :: x_tbl) { frames := 0, cells := 0, slots := 0, locals := 0 } [.ref md] M sz (fun v M' => v = some (.int (nI (nu 0 0))) ∧ M' = M) (fun _ _ => False) := by
  refine xMet.of (by decide) (Nat.le_of_ble_eq_true rfl) ?_
  intro p e s m below meth c ls hC hr hnm hno hsz hw hl
  obtain ⟨hx, hb, hown, hts, hK, hml, hlk, hz⟩ := id hC
  have hl : lv_has ls 1 [(0, .ref md)] := hl
  have hF : xfr M M (mS md am) := xfr.rf
  refine lv_aload_n hx hb d_M_thrown_0 rfl (lv_at hl 0 rfl) ?_
  refine x_get hC hw hR.1 rfl 0 (by decide) (hts _ k_734) (fun _ h9 => h9) rfl d_M_thrown_1 ?_
  exact x_iret hC hr hw (⟨rfl, rfl⟩) (Nat.le_of_ble_eq_true rfl) (Nat.le_of_ble_eq_true rfl) d_M_thrown_4
