set_option maxHeartbeats 1000000 in
set_option maxRecDepth 100000 in
/-- addSign -/
theorem c_M_addSign (l : Launch) (G : xT) (M : xMem) (sz : Nat) (md : Nat) (am : Nat → Nat) (nu : Nat → Nat → Nat) (sg : Nat → Nat → Int32) (hR : mRep G M md am nu sg) (r : Nat) (a0 a1 a2 a3 : Int32) (hr24 : r < 24) (hs : nu 1 r ≤ 40) (h0 : nu 0 0 = 0) : xMet l G y_M_addSign (Cond.code y_M_addSign b_M_addSign 6 (Option.some Jvm.ClassFile.FieldType.int) :: x_tbl) { frames := 1, cells := 0, slots := 0, locals := 26 } [.ref md, .int (nI r), .int a0, .int a1, .int a2, .int a3] M sz (fun v M' => v = some (.int (nI (kt (addK nu r a0 a1 a2 a3 = 0) (nu 1 r + 1) 0))) ∧ ∃ (nu' : Nat → Nat → Nat) (sg' : Nat → Nat → Int32), mRep G M' md am nu' sg' ∧ eqx [0, 1] nu nu' ∧ eqx [2, 3, 4, 5] sg sg' ∧ xfr M M' (mS md am) ∧ nu' 0 0 = addK nu r a0 a1 a2 a3 ∧ (addK nu r a0 a1 a2 a3 = 0 → laidP nu nu' sg sg' r a0 a1 a2 a3) ∧ (addK nu r a0 a1 a2 a3 ≠ 0 → sameP nu nu' sg sg')) (fun _ _ => False) := by
  refine xMet.of (by decide) (Nat.le_of_ble_eq_true rfl) ?_
  intro p e s m below meth c ls hC hr hnm hno hsz hw hl
  obtain ⟨hx, hb, hown, hts, hK, hml, hlk, hz⟩ := id hC
  have hl : lv_has ls 6 [(0, .ref md), (1, .int (nI r)), (2, .int a0), (3, .int a1), (4, .int a2), (5, .int a3)] := hl
  have hF : xfr M M (mS md am) := xfr.rf
  refine lv_iload_n hx hb d_M_addSign_0 rfl (lv_at hl 2 rfl) ?_
  refine lv_bipush (v := nI 33) hx hb d_M_addSign_1 (by decide) ?_
  refine lv_bipush (v := nI 126) hx hb d_M_addSign_3 (by decide) ?_
  refine x_callG hC (c_M_in l G M (Array.size s.heap) (a0) (nI 33) (nI 126)) k_842 k_13 ⟨Nat.le_of_ble_eq_true rfl, Nat.le_of_ble_eq_true rfl⟩ ⟨Nat.le_of_ble_eq_true rfl, Nat.le_of_ble_eq_true rfl⟩ hw hl.1 (Nat.le_of_ble_eq_true rfl) d_M_addSign_5 (x_ivS hC k_842 k_840 k_841 k_13 (show _ ∧ _ ∧ _ = some 3 from by decide +kernel) rfl d_M_addSign_5) (fun rv M1 H locs hq hw => ?_) (fun _ _ _ _ _ h _ _ => h.elim)
  obtain ⟨rfl, hM⟩ := hq
  subst M1
  refine W.eq (g2 := F0 m 8 ls [.int (zI (inP a0 (nI 33) (nI 126)))]) rfl ?_
  refine lv_if_eq (tgt := 45) hx hb d_M_addSign_8 (by decide) (fun c_8 => ?_) (fun c_8 => ?_)
  · have c_8 := zI_0.mp c_8
    refine lv_aload_n hx hb d_M_addSign_45 rfl (lv_at hl 0 rfl) ?_
    refine lv_iconst (v := nI 2) hx hb d_M_addSign_46 (by decide) ?_
    refine m_put hC hw hR hF 0 2 rfl (by decide) (hts _ k_734) (fun _ h9 => h9) rfl (by decide +kernel) rfl rfl d_M_addSign_47 (fun M3 H locs nu2 hnu2 enu2 hR hF hw => ?_)
    refine lv_goto (tgt := 69) hx hb d_M_addSign_50 (by decide) ?_
    refine lv_aload_n hx hb d_M_addSign_69 rfl (lv_at hl 0 rfl) ?_
    refine x_get hC hw hR.1 rfl 0 (by decide) (hts _ k_734) (fun _ h9 => h9) rfl d_M_addSign_70 ?_
    refine x_vi (y := nI 2) (by rw [enu2]) ?_
    refine lv_if_le (tgt := 78) hx hb d_M_addSign_73 (by decide) (fun c_73 => ?_) (fun c_73 => ?_)
    · exact absurd c_73 (by decide +kernel)
    · refine lv_iconst (v := nI 0) hx hb d_M_addSign_76 (by decide) ?_
      have hk : addK nu r a0 a1 a2 a3 = 2 := by rw [addK, kt_t (fun h => c_8 h.1)]
      exact x_iret hC hr hw (⟨congrArg (fun z => some (Value.int (nI z))) (kt_f (by rw [hk]; decide)).symm, nu2, sg, hR, (eqx.trans (L := [0, 1]) (eqx.rf (L := [0, 1])) hnu2 (by decide) (by decide)), (eqx.rf (L := [2, 3, 4, 5])), hF, (by rw [hk, enu2]), fun h => absurd h (by rw [hk]; decide), fun _ => ⟨(eqx.trans (L := [0]) (eqx.rf (L := [0])) hnu2 (by decide) (by decide)), rfl⟩⟩) (Nat.le_of_ble_eq_true rfl) (Nat.le_of_ble_eq_true rfl) d_M_addSign_77
  · have c_8 := zI_1.mp c_8
    refine lv_iload_n hx hb d_M_addSign_11 rfl (lv_at hl 3 rfl) ?_
    refine lv_iconst (v := nI 0) hx hb d_M_addSign_12 (by decide) ?_
    refine lv_sipush (v := nI 999) hx hb d_M_addSign_13 (by decide) ?_
    refine x_callG hC (c_M_in l G M (Array.size H) (a1) (nI 0) (nI 999)) k_842 k_13 ⟨Nat.le_of_ble_eq_true rfl, Nat.le_of_ble_eq_true rfl⟩ ⟨Nat.le_of_ble_eq_true rfl, Nat.le_of_ble_eq_true rfl⟩ hw hl.1 (Nat.le_of_ble_eq_true rfl) d_M_addSign_16 (x_ivS hC k_842 k_840 k_841 k_13 (show _ ∧ _ ∧ _ = some 3 from by decide +kernel) rfl d_M_addSign_16) (fun rv M4 H locs hq hw => ?_) (fun _ _ _ _ _ h _ _ => h.elim)
    obtain ⟨rfl, hM⟩ := hq
    subst M4
    refine W.eq (g2 := F0 m 19 ls [.int (zI (inP a1 (nI 0) (nI 999)))]) rfl ?_
    refine lv_if_eq (tgt := 45) hx hb d_M_addSign_19 (by decide) (fun c_19 => ?_) (fun c_19 => ?_)
    · have c_19 := zI_0.mp c_19
      refine lv_aload_n hx hb d_M_addSign_45 rfl (lv_at hl 0 rfl) ?_
      refine lv_iconst (v := nI 2) hx hb d_M_addSign_46 (by decide) ?_
      refine m_put hC hw hR hF 0 2 rfl (by decide) (hts _ k_734) (fun _ h9 => h9) rfl (by decide +kernel) rfl rfl d_M_addSign_47 (fun M6 H locs nu5 hnu5 enu5 hR hF hw => ?_)
      refine lv_goto (tgt := 69) hx hb d_M_addSign_50 (by decide) ?_
      refine lv_aload_n hx hb d_M_addSign_69 rfl (lv_at hl 0 rfl) ?_
      refine x_get hC hw hR.1 rfl 0 (by decide) (hts _ k_734) (fun _ h9 => h9) rfl d_M_addSign_70 ?_
      refine x_vi (y := nI 2) (by rw [enu5]) ?_
      refine lv_if_le (tgt := 78) hx hb d_M_addSign_73 (by decide) (fun c_73 => ?_) (fun c_73 => ?_)
      · exact absurd c_73 (by decide +kernel)
      · refine lv_iconst (v := nI 0) hx hb d_M_addSign_76 (by decide) ?_
        have hk : addK nu r a0 a1 a2 a3 = 2 := by rw [addK, kt_t (fun h => c_19 h.2.1)]
        exact x_iret hC hr hw (⟨congrArg (fun z => some (Value.int (nI z))) (kt_f (by rw [hk]; decide)).symm, nu5, sg, hR, (eqx.trans (L := [0, 1]) (eqx.rf (L := [0, 1])) hnu5 (by decide) (by decide)), (eqx.rf (L := [2, 3, 4, 5])), hF, (by rw [hk, enu5]), fun h => absurd h (by rw [hk]; decide), fun _ => ⟨(eqx.trans (L := [0]) (eqx.rf (L := [0])) hnu5 (by decide) (by decide)), rfl⟩⟩) (Nat.le_of_ble_eq_true rfl) (Nat.le_of_ble_eq_true rfl) d_M_addSign_77
    · have c_19 := zI_1.mp c_19
      refine lv_iload hx hb d_M_addSign_22 (lv_at hl 4 rfl) ?_
      refine lv_iconst (v := nI 0) hx hb d_M_addSign_24 (by decide) ?_
      refine lv_sipush (v := nI 999) hx hb d_M_addSign_25 (by decide) ?_
      refine x_callG hC (c_M_in l G M (Array.size H) (a2) (nI 0) (nI 999)) k_842 k_13 ⟨Nat.le_of_ble_eq_true rfl, Nat.le_of_ble_eq_true rfl⟩ ⟨Nat.le_of_ble_eq_true rfl, Nat.le_of_ble_eq_true rfl⟩ hw hl.1 (Nat.le_of_ble_eq_true rfl) d_M_addSign_28 (x_ivS hC k_842 k_840 k_841 k_13 (show _ ∧ _ ∧ _ = some 3 from by decide +kernel) rfl d_M_addSign_28) (fun rv M7 H locs hq hw => ?_) (fun _ _ _ _ _ h _ _ => h.elim)
      obtain ⟨rfl, hM⟩ := hq
      subst M7
      refine W.eq (g2 := F0 m 31 ls [.int (zI (inP a2 (nI 0) (nI 999)))]) rfl ?_
      refine lv_if_eq (tgt := 45) hx hb d_M_addSign_31 (by decide) (fun c_31 => ?_) (fun c_31 => ?_)
      · have c_31 := zI_0.mp c_31
        refine lv_aload_n hx hb d_M_addSign_45 rfl (lv_at hl 0 rfl) ?_
        refine lv_iconst (v := nI 2) hx hb d_M_addSign_46 (by decide) ?_
        refine m_put hC hw hR hF 0 2 rfl (by decide) (hts _ k_734) (fun _ h9 => h9) rfl (by decide +kernel) rfl rfl d_M_addSign_47 (fun M9 H locs nu8 hnu8 enu8 hR hF hw => ?_)
        refine lv_goto (tgt := 69) hx hb d_M_addSign_50 (by decide) ?_
        refine lv_aload_n hx hb d_M_addSign_69 rfl (lv_at hl 0 rfl) ?_
        refine x_get hC hw hR.1 rfl 0 (by decide) (hts _ k_734) (fun _ h9 => h9) rfl d_M_addSign_70 ?_
        refine x_vi (y := nI 2) (by rw [enu8]) ?_
        refine lv_if_le (tgt := 78) hx hb d_M_addSign_73 (by decide) (fun c_73 => ?_) (fun c_73 => ?_)
        · exact absurd c_73 (by decide +kernel)
        · refine lv_iconst (v := nI 0) hx hb d_M_addSign_76 (by decide) ?_
          have hk : addK nu r a0 a1 a2 a3 = 2 := by rw [addK, kt_t (fun h => c_31 h.2.2.1)]
          exact x_iret hC hr hw (⟨congrArg (fun z => some (Value.int (nI z))) (kt_f (by rw [hk]; decide)).symm, nu8, sg, hR, (eqx.trans (L := [0, 1]) (eqx.rf (L := [0, 1])) hnu8 (by decide) (by decide)), (eqx.rf (L := [2, 3, 4, 5])), hF, (by rw [hk, enu8]), fun h => absurd h (by rw [hk]; decide), fun _ => ⟨(eqx.trans (L := [0]) (eqx.rf (L := [0])) hnu8 (by decide) (by decide)), rfl⟩⟩) (Nat.le_of_ble_eq_true rfl) (Nat.le_of_ble_eq_true rfl) d_M_addSign_77
      · have c_31 := zI_1.mp c_31
        refine lv_iload hx hb d_M_addSign_34 (lv_at hl 5 rfl) ?_
        refine lv_iconst (v := nI 1) hx hb d_M_addSign_36 (by decide) ?_
        refine lv_bipush (v := nI 50) hx hb d_M_addSign_37 (by decide) ?_
        refine x_callG hC (c_M_in l G M (Array.size H) (a3) (nI 1) (nI 50)) k_842 k_13 ⟨Nat.le_of_ble_eq_true rfl, Nat.le_of_ble_eq_true rfl⟩ ⟨Nat.le_of_ble_eq_true rfl, Nat.le_of_ble_eq_true rfl⟩ hw hl.1 (Nat.le_of_ble_eq_true rfl) d_M_addSign_39 (x_ivS hC k_842 k_840 k_841 k_13 (show _ ∧ _ ∧ _ = some 3 from by decide +kernel) rfl d_M_addSign_39) (fun rv M10 H locs hq hw => ?_) (fun _ _ _ _ _ h _ _ => h.elim)
        obtain ⟨rfl, hM⟩ := hq
        subst M10
        refine W.eq (g2 := F0 m 42 ls [.int (zI (inP a3 (nI 1) (nI 50)))]) rfl ?_
        refine lv_if_ne (tgt := 53) hx hb d_M_addSign_42 (by decide) (fun c_42 => ?_) (fun c_42 => ?_)
        · have c_42 := zI_1.mp c_42
          refine lv_aload_n hx hb d_M_addSign_53 rfl (lv_at hl 0 rfl) ?_
          refine x_get hC hw hR.1 rfl 1 (by decide) (hts _ k_735) (fun _ h9 => h9) rfl d_M_addSign_54 ?_
          refine lv_iload_n hx hb d_M_addSign_57 rfl (lv_at hl 1 rfl) ?_
          refine m_ldN hC hw hR 1 r rfl (rfl) (by show _ < 24; omega) (by decide) d_M_addSign_58 ?_
          refine lv_bipush (v := nI 40) hx hb d_M_addSign_59 (by decide) ?_
          refine lv_icmp_ne (tgt := 69) hx hb d_M_addSign_61 (by decide) (fun c_61 => ?_) (fun c_61 => ?_)
          · have c_61 := (not_congr (nI_eq (by omega) (by omega))).mp c_61
            refine lv_aload_n hx hb d_M_addSign_69 rfl (lv_at hl 0 rfl) ?_
            refine x_get hC hw hR.1 rfl 0 (by decide) (hts _ k_734) (fun _ h9 => h9) rfl d_M_addSign_70 ?_
            refine x_vi (y := nI 0) (by rw [h0]) ?_
            refine lv_if_le (tgt := 78) hx hb d_M_addSign_73 (by decide) (fun c_73 => ?_) (fun c_73 => ?_)
            · refine lv_aload_n hx hb d_M_addSign_78 rfl (lv_at hl 0 rfl) ?_
              refine lv_iload_n hx hb d_M_addSign_79 rfl (lv_at hl 1 rfl) ?_
              refine lv_iload_n hx hb d_M_addSign_80 rfl (lv_at hl 2 rfl) ?_
              refine lv_iload_n hx hb d_M_addSign_81 rfl (lv_at hl 3 rfl) ?_
              refine lv_iload hx hb d_M_addSign_82 (lv_at hl 4 rfl) ?_
              refine lv_iload hx hb d_M_addSign_84 (lv_at hl 5 rfl) ?_
              refine x_callG hC (c_M_lay l G M (Array.size H) md am nu sg hR r a0 a1 a2 a3 hr24 (by omega)) k_850 k_13 ⟨Nat.le_of_ble_eq_true rfl, Nat.le_of_ble_eq_true rfl⟩ ⟨Nat.le_of_ble_eq_true rfl, Nat.le_of_ble_eq_true rfl⟩ hw hl.1 (Nat.le_of_ble_eq_true rfl) d_M_addSign_86 (x_ivV hC k_850 k_847 k_849 kp_23 (show _ ∧ _ ∧ _ = some 5 from by decide +kernel) (x_recv hC hw hR.1 rfl) rfl d_M_addSign_86) (fun rv M11 H locs hq hw => ?_) (fun _ _ _ _ _ h _ _ => h.elim)
              obtain ⟨rfl, nu12, sg13, hR, hnu12, hsg13, fr, f1, f2, f3, f4, f5⟩ := hq
              have hF := hF.trans fr (fun _ h => Or.inl h)
              refine W.eq (g2 := F0 m 89 ls []) rfl ?_
              refine lv_aload_n hx hb d_M_addSign_89 rfl (lv_at hl 0 rfl) ?_
              refine x_get hC hw hR.1 rfl 1 (by decide) (hts _ k_735) (fun _ h9 => h9) rfl d_M_addSign_90 ?_
              refine lv_iload_n hx hb d_M_addSign_93 rfl (lv_at hl 1 rfl) ?_
              refine m_ldN hC hw hR 1 r rfl (rfl) (by show _ < 24; omega) (by decide) d_M_addSign_94 ?_
              refine x_vi (y := nI (nu 1 r + 1)) (by rw [f1, va_up_self]) ?_
              have hk : addK nu r a0 a1 a2 a3 = 0 := by rw [addK, kt_f (not_not_intro ⟨c_8, c_19, c_31, c_42⟩), kt_f c_61]
              exact x_iret hC hr hw (⟨(by rw [kt_t hk]), nu12, sg13, hR, (eqx.trans (L := [0, 1]) (eqx.rf (L := [0, 1])) hnu12 (by decide) (by decide)), (eqx.trans (L := [2, 3, 4, 5]) (eqx.rf (L := [2, 3, 4, 5])) hsg13 (by decide) (by decide)), hF, (by rw [hk, hnu12 0 (by decide)]; exact h0), fun _ => ⟨f1, f2, f3, f4, f5⟩, fun h => absurd hk h⟩) (Nat.le_of_ble_eq_true rfl) (Nat.le_of_ble_eq_true rfl) d_M_addSign_95
            · exact absurd c_73 (by decide +kernel)
          · have c_61 := (nI_eq (by omega) (by omega)).mp c_61
            refine lv_aload_n hx hb d_M_addSign_64 rfl (lv_at hl 0 rfl) ?_
            refine lv_iconst (v := nI 3) hx hb d_M_addSign_65 (by decide) ?_
            refine m_put hC hw hR hF 0 3 rfl (by decide) (hts _ k_734) (fun _ h9 => h9) rfl (by decide +kernel) rfl rfl d_M_addSign_66 (fun M15 H locs nu14 hnu14 enu14 hR hF hw => ?_)
            refine lv_aload_n hx hb d_M_addSign_69 rfl (lv_at hl 0 rfl) ?_
            refine x_get hC hw hR.1 rfl 0 (by decide) (hts _ k_734) (fun _ h9 => h9) rfl d_M_addSign_70 ?_
            refine x_vi (y := nI 3) (by rw [enu14]) ?_
            refine lv_if_le (tgt := 78) hx hb d_M_addSign_73 (by decide) (fun c_73 => ?_) (fun c_73 => ?_)
            · exact absurd c_73 (by decide +kernel)
            · refine lv_iconst (v := nI 0) hx hb d_M_addSign_76 (by decide) ?_
              have hk : addK nu r a0 a1 a2 a3 = 3 := by rw [addK, kt_f (not_not_intro ⟨c_8, c_19, c_31, c_42⟩), kt_t c_61]
              exact x_iret hC hr hw (⟨congrArg (fun z => some (Value.int (nI z))) (kt_f (by rw [hk]; decide)).symm, nu14, sg, hR, (eqx.trans (L := [0, 1]) (eqx.rf (L := [0, 1])) hnu14 (by decide) (by decide)), (eqx.rf (L := [2, 3, 4, 5])), hF, (by rw [hk, enu14]), fun h => absurd h (by rw [hk]; decide), fun _ => ⟨(eqx.trans (L := [0]) (eqx.rf (L := [0])) hnu14 (by decide) (by decide)), rfl⟩⟩) (Nat.le_of_ble_eq_true rfl) (Nat.le_of_ble_eq_true rfl) d_M_addSign_77
        · have c_42 := zI_0.mp c_42
          refine lv_aload_n hx hb d_M_addSign_45 rfl (lv_at hl 0 rfl) ?_
          refine lv_iconst (v := nI 2) hx hb d_M_addSign_46 (by decide) ?_
          refine m_put hC hw hR hF 0 2 rfl (by decide) (hts _ k_734) (fun _ h9 => h9) rfl (by decide +kernel) rfl rfl d_M_addSign_47 (fun M17 H locs nu16 hnu16 enu16 hR hF hw => ?_)
          refine lv_goto (tgt := 69) hx hb d_M_addSign_50 (by decide) ?_
          refine lv_aload_n hx hb d_M_addSign_69 rfl (lv_at hl 0 rfl) ?_
          refine x_get hC hw hR.1 rfl 0 (by decide) (hts _ k_734) (fun _ h9 => h9) rfl d_M_addSign_70 ?_
          refine x_vi (y := nI 2) (by rw [enu16]) ?_
          refine lv_if_le (tgt := 78) hx hb d_M_addSign_73 (by decide) (fun c_73 => ?_) (fun c_73 => ?_)
          · exact absurd c_73 (by decide +kernel)
          · refine lv_iconst (v := nI 0) hx hb d_M_addSign_76 (by decide) ?_
            have hk : addK nu r a0 a1 a2 a3 = 2 := by rw [addK, kt_t (fun h => c_42 h.2.2.2)]
            exact x_iret hC hr hw (⟨congrArg (fun z => some (Value.int (nI z))) (kt_f (by rw [hk]; decide)).symm, nu16, sg, hR, (eqx.trans (L := [0, 1]) (eqx.rf (L := [0, 1])) hnu16 (by decide) (by decide)), (eqx.rf (L := [2, 3, 4, 5])), hF, (by rw [hk, enu16]), fun h => absurd h (by rw [hk]; decide), fun _ => ⟨(eqx.trans (L := [0]) (eqx.rf (L := [0])) hnu16 (by decide) (by decide)), rfl⟩⟩) (Nat.le_of_ble_eq_true rfl) (Nat.le_of_ble_eq_true rfl) d_M_addSign_77

set_option maxHeartbeats 1000000 in
set_option maxRecDepth 100000 in
/-- sign -/
theorem c_M_sign (l : Launch) (G : xT) (M : xMem) (sz : Nat) (md : Nat) (am : Nat → Nat) (nu : Nat → Nat → Nat) (sg : Nat → Nat → Int32) (hR : mRep G M md am nu sg) (pg a0 a1 a2 a3 : Int32) (hs : ∀ r, nu 1 r ≤ 40) : xMet l G y_M_sign (Cond.code y_M_sign b_M_sign 6 (Option.some Jvm.ClassFile.FieldType.int) :: x_tbl) { frames := 2, cells := 0, slots := 0, locals := 51 } [.ref md, .int pg, .int a0, .int a1, .int a2, .int a3] M sz (fun v M' => v = some (.int (nI (kt (signK nu pg a0 a1 a2 a3 = 0) (nu 1 (cN pg) + 1) 0))) ∧ ∃ (nu' : Nat → Nat → Nat) (sg' : Nat → Nat → Int32), mRep G M' md am nu' sg' ∧ eqx [0, 1] nu nu' ∧ eqx [2, 3, 4, 5] sg sg' ∧ xfr M M' (mS md am) ∧ nu' 0 0 = signK nu pg a0 a1 a2 a3 ∧ (signK nu pg a0 a1 a2 a3 = 0 → laidP nu nu' sg sg' (cN pg) a0 a1 a2 a3) ∧ (signK nu pg a0 a1 a2 a3 ≠ 0 → sameP nu nu' sg sg')) (fun _ _ => False) := by
  refine xMet.of (by decide) (Nat.le_of_ble_eq_true rfl) ?_
  intro p e s m below meth c ls hC hr hnm hno hsz hw hl
  obtain ⟨hx, hb, hown, hts, hK, hml, hlk, hz⟩ := id hC
  have hl : lv_has ls 6 [(0, .ref md), (1, .int pg), (2, .int a0), (3, .int a1), (4, .int a2), (5, .int a3)] := hl
  have hF : xfr M M (mS md am) := xfr.rf
  refine lv_aload_n hx hb d_M_sign_0 rfl (lv_at hl 0 rfl) ?_
  refine lv_iload_n hx hb d_M_sign_1 rfl (lv_at hl 1 rfl) ?_
  refine lv_iconst (v := nI 0) hx hb d_M_sign_2 (by decide) ?_
  refine lv_iconst (v := nI 3) hx hb d_M_sign_3 (by decide) ?_
  refine x_callG hC (c_M_in l G M (Array.size s.heap) (pg) (nI 0) (nI 3)) k_842 k_13 ⟨Nat.le_of_ble_eq_true rfl, Nat.le_of_ble_eq_true rfl⟩ ⟨Nat.le_of_ble_eq_true rfl, Nat.le_of_ble_eq_true rfl⟩ hw hl.1 (Nat.le_of_ble_eq_true rfl) d_M_sign_4 (x_ivS hC k_842 k_840 k_841 k_13 (show _ ∧ _ ∧ _ = some 3 from by decide +kernel) rfl d_M_sign_4) (fun rv M1 H locs hq hw => ?_) (fun _ _ _ _ _ h _ _ => h.elim)
  obtain ⟨rfl, hM⟩ := hq
  subst M1
  refine W.eq (g2 := F0 m 7 ls [.int (zI (inP pg (nI 0) (nI 3))), .ref md]) rfl ?_
  refine lv_if_eq (tgt := 14) hx hb d_M_sign_7 (by decide) (fun c_7 => ?_) (fun c_7 => ?_)
  · have c_7 := zI_0.mp c_7
    have c_7 := (not_congr num_3).mp c_7
    refine lv_iconst (v := nI 1) hx hb d_M_sign_14 (by decide) ?_
    refine m_put hC hw hR hF 0 1 rfl (by decide) (hts _ k_734) (fun _ h9 => h9) rfl (by decide +kernel) rfl rfl d_M_sign_15 (fun M3 H locs nu2 hnu2 enu2 hR hF hw => ?_)
    refine lv_aload_n hx hb d_M_sign_18 rfl (lv_at hl 0 rfl) ?_
    refine x_get hC hw hR.1 rfl 0 (by decide) (hts _ k_734) (fun _ h9 => h9) rfl d_M_sign_19 ?_
    refine x_vi (y := nI 1) (by rw [enu2]) ?_
    refine lv_if_le (tgt := 29) hx hb d_M_sign_22 (by decide) (fun c_22 => ?_) (fun c_22 => ?_)
    · exact absurd c_22 (by decide +kernel)
    · refine lv_iconst (v := nI 0) hx hb d_M_sign_25 (by decide) ?_
      refine lv_goto (tgt := 40) hx hb d_M_sign_26 (by decide) ?_
      have hk : signK nu pg a0 a1 a2 a3 = 1 := by rw [signK, kt_t c_7]
      exact x_iret hC hr hw (⟨congrArg (fun z => some (Value.int (nI z))) (kt_f (by rw [hk]; decide)).symm, nu2, sg, hR, (eqx.trans (L := [0, 1]) (eqx.rf (L := [0, 1])) hnu2 (by decide) (by decide)), (eqx.rf (L := [2, 3, 4, 5])), hF, (by rw [hk, enu2]), fun h => absurd h (by rw [hk]; decide), fun _ => ⟨(eqx.trans (L := [0]) (eqx.rf (L := [0])) hnu2 (by decide) (by decide)), rfl⟩⟩) (Nat.le_of_ble_eq_true rfl) (Nat.le_of_ble_eq_true rfl) d_M_sign_40
  · have c_7 := zI_1.mp c_7
    have c_7 := num_3.mp c_7
    obtain ⟨j, hj, rfl⟩ := c_7.ex
    have hcj : cN (nI j) = j := cN_nI (by omega)
    refine lv_iconst (v := nI 0) hx hb d_M_sign_10 (by decide) ?_
    refine lv_goto (tgt := 15) hx hb d_M_sign_11 (by decide) ?_
    refine m_put hC hw hR hF 0 0 rfl (by decide) (hts _ k_734) (fun _ h9 => h9) rfl (by decide +kernel) rfl rfl d_M_sign_15 (fun M5 H locs nu4 hnu4 enu4 hR hF hw => ?_)
    refine lv_aload_n hx hb d_M_sign_18 rfl (lv_at hl 0 rfl) ?_
    refine x_get hC hw hR.1 rfl 0 (by decide) (hts _ k_734) (fun _ h9 => h9) rfl d_M_sign_19 ?_
    refine x_vi (y := nI 0) (by rw [enu4]) ?_
    refine lv_if_le (tgt := 29) hx hb d_M_sign_22 (by decide) (fun c_22 => ?_) (fun c_22 => ?_)
    · refine lv_aload_n hx hb d_M_sign_29 rfl (lv_at hl 0 rfl) ?_
      refine lv_iload_n hx hb d_M_sign_30 rfl (lv_at hl 1 rfl) ?_
      refine lv_iload_n hx hb d_M_sign_31 rfl (lv_at hl 2 rfl) ?_
      refine lv_iload_n hx hb d_M_sign_32 rfl (lv_at hl 3 rfl) ?_
      refine lv_iload hx hb d_M_sign_33 (lv_at hl 4 rfl) ?_
      refine lv_iload hx hb d_M_sign_35 (lv_at hl 5 rfl) ?_
      refine x_callG hC (c_M_addSign l G M5 (Array.size H) md am nu4 sg hR (j) a0 a1 a2 a3 (by omega) (by rw [hnu4 1 (by decide)]; exact hs _) (by rw [enu4])) k_846 k_13 ⟨Nat.le_of_ble_eq_true rfl, Nat.le_of_ble_eq_true rfl⟩ ⟨Nat.le_of_ble_eq_true rfl, Nat.le_of_ble_eq_true rfl⟩ hw hl.1 (Nat.le_of_ble_eq_true rfl) d_M_sign_37 (x_ivV hC k_846 k_843 k_845 kp_22 (show _ ∧ _ ∧ _ = some 5 from by decide +kernel) (x_recv hC hw hR.1 rfl) rfl d_M_sign_37) (fun rv M6 H locs hq hw => ?_) (fun _ _ _ _ _ h _ _ => h.elim)
      obtain ⟨rfl, nu7, sg8, hR, hnu7, hsg8, fr, g1, g2, g3⟩ := hq
      have hF := hF.trans fr (fun _ h => Or.inl h)
      refine W.eq (g2 := F0 m 40 ls [.int (nI (kt (addK nu4 (j) a0 a1 a2 a3 = 0) (nu4 1 (j) + 1) 0))]) rfl ?_
      have hk : signK nu (nI j) a0 a1 a2 a3 = addK nu4 (j) a0 a1 a2 a3 := by rw [signK, kt_f (not_not_intro c_7), hcj]; unfold addK; rw [hnu4 1 (by decide)]
      exact x_iret hC hr hw (⟨(by rw [hk, hcj, hnu4 1 (by decide)]), nu7, sg8, hR, (eqx.trans (L := [0, 1]) (eqx.trans (L := [0, 1]) (eqx.rf (L := [0, 1])) hnu4 (by decide) (by decide)) hnu7 (by decide) (by decide)), (eqx.trans (L := [2, 3, 4, 5]) (eqx.rf (L := [2, 3, 4, 5])) hsg8 (by decide) (by decide)), hF, (by rw [hk]; exact g1), fun h => (by rw [hcj]; have z := g2 (by rw [← hk]; exact h); unfold laidP at z ⊢; rw [hnu4 1 (by decide)] at z; exact z), fun h => ⟨eqx.trans (L := [0]) hnu4 (g3 (by rw [← hk]; exact h)).1 (by decide) (by decide), (g3 (by rw [← hk]; exact h)).2⟩⟩) (Nat.le_of_ble_eq_true rfl) (Nat.le_of_ble_eq_true rfl) d_M_sign_40
    · exact absurd c_22 (by decide +kernel)

set_option maxHeartbeats 1000000 in
set_option maxRecDepth 100000 in
/-- formSign -/
theorem c_M_formSign (l : Launch) (G : xT) (M : xMem) (sz : Nat) (md : Nat) (am : Nat → Nat) (nu : Nat → Nat → Nat) (sg : Nat → Nat → Int32) (hR : mRep G M md am nu sg) (fo a0 a1 a2 a3 : Int32) (hs : ∀ r, nu 1 r ≤ 40) (h20 : nu 6 0 ≤ 20) : xMet l G y_M_formSign (Cond.code y_M_formSign b_M_formSign 6 (Option.some Jvm.ClassFile.FieldType.int) :: x_tbl) { frames := 2, cells := 0, slots := 0, locals := 51 } [.ref md, .int fo, .int a0, .int a1, .int a2, .int a3] M sz (fun v M' => v = some (.int (nI (kt (formSignK nu fo a0 a1 a2 a3 = 0) (nu 1 (4 + cN fo) + 1) 0))) ∧ ∃ (nu' : Nat → Nat → Nat) (sg' : Nat → Nat → Int32), mRep G M' md am nu' sg' ∧ eqx [0, 1] nu nu' ∧ eqx [2, 3, 4, 5] sg sg' ∧ xfr M M' (mS md am) ∧ nu' 0 0 = formSignK nu fo a0 a1 a2 a3 ∧ (formSignK nu fo a0 a1 a2 a3 = 0 → laidP nu nu' sg sg' (4 + cN fo) a0 a1 a2 a3) ∧ (formSignK nu fo a0 a1 a2 a3 ≠ 0 → sameP nu nu' sg sg')) (fun _ _ => False) := by
  refine xMet.of (by decide) (Nat.le_of_ble_eq_true rfl) ?_
  intro p e s m below meth c ls hC hr hnm hno hsz hw hl
  obtain ⟨hx, hb, hown, hts, hK, hml, hlk, hz⟩ := id hC
  have hl : lv_has ls 6 [(0, .ref md), (1, .int fo), (2, .int a0), (3, .int a1), (4, .int a2), (5, .int a3)] := hl
  have hF : xfr M M (mS md am) := xfr.rf
  refine lv_aload_n hx hb d_M_formSign_0 rfl (lv_at hl 0 rfl) ?_
  refine lv_iload_n hx hb d_M_formSign_1 rfl (lv_at hl 1 rfl) ?_
  refine lv_iconst (v := nI 0) hx hb d_M_formSign_2 (by decide) ?_
  refine lv_aload_n hx hb d_M_formSign_3 rfl (lv_at hl 0 rfl) ?_
  refine x_get hC hw hR.1 rfl 6 (by decide) (hts _ k_740) (fun _ h9 => h9) rfl d_M_formSign_4 ?_
  refine lv_iconst (v := nI 1) hx hb d_M_formSign_7 (by decide) ?_
  refine lv_isub hx hb d_M_formSign_8 ?_
  refine x_callG hC (c_M_in l G M (Array.size s.heap) (fo) (nI 0) ((nI (nu 6 0) - nI 1))) k_842 k_13 ⟨Nat.le_of_ble_eq_true rfl, Nat.le_of_ble_eq_true rfl⟩ ⟨Nat.le_of_ble_eq_true rfl, Nat.le_of_ble_eq_true rfl⟩ hw hl.1 (Nat.le_of_ble_eq_true rfl) d_M_formSign_9 (x_ivS hC k_842 k_840 k_841 k_13 (show _ ∧ _ ∧ _ = some 3 from by decide +kernel) rfl d_M_formSign_9) (fun rv M1 H locs hq hw => ?_) (fun _ _ _ _ _ h _ _ => h.elim)
  obtain ⟨rfl, hM⟩ := hq
  subst M1
  refine W.eq (g2 := F0 m 12 ls [.int (zI (inP fo (nI 0) (nI (nu 6 0) - nI 1))), .ref md]) rfl ?_
  refine lv_if_eq (tgt := 19) hx hb d_M_formSign_12 (by decide) (fun c_12 => ?_) (fun c_12 => ?_)
  · have c_12 := zI_0.mp c_12
    have c_12 := (not_congr (num_in (by omega))).mp c_12
    refine lv_iconst (v := nI 1) hx hb d_M_formSign_19 (by decide) ?_
    refine m_put hC hw hR hF 0 1 rfl (by decide) (hts _ k_734) (fun _ h9 => h9) rfl (by decide +kernel) rfl rfl d_M_formSign_20 (fun M3 H locs nu2 hnu2 enu2 hR hF hw => ?_)
    refine lv_aload_n hx hb d_M_formSign_23 rfl (lv_at hl 0 rfl) ?_
    refine x_get hC hw hR.1 rfl 0 (by decide) (hts _ k_734) (fun _ h9 => h9) rfl d_M_formSign_24 ?_
    refine x_vi (y := nI 1) (by rw [enu2]) ?_
    refine lv_if_le (tgt := 34) hx hb d_M_formSign_27 (by decide) (fun c_27 => ?_) (fun c_27 => ?_)
    · exact absurd c_27 (by decide +kernel)
    · refine lv_iconst (v := nI 0) hx hb d_M_formSign_30 (by decide) ?_
      refine lv_goto (tgt := 47) hx hb d_M_formSign_31 (by decide) ?_
      have hk : formSignK nu fo a0 a1 a2 a3 = 1 := by rw [formSignK, kt_t c_12]
      exact x_iret hC hr hw (⟨congrArg (fun z => some (Value.int (nI z))) (kt_f (by rw [hk]; decide)).symm, nu2, sg, hR, (eqx.trans (L := [0, 1]) (eqx.rf (L := [0, 1])) hnu2 (by decide) (by decide)), (eqx.rf (L := [2, 3, 4, 5])), hF, (by rw [hk, enu2]), fun h => absurd h (by rw [hk]; decide), fun _ => ⟨(eqx.trans (L := [0]) (eqx.rf (L := [0])) hnu2 (by decide) (by decide)), rfl⟩⟩) (Nat.le_of_ble_eq_true rfl) (Nat.le_of_ble_eq_true rfl) d_M_formSign_47
  · have c_12 := zI_1.mp c_12
    have c_12 := (num_in (by omega)).mp c_12
    obtain ⟨j, hj, rfl⟩ := c_12.ex
    have hcj : cN (nI j) = j := cN_nI (by omega)
    refine lv_iconst (v := nI 0) hx hb d_M_formSign_15 (by decide) ?_
    refine lv_goto (tgt := 20) hx hb d_M_formSign_16 (by decide) ?_
    refine m_put hC hw hR hF 0 0 rfl (by decide) (hts _ k_734) (fun _ h9 => h9) rfl (by decide +kernel) rfl rfl d_M_formSign_20 (fun M5 H locs nu4 hnu4 enu4 hR hF hw => ?_)
    refine lv_aload_n hx hb d_M_formSign_23 rfl (lv_at hl 0 rfl) ?_
    refine x_get hC hw hR.1 rfl 0 (by decide) (hts _ k_734) (fun _ h9 => h9) rfl d_M_formSign_24 ?_
    refine x_vi (y := nI 0) (by rw [enu4]) ?_
    refine lv_if_le (tgt := 34) hx hb d_M_formSign_27 (by decide) (fun c_27 => ?_) (fun c_27 => ?_)
    · refine lv_aload_n hx hb d_M_formSign_34 rfl (lv_at hl 0 rfl) ?_
      refine lv_iconst (v := nI 4) hx hb d_M_formSign_35 (by decide) ?_
      refine lv_iload_n hx hb d_M_formSign_36 rfl (lv_at hl 1 rfl) ?_
      refine lv_iadd hx hb d_M_formSign_37 ?_
      refine x_vi (y := nI (4 + j)) (nI_add _ _) ?_
      refine lv_iload_n hx hb d_M_formSign_38 rfl (lv_at hl 2 rfl) ?_
      refine lv_iload_n hx hb d_M_formSign_39 rfl (lv_at hl 3 rfl) ?_
      refine lv_iload hx hb d_M_formSign_40 (lv_at hl 4 rfl) ?_
      refine lv_iload hx hb d_M_formSign_42 (lv_at hl 5 rfl) ?_
      refine x_callG hC (c_M_addSign l G M5 (Array.size H) md am nu4 sg hR (4 + j) a0 a1 a2 a3 (by omega) (by rw [hnu4 1 (by decide)]; exact hs _) (by rw [enu4])) k_846 k_13 ⟨Nat.le_of_ble_eq_true rfl, Nat.le_of_ble_eq_true rfl⟩ ⟨Nat.le_of_ble_eq_true rfl, Nat.le_of_ble_eq_true rfl⟩ hw hl.1 (Nat.le_of_ble_eq_true rfl) d_M_formSign_44 (x_ivV hC k_846 k_843 k_845 kp_22 (show _ ∧ _ ∧ _ = some 5 from by decide +kernel) (x_recv hC hw hR.1 rfl) rfl d_M_formSign_44) (fun rv M6 H locs hq hw => ?_) (fun _ _ _ _ _ h _ _ => h.elim)
      obtain ⟨rfl, nu7, sg8, hR, hnu7, hsg8, fr, g1, g2, g3⟩ := hq
      have hF := hF.trans fr (fun _ h => Or.inl h)
      refine W.eq (g2 := F0 m 47 ls [.int (nI (kt (addK nu4 (4 + j) a0 a1 a2 a3 = 0) (nu4 1 (4 + j) + 1) 0))]) rfl ?_
      have hk : formSignK nu (nI j) a0 a1 a2 a3 = addK nu4 (4 + j) a0 a1 a2 a3 := by rw [formSignK, kt_f (not_not_intro c_12), hcj]; unfold addK; rw [hnu4 1 (by decide)]
      exact x_iret hC hr hw (⟨(by rw [hk, hcj, hnu4 1 (by decide)]), nu7, sg8, hR, (eqx.trans (L := [0, 1]) (eqx.trans (L := [0, 1]) (eqx.rf (L := [0, 1])) hnu4 (by decide) (by decide)) hnu7 (by decide) (by decide)), (eqx.trans (L := [2, 3, 4, 5]) (eqx.rf (L := [2, 3, 4, 5])) hsg8 (by decide) (by decide)), hF, (by rw [hk]; exact g1), fun h => (by rw [hcj]; have z := g2 (by rw [← hk]; exact h); unfold laidP at z ⊢; rw [hnu4 1 (by decide)] at z; exact z), fun h => ⟨eqx.trans (L := [0]) hnu4 (g3 (by rw [← hk]; exact h)).1 (by decide) (by decide), (g3 (by rw [← hk]; exact h)).2⟩⟩) (Nat.le_of_ble_eq_true rfl) (Nat.le_of_ble_eq_true rfl) d_M_formSign_47
    · exact absurd c_27 (by decide +kernel)

set_option maxHeartbeats 1000000 in
set_option maxRecDepth 100000 in
/-- form -/
theorem c_M_form (l : Launch) (G : xT) (M : xMem) (sz : Nat) (md : Nat) (am : Nat → Nat) (nu : Nat → Nat → Nat) (sg : Nat → Nat → Int32) (hR : mRep G M md am nu sg) (hb20 : nu 6 0 ≤ 20) : xMet l G y_M_form (Cond.code y_M_form b_M_form 1 (Option.some Jvm.ClassFile.FieldType.int) :: x_tbl) { frames := 0, cells := 0, slots := 0, locals := 0 } [.ref md] M sz (fun v M' => v = some (.int (nI (kt (formK nu = 0) (nu 6 0) 0))) ∧ ∃ (nu' : Nat → Nat → Nat) (sg' : Nat → Nat → Int32), mRep G M' md am nu' sg' ∧ eqx [0, 6] nu nu' ∧ eqx [] sg sg' ∧ xfr M M' (mS md am) ∧ nu' 0 0 = formK nu ∧ (formK nu = 0 → nu' 6 0 = nu 6 0 + 1) ∧ (formK nu ≠ 0 → sameP nu nu' sg sg')) (fun _ _ => False) := by
  refine xMet.of (by decide) (Nat.le_of_ble_eq_true rfl) ?_
  intro p e s m below meth c ls hC hr hnm hno hsz hw hl
  obtain ⟨hx, hb, hown, hts, hK, hml, hlk, hz⟩ := id hC
  have hl : lv_has ls 1 [(0, .ref md)] := hl
  have hF : xfr M M (mS md am) := xfr.rf
  refine lv_aload_n hx hb d_M_form_0 rfl (lv_at hl 0 rfl) ?_
  refine lv_aload_n hx hb d_M_form_1 rfl (lv_at hl 0 rfl) ?_
  refine x_get hC hw hR.1 rfl 6 (by decide) (hts _ k_740) (fun _ h9 => h9) rfl d_M_form_2 ?_
  refine lv_bipush (v := nI 20) hx hb d_M_form_5 (by decide) ?_
  refine lv_icmp_ne (tgt := 14) hx hb d_M_form_7 (by decide) (fun c_7 => ?_) (fun c_7 => ?_)
  · have c_7 := (not_congr (nI_eq (by omega) (by omega))).mp c_7
    refine lv_iconst (v := nI 0) hx hb d_M_form_14 (by decide) ?_
    refine m_put hC hw hR hF 0 0 rfl (by decide) (hts _ k_734) (fun _ h9 => h9) rfl (by decide +kernel) rfl rfl d_M_form_15 (fun M2 H locs nu1 hnu1 enu1 hR hF hw => ?_)
    refine lv_aload_n hx hb d_M_form_18 rfl (lv_at hl 0 rfl) ?_
    refine x_get hC hw hR.1 rfl 0 (by decide) (hts _ k_734) (fun _ h9 => h9) rfl d_M_form_19 ?_
    refine x_vi (y := nI 0) (by rw [enu1]) ?_
    refine lv_if_le (tgt := 27) hx hb d_M_form_22 (by decide) (fun c_22 => ?_) (fun c_22 => ?_)
    · refine lv_aload_n hx hb d_M_form_27 rfl (lv_at hl 0 rfl) ?_
      refine lv_dup hx hb d_M_form_28 rfl ?_
      refine x_get hC hw hR.1 rfl 6 (by decide) (hts _ k_740) (fun _ h9 => h9) rfl d_M_form_29 ?_
      refine x_vi (y := nI (nu 6 0)) (by rw [hnu1 6 (by decide)]) ?_
      refine lv_iconst (v := nI 1) hx hb d_M_form_32 (by decide) ?_
      refine lv_iadd hx hb d_M_form_33 ?_
      refine x_vi (y := nI ((nu 6 0) + 1)) (nI_add _ _) ?_
      refine m_put hC hw hR hF 6 ((nu 6 0) + 1) rfl (by decide) (hts _ k_740) (fun _ h9 => h9) rfl (by decide +kernel) rfl rfl d_M_form_34 (fun M4 H locs nu3 hnu3 enu3 hR hF hw => ?_)
      refine lv_aload_n hx hb d_M_form_37 rfl (lv_at hl 0 rfl) ?_
      refine x_get hC hw hR.1 rfl 6 (by decide) (hts _ k_740) (fun _ h9 => h9) rfl d_M_form_38 ?_
      refine x_vi (y := nI ((nu 6 0) + 1)) (by rw [enu3]) ?_
      refine lv_iconst (v := nI 1) hx hb d_M_form_41 (by decide) ?_
      refine lv_isub hx hb d_M_form_42 ?_
      refine x_vi (y := nI (((nu 6 0) + 1) - 1)) (x_sub (by omega)) ?_
      have hk : formK nu = 0 := by rw [formK, kt_f c_7]
      exact x_iret hC hr hw (⟨(by rw [kt_t hk]; rw [Nat.add_sub_cancel]), nu3, sg, hR, (eqx.trans (L := [0, 6]) (eqx.trans (L := [0, 6]) (eqx.rf (L := [0, 6])) hnu1 (by decide) (by decide)) hnu3 (by decide) (by decide)), (eqx.rf (L := [])), hF, (by rw [hk, hnu3 0 (by decide), enu1]), fun _ => (by rw [enu3]), fun h => absurd hk h⟩) (Nat.le_of_ble_eq_true rfl) (Nat.le_of_ble_eq_true rfl) d_M_form_43
    · exact absurd c_22 (by decide +kernel)
  · have c_7 := (nI_eq (by omega) (by omega)).mp c_7
    refine lv_iconst (v := nI 1) hx hb d_M_form_10 (by decide) ?_
    refine lv_goto (tgt := 15) hx hb d_M_form_11 (by decide) ?_
    refine m_put hC hw hR hF 0 1 rfl (by decide) (hts _ k_734) (fun _ h9 => h9) rfl (by decide +kernel) rfl rfl d_M_form_15 (fun M6 H locs nu5 hnu5 enu5 hR hF hw => ?_)
    refine lv_aload_n hx hb d_M_form_18 rfl (lv_at hl 0 rfl) ?_
    refine x_get hC hw hR.1 rfl 0 (by decide) (hts _ k_734) (fun _ h9 => h9) rfl d_M_form_19 ?_
    refine x_vi (y := nI 1) (by rw [enu5]) ?_
    refine lv_if_le (tgt := 27) hx hb d_M_form_22 (by decide) (fun c_22 => ?_) (fun c_22 => ?_)
    · exact absurd c_22 (by decide +kernel)
    · refine lv_iconst (v := nI 0) hx hb d_M_form_25 (by decide) ?_
      have hk : formK nu = 1 := by rw [formK, kt_t c_7]
      exact x_iret hC hr hw (⟨congrArg (fun z => some (Value.int (nI z))) (kt_f (by rw [hk]; decide)).symm, nu5, sg, hR, (eqx.trans (L := [0, 6]) (eqx.rf (L := [0, 6])) hnu5 (by decide) (by decide)), (eqx.rf (L := [])), hF, (by rw [hk, enu5]), fun h => absurd h (by rw [hk]; decide), fun _ => ⟨(eqx.trans (L := [0]) (eqx.rf (L := [0])) hnu5 (by decide) (by decide)), rfl⟩⟩) (Nat.le_of_ble_eq_true rfl) (Nat.le_of_ble_eq_true rfl) d_M_form_26

set_option maxHeartbeats 1000000 in
set_option maxRecDepth 100000 in
/-- word -/
theorem c_M_word (l : Launch) (G : xT) (M : xMem) (sz : Nat) (md : Nat) (am : Nat → Nat) (nu : Nat → Nat → Nat) (sg : Nat → Nat → Int32) (hR : mRep G M md am nu sg) (hb20 : nu 12 0 ≤ 4) : xMet l G y_M_word (Cond.code y_M_word b_M_word 1 (Option.some Jvm.ClassFile.FieldType.int) :: x_tbl) { frames := 0, cells := 0, slots := 0, locals := 0 } [.ref md] M sz (fun v M' => v = some (.int (nI (kt (wordK nu = 0) (nu 12 0) 0))) ∧ ∃ (nu' : Nat → Nat → Nat) (sg' : Nat → Nat → Int32), mRep G M' md am nu' sg' ∧ eqx [0, 12] nu nu' ∧ eqx [] sg sg' ∧ xfr M M' (mS md am) ∧ nu' 0 0 = wordK nu ∧ (wordK nu = 0 → nu' 12 0 = nu 12 0 + 1) ∧ (wordK nu ≠ 0 → sameP nu nu' sg sg')) (fun _ _ => False) := by
  refine xMet.of (by decide) (Nat.le_of_ble_eq_true rfl) ?_
  intro p e s m below meth c ls hC hr hnm hno hsz hw hl
  obtain ⟨hx, hb, hown, hts, hK, hml, hlk, hz⟩ := id hC
  have hl : lv_has ls 1 [(0, .ref md)] := hl
  have hF : xfr M M (mS md am) := xfr.rf
  refine lv_aload_n hx hb d_M_word_0 rfl (lv_at hl 0 rfl) ?_
  refine lv_aload_n hx hb d_M_word_1 rfl (lv_at hl 0 rfl) ?_
  refine x_get hC hw hR.1 rfl 12 (by decide) (hts _ k_746) (fun _ h9 => h9) rfl d_M_word_2 ?_
  refine lv_iconst (v := nI 4) hx hb d_M_word_5 (by decide) ?_
  refine lv_icmp_ne (tgt := 13) hx hb d_M_word_6 (by decide) (fun c_6 => ?_) (fun c_6 => ?_)
  · have c_6 := (not_congr (nI_eq (by omega) (by omega))).mp c_6
    refine lv_iconst (v := nI 0) hx hb d_M_word_13 (by decide) ?_
    refine m_put hC hw hR hF 0 0 rfl (by decide) (hts _ k_734) (fun _ h9 => h9) rfl (by decide +kernel) rfl rfl d_M_word_14 (fun M2 H locs nu1 hnu1 enu1 hR hF hw => ?_)
    refine lv_aload_n hx hb d_M_word_17 rfl (lv_at hl 0 rfl) ?_
    refine x_get hC hw hR.1 rfl 0 (by decide) (hts _ k_734) (fun _ h9 => h9) rfl d_M_word_18 ?_
    refine x_vi (y := nI 0) (by rw [enu1]) ?_
    refine lv_if_le (tgt := 26) hx hb d_M_word_21 (by decide) (fun c_21 => ?_) (fun c_21 => ?_)
    · refine lv_aload_n hx hb d_M_word_26 rfl (lv_at hl 0 rfl) ?_
      refine lv_dup hx hb d_M_word_27 rfl ?_
      refine x_get hC hw hR.1 rfl 12 (by decide) (hts _ k_746) (fun _ h9 => h9) rfl d_M_word_28 ?_
      refine x_vi (y := nI (nu 12 0)) (by rw [hnu1 12 (by decide)]) ?_
      refine lv_iconst (v := nI 1) hx hb d_M_word_31 (by decide) ?_
      refine lv_iadd hx hb d_M_word_32 ?_
      refine x_vi (y := nI ((nu 12 0) + 1)) (nI_add _ _) ?_
      refine m_put hC hw hR hF 12 ((nu 12 0) + 1) rfl (by decide) (hts _ k_746) (fun _ h9 => h9) rfl (by decide +kernel) rfl rfl d_M_word_33 (fun M4 H locs nu3 hnu3 enu3 hR hF hw => ?_)
      refine lv_aload_n hx hb d_M_word_36 rfl (lv_at hl 0 rfl) ?_
      refine x_get hC hw hR.1 rfl 12 (by decide) (hts _ k_746) (fun _ h9 => h9) rfl d_M_word_37 ?_
      refine x_vi (y := nI ((nu 12 0) + 1)) (by rw [enu3]) ?_
      refine lv_iconst (v := nI 1) hx hb d_M_word_40 (by decide) ?_
      refine lv_isub hx hb d_M_word_41 ?_
      refine x_vi (y := nI (((nu 12 0) + 1) - 1)) (x_sub (by omega)) ?_
      have hk : wordK nu = 0 := by rw [wordK, kt_f c_6]
      exact x_iret hC hr hw (⟨(by rw [kt_t hk]; rw [Nat.add_sub_cancel]), nu3, sg, hR, (eqx.trans (L := [0, 12]) (eqx.trans (L := [0, 12]) (eqx.rf (L := [0, 12])) hnu1 (by decide) (by decide)) hnu3 (by decide) (by decide)), (eqx.rf (L := [])), hF, (by rw [hk, hnu3 0 (by decide), enu1]), fun _ => (by rw [enu3]), fun h => absurd hk h⟩) (Nat.le_of_ble_eq_true rfl) (Nat.le_of_ble_eq_true rfl) d_M_word_42
    · exact absurd c_21 (by decide +kernel)
  · have c_6 := (nI_eq (by omega) (by omega)).mp c_6
    refine lv_iconst (v := nI 1) hx hb d_M_word_9 (by decide) ?_
    refine lv_goto (tgt := 14) hx hb d_M_word_10 (by decide) ?_
    refine m_put hC hw hR hF 0 1 rfl (by decide) (hts _ k_734) (fun _ h9 => h9) rfl (by decide +kernel) rfl rfl d_M_word_14 (fun M6 H locs nu5 hnu5 enu5 hR hF hw => ?_)
    refine lv_aload_n hx hb d_M_word_17 rfl (lv_at hl 0 rfl) ?_
    refine x_get hC hw hR.1 rfl 0 (by decide) (hts _ k_734) (fun _ h9 => h9) rfl d_M_word_18 ?_
    refine x_vi (y := nI 1) (by rw [enu5]) ?_
    refine lv_if_le (tgt := 26) hx hb d_M_word_21 (by decide) (fun c_21 => ?_) (fun c_21 => ?_)
    · exact absurd c_21 (by decide +kernel)
    · refine lv_iconst (v := nI 0) hx hb d_M_word_24 (by decide) ?_
      have hk : wordK nu = 1 := by rw [wordK, kt_t c_6]
      exact x_iret hC hr hw (⟨congrArg (fun z => some (Value.int (nI z))) (kt_f (by rw [hk]; decide)).symm, nu5, sg, hR, (eqx.trans (L := [0, 12]) (eqx.rf (L := [0, 12])) hnu5 (by decide) (by decide)), (eqx.rf (L := [])), hF, (by rw [hk, enu5]), fun h => absurd h (by rw [hk]; decide), fun _ => ⟨(eqx.trans (L := [0]) (eqx.rf (L := [0])) hnu5 (by decide) (by decide)), rfl⟩⟩) (Nat.le_of_ble_eq_true rfl) (Nat.le_of_ble_eq_true rfl) d_M_word_25
