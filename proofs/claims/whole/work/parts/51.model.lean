set_option maxHeartbeats 1000000 in
set_option maxRecDepth 100000 in
/-- at -/
theorem c_M_at (l : Launch) (G : xT) (M : xMem) (sz : Nat) (md : Nat) (am : Nat → Nat) (nu : Nat → Nat → Nat) (sg : Nat → Nat → Int32) (hR : mRep G M md am nu sg) (of no i wh : Int32) (h20 : nu 6 0 ≤ 20) (h40 : ∀ r, nu 1 r ≤ 40) : xMet l G y_M_at (Cond.code y_M_at b_M_at 8 (Option.some Jvm.ClassFile.FieldType.int) :: x_tbl) { frames := 1, cells := 0, slots := 0, locals := 25 } [.ref md, .int of, .int no, .int i, .int wh] M sz (fun v M' => ∃ (x : Int32) (nu' : Nat → Nat → Nat), v = some (.int x) ∧ (atK nu of no i wh = 0 → x = sg (2 + cN wh) (40 * rowN of no + cN i)) ∧ mRep G M' md am nu' sg ∧ eqx [0] nu nu' ∧ xfr M M' (mS md am) ∧ nu' 0 0 = atK nu of no i wh) (fun _ _ => False) := by
  refine xMet.of (by decide) (Nat.le_of_ble_eq_true rfl) ?_
  intro p e s m below meth c ls hC hr hnm hno hsz hw hl
  obtain ⟨hx, hb, hown, hts, hK, hml, hlk, hz⟩ := id hC
  have hl : lv_has ls 8 [(0, .ref md), (1, .int of), (2, .int no), (3, .int i), (4, .int wh)] := hl
  have hF : xfr M M (mS md am) := xfr.rf
  refine lv_iload_n hx hb d_M_at_0 rfl (lv_at hl 1 rfl) ?_
  refine lv_if_ne (tgt := 13) hx hb d_M_at_1 (by decide) (fun c_1 => ?_) (fun c_1 => ?_)
  · refine lv_iload_n hx hb d_M_at_13 rfl (lv_at hl 1 rfl) ?_
    refine lv_iconst (v := nI 1) hx hb d_M_at_14 (by decide) ?_
    refine lv_icmp_ne (tgt := 36) hx hb d_M_at_15 (by decide) (fun c_15 => ?_) (fun c_15 => ?_)
    · refine lv_iconst (v := nI 0) hx hb d_M_at_36 (by decide) ?_
      refine lv_istore (lv' := [(5, .int (nI 0)), (0, .ref md), (1, .int of), (2, .int no), (3, .int i), (4, .int wh)]) hx hb d_M_at_37 hl (by decide) rfl (fun ls hl => ?_)
      refine lv_iload_n hx hb d_M_at_39 rfl (lv_at hl 2 rfl) ?_
      refine lv_if_ne (tgt := 47) hx hb d_M_at_40 (by decide) (fun c_40 => ?_) (fun c_40 => ?_)
      · refine lv_iconst (v := nI 4) hx hb d_M_at_47 (by decide) ?_
        refine lv_iload_n hx hb d_M_at_48 rfl (lv_at hl 3 rfl) ?_
        refine lv_iadd hx hb d_M_at_49 ?_
        refine lv_istore (lv' := [(6, .int (nI 4 + no)), (5, .int (nI 0)), (0, .ref md), (1, .int of), (2, .int no), (3, .int i), (4, .int wh)]) hx hb d_M_at_50 hl (by decide) rfl (fun ls hl => ?_)
        refine lv_aload_n hx hb d_M_at_52 rfl (lv_at hl 2 rfl) ?_
        refine lv_iload hx hb d_M_at_53 (lv_at hl 1 rfl) ?_
        refine lv_if_eq (tgt := 98) hx hb d_M_at_55 (by decide) (fun c_55 => ?_) (fun c_55 => ?_)
        · refine lv_iconst (v := nI 1) hx hb d_M_at_98 (by decide) ?_
          refine m_put hC hw hR hF 0 1 rfl (by decide) (hts _ k_734) (fun _ h9 => h9) rfl (by decide +kernel) rfl rfl d_M_at_99 (fun M2 H locs nu1 hnu1 enu1 hR hF hw => ?_)
          refine lv_aload_n hx hb d_M_at_102 rfl (lv_at hl 2 rfl) ?_
          refine x_get hC hw hR.1 rfl 0 (by decide) (hts _ k_734) (fun _ h9 => h9) rfl d_M_at_103 ?_
          refine x_vi (y := nI 1) (by rw [enu1]) ?_
          refine lv_if_le (tgt := 111) hx hb d_M_at_106 (by decide) (fun c_106 => ?_) (fun c_106 => ?_)
          · exact absurd c_106 (by decide +kernel)
          · refine lv_iconst (v := nI 0) hx hb d_M_at_109 (by decide) ?_
            have hk : atK nu of no i wh = 1 := by rw [atK, kt_t (fun h => h.1.elim (fun z => c_1 z.1) (fun z => c_15 z.1))]
            exact x_iret hC hr hw (⟨_, nu1, rfl, (fun h => absurd h (by rw [hk]; decide)), hR, (eqx.trans (L := [0]) (eqx.rf (L := [0])) hnu1 (by decide) (by decide)), hF, (by rw [hk, enu1])⟩) (Nat.le_of_ble_eq_true rfl) (Nat.le_of_ble_eq_true rfl) d_M_at_110
        · exact absurd c_55 (by decide +kernel)
      · exact absurd c_40 c_1
    · refine lv_iload_n hx hb d_M_at_18 rfl (lv_at hl 2 rfl) ?_
      refine lv_iconst (v := nI 0) hx hb d_M_at_19 (by decide) ?_
      refine lv_aload_n hx hb d_M_at_20 rfl (lv_at hl 0 rfl) ?_
      refine x_get hC hw hR.1 rfl 6 (by decide) (hts _ k_740) (fun _ h9 => h9) rfl d_M_at_21 ?_
      refine lv_iconst (v := nI 1) hx hb d_M_at_24 (by decide) ?_
      refine lv_isub hx hb d_M_at_25 ?_
      refine x_callG hC (c_M_in l G M (Array.size s.heap) (no) (nI 0) ((nI (nu 6 0) - nI 1))) k_842 k_13 ⟨Nat.le_of_ble_eq_true rfl, Nat.le_of_ble_eq_true rfl⟩ ⟨Nat.le_of_ble_eq_true rfl, Nat.le_of_ble_eq_true rfl⟩ hw hl.1 (Nat.le_of_ble_eq_true rfl) d_M_at_26 (x_ivS hC k_842 k_840 k_841 k_13 (show _ ∧ _ ∧ _ = some 3 from by decide +kernel) rfl d_M_at_26) (fun rv M3 H locs hq hw => ?_) (fun _ _ _ _ _ h _ _ => h.elim)
      obtain ⟨rfl, hM⟩ := hq
      subst M3
      refine W.eq (g2 := F0 m 29 ls [.int (zI (inP no (nI 0) (nI (nu 6 0) - nI 1)))]) rfl ?_
      refine lv_if_eq (tgt := 36) hx hb d_M_at_29 (by decide) (fun c_29 => ?_) (fun c_29 => ?_)
      · have c_29 := zI_0.mp c_29
        have c_29 := (not_congr (num_in (by omega))).mp c_29
        refine lv_iconst (v := nI 0) hx hb d_M_at_36 (by decide) ?_
        refine lv_istore (lv' := [(5, .int (nI 0)), (0, .ref md), (1, .int of), (2, .int no), (3, .int i), (4, .int wh)]) hx hb d_M_at_37 hl (by decide) rfl (fun ls hl => ?_)
        refine lv_iload_n hx hb d_M_at_39 rfl (lv_at hl 2 rfl) ?_
        refine lv_if_ne (tgt := 47) hx hb d_M_at_40 (by decide) (fun c_40 => ?_) (fun c_40 => ?_)
        · refine lv_iconst (v := nI 4) hx hb d_M_at_47 (by decide) ?_
          refine lv_iload_n hx hb d_M_at_48 rfl (lv_at hl 3 rfl) ?_
          refine lv_iadd hx hb d_M_at_49 ?_
          refine lv_istore (lv' := [(6, .int (nI 4 + no)), (5, .int (nI 0)), (0, .ref md), (1, .int of), (2, .int no), (3, .int i), (4, .int wh)]) hx hb d_M_at_50 hl (by decide) rfl (fun ls hl => ?_)
          refine lv_aload_n hx hb d_M_at_52 rfl (lv_at hl 2 rfl) ?_
          refine lv_iload hx hb d_M_at_53 (lv_at hl 1 rfl) ?_
          refine lv_if_eq (tgt := 98) hx hb d_M_at_55 (by decide) (fun c_55 => ?_) (fun c_55 => ?_)
          · refine lv_iconst (v := nI 1) hx hb d_M_at_98 (by decide) ?_
            refine m_put hC hw hR hF 0 1 rfl (by decide) (hts _ k_734) (fun _ h9 => h9) rfl (by decide +kernel) rfl rfl d_M_at_99 (fun M5 H locs nu4 hnu4 enu4 hR hF hw => ?_)
            refine lv_aload_n hx hb d_M_at_102 rfl (lv_at hl 2 rfl) ?_
            refine x_get hC hw hR.1 rfl 0 (by decide) (hts _ k_734) (fun _ h9 => h9) rfl d_M_at_103 ?_
            refine x_vi (y := nI 1) (by rw [enu4]) ?_
            refine lv_if_le (tgt := 111) hx hb d_M_at_106 (by decide) (fun c_106 => ?_) (fun c_106 => ?_)
            · exact absurd c_106 (by decide +kernel)
            · refine lv_iconst (v := nI 0) hx hb d_M_at_109 (by decide) ?_
              have hk : atK nu of no i wh = 1 := by rw [atK, kt_t (fun h => h.1.elim (fun z => c_1 z.1) (fun z => c_29 z.2))]
              exact x_iret hC hr hw (⟨_, nu4, rfl, (fun h => absurd h (by rw [hk]; decide)), hR, (eqx.trans (L := [0]) (eqx.rf (L := [0])) hnu4 (by decide) (by decide)), hF, (by rw [hk, enu4])⟩) (Nat.le_of_ble_eq_true rfl) (Nat.le_of_ble_eq_true rfl) d_M_at_110
          · exact absurd c_55 (by decide +kernel)
        · exact absurd c_40 c_1
      · have c_29 := zI_1.mp c_29
        have c_29 := (num_in (by omega)).mp c_29
        obtain ⟨j, hj, rfl⟩ := c_29.ex
        have hcj : cN (nI j) = j := cN_nI (by omega)
        have hrow : rowN of (nI j) = 4 + j := by rw [rowN, kt_f c_1, hcj]
        have h40j := h40 (4 + j)
        refine lv_iconst (v := nI 1) hx hb d_M_at_32 (by decide) ?_
        refine lv_goto (tgt := 37) hx hb d_M_at_33 (by decide) ?_
        refine lv_istore (lv' := [(5, .int (nI 1)), (0, .ref md), (1, .int of), (2, .int (nI j)), (3, .int i), (4, .int wh)]) hx hb d_M_at_37 hl (by decide) rfl (fun ls hl => ?_)
        refine lv_iload_n hx hb d_M_at_39 rfl (lv_at hl 2 rfl) ?_
        refine lv_if_ne (tgt := 47) hx hb d_M_at_40 (by decide) (fun c_40 => ?_) (fun c_40 => ?_)
        · refine lv_iconst (v := nI 4) hx hb d_M_at_47 (by decide) ?_
          refine lv_iload_n hx hb d_M_at_48 rfl (lv_at hl 3 rfl) ?_
          refine lv_iadd hx hb d_M_at_49 ?_
          refine x_vi (y := nI (4 + j)) (nI_add _ _) ?_
          refine lv_istore (lv' := [(6, .int (nI (4 + j))), (5, .int (nI 1)), (0, .ref md), (1, .int of), (2, .int (nI j)), (3, .int i), (4, .int wh)]) hx hb d_M_at_50 hl (by decide) rfl (fun ls hl => ?_)
          refine lv_aload_n hx hb d_M_at_52 rfl (lv_at hl 2 rfl) ?_
          refine lv_iload hx hb d_M_at_53 (lv_at hl 1 rfl) ?_
          refine lv_if_eq (tgt := 98) hx hb d_M_at_55 (by decide) (fun c_55 => ?_) (fun c_55 => ?_)
          · exact absurd c_55 (by decide +kernel)
          · refine lv_iload_n hx hb d_M_at_58 rfl (lv_at hl 5 rfl) ?_
            refine lv_iconst (v := nI 0) hx hb d_M_at_59 (by decide) ?_
            refine lv_aload_n hx hb d_M_at_60 rfl (lv_at hl 2 rfl) ?_
            refine x_get hC hw hR.1 rfl 1 (by decide) (hts _ k_735) (fun _ h9 => h9) rfl d_M_at_61 ?_
            refine lv_iload hx hb d_M_at_64 (lv_at hl 1 rfl) ?_
            refine lv_if_eq (tgt := 74) hx hb d_M_at_66 (by decide) (fun c_66 => ?_) (fun c_66 => ?_)
            · exact absurd c_66 (by decide +kernel)
            · refine lv_iload hx hb d_M_at_69 (lv_at hl 0 rfl) ?_
              refine lv_goto (tgt := 75) hx hb d_M_at_71 (by decide) ?_
              refine m_ldN hC hw hR 1 (4 + j) rfl (rfl) (by show _ < 24; omega) (by decide) d_M_at_75 ?_
              refine lv_iconst (v := nI 1) hx hb d_M_at_76 (by decide) ?_
              refine lv_isub hx hb d_M_at_77 ?_
              refine x_callG hC (c_M_in l G M (Array.size H) (i) (nI 0) ((nI (nu 1 (4 + j)) - nI 1))) k_842 k_13 ⟨Nat.le_of_ble_eq_true rfl, Nat.le_of_ble_eq_true rfl⟩ ⟨Nat.le_of_ble_eq_true rfl, Nat.le_of_ble_eq_true rfl⟩ hw hl.1 (Nat.le_of_ble_eq_true rfl) d_M_at_78 (x_ivS hC k_842 k_840 k_841 k_13 (show _ ∧ _ ∧ _ = some 3 from by decide +kernel) rfl d_M_at_78) (fun rv M6 H locs hq hw => ?_) (fun _ _ _ _ _ h _ _ => h.elim)
              obtain ⟨rfl, hM⟩ := hq
              subst M6
              refine W.eq (g2 := F0 m 81 ls [.int (zI (inP i (nI 0) (nI (nu 1 (4 + j)) - nI 1))), .ref md]) rfl ?_
              refine lv_if_eq (tgt := 98) hx hb d_M_at_81 (by decide) (fun c_81 => ?_) (fun c_81 => ?_)
              · have c_81 := zI_0.mp c_81
                have c_81 := (not_congr (num_in (by omega))).mp c_81
                refine lv_iconst (v := nI 1) hx hb d_M_at_98 (by decide) ?_
                refine m_put hC hw hR hF 0 1 rfl (by decide) (hts _ k_734) (fun _ h9 => h9) rfl (by decide +kernel) rfl rfl d_M_at_99 (fun M8 H locs nu7 hnu7 enu7 hR hF hw => ?_)
                refine lv_aload_n hx hb d_M_at_102 rfl (lv_at hl 2 rfl) ?_
                refine x_get hC hw hR.1 rfl 0 (by decide) (hts _ k_734) (fun _ h9 => h9) rfl d_M_at_103 ?_
                refine x_vi (y := nI 1) (by rw [enu7]) ?_
                refine lv_if_le (tgt := 111) hx hb d_M_at_106 (by decide) (fun c_106 => ?_) (fun c_106 => ?_)
                · exact absurd c_106 (by decide +kernel)
                · refine lv_iconst (v := nI 0) hx hb d_M_at_109 (by decide) ?_
                  have hk : atK nu of (nI j) i wh = 1 := by rw [atK, hrow, kt_t (fun h => c_81 h.2.1)]
                  exact x_iret hC hr hw (⟨_, nu7, rfl, (fun h => absurd h (by rw [hk]; decide)), hR, (eqx.trans (L := [0]) (eqx.rf (L := [0])) hnu7 (by decide) (by decide)), hF, (by rw [hk, enu7])⟩) (Nat.le_of_ble_eq_true rfl) (Nat.le_of_ble_eq_true rfl) d_M_at_110
              · have c_81 := zI_1.mp c_81
                have c_81 := (num_in (by omega)).mp c_81
                obtain ⟨k, hk40, rfl⟩ := c_81.ex
                have hck : cN (nI k) = k := cN_nI (by omega)
                refine lv_iload hx hb d_M_at_84 (lv_at hl 6 rfl) ?_
                refine lv_iconst (v := nI 0) hx hb d_M_at_86 (by decide) ?_
                refine lv_iconst (v := nI 3) hx hb d_M_at_87 (by decide) ?_
                refine x_callG hC (c_M_in l G M (Array.size H) (wh) (nI 0) (nI 3)) k_842 k_13 ⟨Nat.le_of_ble_eq_true rfl, Nat.le_of_ble_eq_true rfl⟩ ⟨Nat.le_of_ble_eq_true rfl, Nat.le_of_ble_eq_true rfl⟩ hw hl.1 (Nat.le_of_ble_eq_true rfl) d_M_at_88 (x_ivS hC k_842 k_840 k_841 k_13 (show _ ∧ _ ∧ _ = some 3 from by decide +kernel) rfl d_M_at_88) (fun rv M9 H locs hq hw => ?_) (fun _ _ _ _ _ h _ _ => h.elim)
                obtain ⟨rfl, hM⟩ := hq
                subst M9
                refine W.eq (g2 := F0 m 91 ls [.int (zI (inP wh (nI 0) (nI 3))), .ref md]) rfl ?_
                refine lv_if_eq (tgt := 98) hx hb d_M_at_91 (by decide) (fun c_91 => ?_) (fun c_91 => ?_)
                · have c_91 := zI_0.mp c_91
                  have c_91 := (not_congr num_3).mp c_91
                  refine lv_iconst (v := nI 1) hx hb d_M_at_98 (by decide) ?_
                  refine m_put hC hw hR hF 0 1 rfl (by decide) (hts _ k_734) (fun _ h9 => h9) rfl (by decide +kernel) rfl rfl d_M_at_99 (fun M11 H locs nu10 hnu10 enu10 hR hF hw => ?_)
                  refine lv_aload_n hx hb d_M_at_102 rfl (lv_at hl 2 rfl) ?_
                  refine x_get hC hw hR.1 rfl 0 (by decide) (hts _ k_734) (fun _ h9 => h9) rfl d_M_at_103 ?_
                  refine x_vi (y := nI 1) (by rw [enu10]) ?_
                  refine lv_if_le (tgt := 111) hx hb d_M_at_106 (by decide) (fun c_106 => ?_) (fun c_106 => ?_)
                  · exact absurd c_106 (by decide +kernel)
                  · refine lv_iconst (v := nI 0) hx hb d_M_at_109 (by decide) ?_
                    have hk : atK nu of (nI j) (nI k) wh = 1 := by rw [atK, hrow, kt_t (fun h => c_91 h.2.2)]
                    exact x_iret hC hr hw (⟨_, nu10, rfl, (fun h => absurd h (by rw [hk]; decide)), hR, (eqx.trans (L := [0]) (eqx.rf (L := [0])) hnu10 (by decide) (by decide)), hF, (by rw [hk, enu10])⟩) (Nat.le_of_ble_eq_true rfl) (Nat.le_of_ble_eq_true rfl) d_M_at_110
                · have c_91 := zI_1.mp c_91
                  have c_91 := num_3.mp c_91
                  obtain ⟨w, hw4, rfl⟩ := c_91.ex
                  have hcw : cN (nI w) = w := cN_nI (by omega)
                  refine lv_iconst (v := nI 0) hx hb d_M_at_94 (by decide) ?_
                  refine lv_goto (tgt := 99) hx hb d_M_at_95 (by decide) ?_
                  refine m_put hC hw hR hF 0 0 rfl (by decide) (hts _ k_734) (fun _ h9 => h9) rfl (by decide +kernel) rfl rfl d_M_at_99 (fun M13 H locs nu12 hnu12 enu12 hR hF hw => ?_)
                  refine lv_aload_n hx hb d_M_at_102 rfl (lv_at hl 2 rfl) ?_
                  refine x_get hC hw hR.1 rfl 0 (by decide) (hts _ k_734) (fun _ h9 => h9) rfl d_M_at_103 ?_
                  refine x_vi (y := nI 0) (by rw [enu12]) ?_
                  refine lv_if_le (tgt := 111) hx hb d_M_at_106 (by decide) (fun c_106 => ?_) (fun c_106 => ?_)
                  · refine lv_bipush (v := nI 40) hx hb d_M_at_111 (by decide) ?_
                    refine lv_iload hx hb d_M_at_113 (lv_at hl 0 rfl) ?_
                    refine lv_imul hx hb d_M_at_115 ?_
                    refine x_vi (y := nI (40 * (4 + j))) (pk_mul _ _) ?_
                    refine lv_iload_n hx hb d_M_at_116 rfl (lv_at hl 5 rfl) ?_
                    refine lv_iadd hx hb d_M_at_117 ?_
                    refine x_vi (y := nI ((40 * (4 + j)) + k)) (nI_add _ _) ?_
                    refine lv_istore (lv' := [(7, .int (nI ((40 * (4 + j)) + k))), (6, .int (nI (4 + j))), (5, .int (nI 1)), (0, .ref md), (1, .int of), (2, .int (nI j)), (3, .int (nI k)), (4, .int (nI w))]) hx hb d_M_at_118 hl (by decide) rfl (fun ls hl => ?_)
                    refine lv_iload hx hb d_M_at_120 (lv_at hl 7 rfl) ?_
                    refine lv_if_ne (tgt := 135) hx hb d_M_at_122 (by decide) (fun c_122 => ?_) (fun c_122 => ?_)
                    · have c_122 := (not_congr (x_eq0 (by omega))).mp c_122
                      refine lv_iload hx hb d_M_at_135 (lv_at hl 7 rfl) ?_
                      refine lv_iconst (v := nI 1) hx hb d_M_at_137 (by decide) ?_
                      refine lv_icmp_ne (tgt := 151) hx hb d_M_at_138 (by decide) (fun c_138 => ?_) (fun c_138 => ?_)
                      · have c_138 := (not_congr (nI_eq (by omega) (by omega))).mp c_138
                        refine lv_iload hx hb d_M_at_151 (lv_at hl 7 rfl) ?_
                        refine lv_iconst (v := nI 2) hx hb d_M_at_153 (by decide) ?_
                        refine lv_icmp_ne (tgt := 167) hx hb d_M_at_154 (by decide) (fun c_154 => ?_) (fun c_154 => ?_)
                        · have c_154 := (not_congr (nI_eq (by omega) (by omega))).mp c_154
                          refine lv_aload_n hx hb d_M_at_167 rfl (lv_at hl 3 rfl) ?_
                          refine x_get hC hw hR.1 rfl 5 (by decide) (hts _ k_739) (fun _ h9 => h9) rfl d_M_at_168 ?_
                          refine lv_iload hx hb d_M_at_171 (lv_at hl 0 rfl) ?_
                          refine m_ldI hC hw hR 5 ((40 * (4 + j)) + k) rfl (rfl) (by show _ < 960; omega) (by decide) d_M_at_173 ?_
                          have hk : atK nu of (nI j) (nI k) (nI w) = 0 := by rw [atK, hrow, kt_f (not_not_intro ⟨Or.inr ⟨c_15, c_29⟩, c_81, c_91⟩)]
                          exact x_iret hC hr hw (⟨_, nu12, rfl, (fun _ => (by rw [hrow, hck, hcw, show w = 3 by omega])), hR, (eqx.trans (L := [0]) (eqx.rf (L := [0])) hnu12 (by decide) (by decide)), hF, (by rw [hk, enu12])⟩) (Nat.le_of_ble_eq_true rfl) (Nat.le_of_ble_eq_true rfl) d_M_at_174
                        · have c_154 := (nI_eq (by omega) (by omega)).mp c_154
                          refine lv_aload_n hx hb d_M_at_157 rfl (lv_at hl 3 rfl) ?_
                          refine x_get hC hw hR.1 rfl 4 (by decide) (hts _ k_738) (fun _ h9 => h9) rfl d_M_at_158 ?_
                          refine lv_iload hx hb d_M_at_161 (lv_at hl 0 rfl) ?_
                          refine m_ldI hC hw hR 4 ((40 * (4 + j)) + k) rfl (rfl) (by show _ < 960; omega) (by decide) d_M_at_163 ?_
                          refine lv_goto (tgt := 174) hx hb d_M_at_164 (by decide) ?_
                          have hk : atK nu of (nI j) (nI k) (nI w) = 0 := by rw [atK, hrow, kt_f (not_not_intro ⟨Or.inr ⟨c_15, c_29⟩, c_81, c_91⟩)]
                          exact x_iret hC hr hw (⟨_, nu12, rfl, (fun _ => (by rw [hrow, hck, hcw, show w = 2 by omega])), hR, (eqx.trans (L := [0]) (eqx.rf (L := [0])) hnu12 (by decide) (by decide)), hF, (by rw [hk, enu12])⟩) (Nat.le_of_ble_eq_true rfl) (Nat.le_of_ble_eq_true rfl) d_M_at_174
                      · have c_138 := (nI_eq (by omega) (by omega)).mp c_138
                        refine lv_aload_n hx hb d_M_at_141 rfl (lv_at hl 3 rfl) ?_
                        refine x_get hC hw hR.1 rfl 3 (by decide) (hts _ k_737) (fun _ h9 => h9) rfl d_M_at_142 ?_
                        refine lv_iload hx hb d_M_at_145 (lv_at hl 0 rfl) ?_
                        refine m_ldI hC hw hR 3 ((40 * (4 + j)) + k) rfl (rfl) (by show _ < 960; omega) (by decide) d_M_at_147 ?_
                        refine lv_goto (tgt := 174) hx hb d_M_at_148 (by decide) ?_
                        have hk : atK nu of (nI j) (nI k) (nI w) = 0 := by rw [atK, hrow, kt_f (not_not_intro ⟨Or.inr ⟨c_15, c_29⟩, c_81, c_91⟩)]
                        exact x_iret hC hr hw (⟨_, nu12, rfl, (fun _ => (by rw [hrow, hck, hcw, show w = 1 by omega])), hR, (eqx.trans (L := [0]) (eqx.rf (L := [0])) hnu12 (by decide) (by decide)), hF, (by rw [hk, enu12])⟩) (Nat.le_of_ble_eq_true rfl) (Nat.le_of_ble_eq_true rfl) d_M_at_174
                    · have c_122 := (x_eq0 (by omega)).mp c_122
                      refine lv_aload_n hx hb d_M_at_125 rfl (lv_at hl 3 rfl) ?_
                      refine x_get hC hw hR.1 rfl 2 (by decide) (hts _ k_736) (fun _ h9 => h9) rfl d_M_at_126 ?_
                      refine lv_iload hx hb d_M_at_129 (lv_at hl 0 rfl) ?_
                      refine m_ldI hC hw hR 2 ((40 * (4 + j)) + k) rfl (rfl) (by show _ < 960; omega) (by decide) d_M_at_131 ?_
                      refine lv_goto (tgt := 174) hx hb d_M_at_132 (by decide) ?_
                      have hk : atK nu of (nI j) (nI k) (nI w) = 0 := by rw [atK, hrow, kt_f (not_not_intro ⟨Or.inr ⟨c_15, c_29⟩, c_81, c_91⟩)]
                      exact x_iret hC hr hw (⟨_, nu12, rfl, (fun _ => (by rw [hrow, hck, hcw, show w = 0 by omega])), hR, (eqx.trans (L := [0]) (eqx.rf (L := [0])) hnu12 (by decide) (by decide)), hF, (by rw [hk, enu12])⟩) (Nat.le_of_ble_eq_true rfl) (Nat.le_of_ble_eq_true rfl) d_M_at_174
                  · exact absurd c_106 (by decide +kernel)
        · exact absurd c_40 c_1
  · refine lv_iload_n hx hb d_M_at_4 rfl (lv_at hl 2 rfl) ?_
    refine lv_iconst (v := nI 0) hx hb d_M_at_5 (by decide) ?_
    refine lv_iconst (v := nI 3) hx hb d_M_at_6 (by decide) ?_
    refine x_callG hC (c_M_in l G M (Array.size s.heap) (no) (nI 0) (nI 3)) k_842 k_13 ⟨Nat.le_of_ble_eq_true rfl, Nat.le_of_ble_eq_true rfl⟩ ⟨Nat.le_of_ble_eq_true rfl, Nat.le_of_ble_eq_true rfl⟩ hw hl.1 (Nat.le_of_ble_eq_true rfl) d_M_at_7 (x_ivS hC k_842 k_840 k_841 k_13 (show _ ∧ _ ∧ _ = some 3 from by decide +kernel) rfl d_M_at_7) (fun rv M14 H locs hq hw => ?_) (fun _ _ _ _ _ h _ _ => h.elim)
    obtain ⟨rfl, hM⟩ := hq
    subst M14
    refine W.eq (g2 := F0 m 10 ls [.int (zI (inP no (nI 0) (nI 3)))]) rfl ?_
    refine lv_if_ne (tgt := 32) hx hb d_M_at_10 (by decide) (fun c_10 => ?_) (fun c_10 => ?_)
    · have c_10 := zI_1.mp c_10
      have c_10 := num_3.mp c_10
      obtain ⟨j, hj, rfl⟩ := c_10.ex
      have hcj : cN (nI j) = j := cN_nI (by omega)
      have hrow : rowN of (nI j) = j := by rw [rowN, kt_t c_1, hcj]
      have h40j := h40 (j)
      refine lv_iconst (v := nI 1) hx hb d_M_at_32 (by decide) ?_
      refine lv_goto (tgt := 37) hx hb d_M_at_33 (by decide) ?_
      refine lv_istore (lv' := [(5, .int (nI 1)), (0, .ref md), (1, .int of), (2, .int (nI j)), (3, .int i), (4, .int wh)]) hx hb d_M_at_37 hl (by decide) rfl (fun ls hl => ?_)
      refine lv_iload_n hx hb d_M_at_39 rfl (lv_at hl 2 rfl) ?_
      refine lv_if_ne (tgt := 47) hx hb d_M_at_40 (by decide) (fun c_40 => ?_) (fun c_40 => ?_)
      · exact absurd c_1 c_40
      · refine lv_iload_n hx hb d_M_at_43 rfl (lv_at hl 3 rfl) ?_
        refine lv_goto (tgt := 50) hx hb d_M_at_44 (by decide) ?_
        refine lv_istore (lv' := [(6, .int (nI j)), (5, .int (nI 1)), (0, .ref md), (1, .int of), (2, .int (nI j)), (3, .int i), (4, .int wh)]) hx hb d_M_at_50 hl (by decide) rfl (fun ls hl => ?_)
        refine lv_aload_n hx hb d_M_at_52 rfl (lv_at hl 2 rfl) ?_
        refine lv_iload hx hb d_M_at_53 (lv_at hl 1 rfl) ?_
        refine lv_if_eq (tgt := 98) hx hb d_M_at_55 (by decide) (fun c_55 => ?_) (fun c_55 => ?_)
        · exact absurd c_55 (by decide +kernel)
        · refine lv_iload_n hx hb d_M_at_58 rfl (lv_at hl 5 rfl) ?_
          refine lv_iconst (v := nI 0) hx hb d_M_at_59 (by decide) ?_
          refine lv_aload_n hx hb d_M_at_60 rfl (lv_at hl 2 rfl) ?_
          refine x_get hC hw hR.1 rfl 1 (by decide) (hts _ k_735) (fun _ h9 => h9) rfl d_M_at_61 ?_
          refine lv_iload hx hb d_M_at_64 (lv_at hl 1 rfl) ?_
          refine lv_if_eq (tgt := 74) hx hb d_M_at_66 (by decide) (fun c_66 => ?_) (fun c_66 => ?_)
          · exact absurd c_66 (by decide +kernel)
          · refine lv_iload hx hb d_M_at_69 (lv_at hl 0 rfl) ?_
            refine lv_goto (tgt := 75) hx hb d_M_at_71 (by decide) ?_
            refine m_ldN hC hw hR 1 j rfl (rfl) (by show _ < 24; omega) (by decide) d_M_at_75 ?_
            refine lv_iconst (v := nI 1) hx hb d_M_at_76 (by decide) ?_
            refine lv_isub hx hb d_M_at_77 ?_
            refine x_callG hC (c_M_in l G M (Array.size H) (i) (nI 0) ((nI (nu 1 j) - nI 1))) k_842 k_13 ⟨Nat.le_of_ble_eq_true rfl, Nat.le_of_ble_eq_true rfl⟩ ⟨Nat.le_of_ble_eq_true rfl, Nat.le_of_ble_eq_true rfl⟩ hw hl.1 (Nat.le_of_ble_eq_true rfl) d_M_at_78 (x_ivS hC k_842 k_840 k_841 k_13 (show _ ∧ _ ∧ _ = some 3 from by decide +kernel) rfl d_M_at_78) (fun rv M15 H locs hq hw => ?_) (fun _ _ _ _ _ h _ _ => h.elim)
            obtain ⟨rfl, hM⟩ := hq
            subst M15
            refine W.eq (g2 := F0 m 81 ls [.int (zI (inP i (nI 0) (nI (nu 1 j) - nI 1))), .ref md]) rfl ?_
            refine lv_if_eq (tgt := 98) hx hb d_M_at_81 (by decide) (fun c_81 => ?_) (fun c_81 => ?_)
            · have c_81 := zI_0.mp c_81
              have c_81 := (not_congr (num_in (by omega))).mp c_81
              refine lv_iconst (v := nI 1) hx hb d_M_at_98 (by decide) ?_
              refine m_put hC hw hR hF 0 1 rfl (by decide) (hts _ k_734) (fun _ h9 => h9) rfl (by decide +kernel) rfl rfl d_M_at_99 (fun M17 H locs nu16 hnu16 enu16 hR hF hw => ?_)
              refine lv_aload_n hx hb d_M_at_102 rfl (lv_at hl 2 rfl) ?_
              refine x_get hC hw hR.1 rfl 0 (by decide) (hts _ k_734) (fun _ h9 => h9) rfl d_M_at_103 ?_
              refine x_vi (y := nI 1) (by rw [enu16]) ?_
              refine lv_if_le (tgt := 111) hx hb d_M_at_106 (by decide) (fun c_106 => ?_) (fun c_106 => ?_)
              · exact absurd c_106 (by decide +kernel)
              · refine lv_iconst (v := nI 0) hx hb d_M_at_109 (by decide) ?_
                have hk : atK nu of (nI j) i wh = 1 := by rw [atK, hrow, kt_t (fun h => c_81 h.2.1)]
                exact x_iret hC hr hw (⟨_, nu16, rfl, (fun h => absurd h (by rw [hk]; decide)), hR, (eqx.trans (L := [0]) (eqx.rf (L := [0])) hnu16 (by decide) (by decide)), hF, (by rw [hk, enu16])⟩) (Nat.le_of_ble_eq_true rfl) (Nat.le_of_ble_eq_true rfl) d_M_at_110
            · have c_81 := zI_1.mp c_81
              have c_81 := (num_in (by omega)).mp c_81
              obtain ⟨k, hk40, rfl⟩ := c_81.ex
              have hck : cN (nI k) = k := cN_nI (by omega)
              refine lv_iload hx hb d_M_at_84 (lv_at hl 6 rfl) ?_
              refine lv_iconst (v := nI 0) hx hb d_M_at_86 (by decide) ?_
              refine lv_iconst (v := nI 3) hx hb d_M_at_87 (by decide) ?_
              refine x_callG hC (c_M_in l G M (Array.size H) (wh) (nI 0) (nI 3)) k_842 k_13 ⟨Nat.le_of_ble_eq_true rfl, Nat.le_of_ble_eq_true rfl⟩ ⟨Nat.le_of_ble_eq_true rfl, Nat.le_of_ble_eq_true rfl⟩ hw hl.1 (Nat.le_of_ble_eq_true rfl) d_M_at_88 (x_ivS hC k_842 k_840 k_841 k_13 (show _ ∧ _ ∧ _ = some 3 from by decide +kernel) rfl d_M_at_88) (fun rv M18 H locs hq hw => ?_) (fun _ _ _ _ _ h _ _ => h.elim)
              obtain ⟨rfl, hM⟩ := hq
              subst M18
              refine W.eq (g2 := F0 m 91 ls [.int (zI (inP wh (nI 0) (nI 3))), .ref md]) rfl ?_
              refine lv_if_eq (tgt := 98) hx hb d_M_at_91 (by decide) (fun c_91 => ?_) (fun c_91 => ?_)
              · have c_91 := zI_0.mp c_91
                have c_91 := (not_congr num_3).mp c_91
                refine lv_iconst (v := nI 1) hx hb d_M_at_98 (by decide) ?_
                refine m_put hC hw hR hF 0 1 rfl (by decide) (hts _ k_734) (fun _ h9 => h9) rfl (by decide +kernel) rfl rfl d_M_at_99 (fun M20 H locs nu19 hnu19 enu19 hR hF hw => ?_)
                refine lv_aload_n hx hb d_M_at_102 rfl (lv_at hl 2 rfl) ?_
                refine x_get hC hw hR.1 rfl 0 (by decide) (hts _ k_734) (fun _ h9 => h9) rfl d_M_at_103 ?_
                refine x_vi (y := nI 1) (by rw [enu19]) ?_
                refine lv_if_le (tgt := 111) hx hb d_M_at_106 (by decide) (fun c_106 => ?_) (fun c_106 => ?_)
                · exact absurd c_106 (by decide +kernel)
                · refine lv_iconst (v := nI 0) hx hb d_M_at_109 (by decide) ?_
                  have hk : atK nu of (nI j) (nI k) wh = 1 := by rw [atK, hrow, kt_t (fun h => c_91 h.2.2)]
                  exact x_iret hC hr hw (⟨_, nu19, rfl, (fun h => absurd h (by rw [hk]; decide)), hR, (eqx.trans (L := [0]) (eqx.rf (L := [0])) hnu19 (by decide) (by decide)), hF, (by rw [hk, enu19])⟩) (Nat.le_of_ble_eq_true rfl) (Nat.le_of_ble_eq_true rfl) d_M_at_110
              · have c_91 := zI_1.mp c_91
                have c_91 := num_3.mp c_91
                obtain ⟨w, hw4, rfl⟩ := c_91.ex
                have hcw : cN (nI w) = w := cN_nI (by omega)
                refine lv_iconst (v := nI 0) hx hb d_M_at_94 (by decide) ?_
                refine lv_goto (tgt := 99) hx hb d_M_at_95 (by decide) ?_
                refine m_put hC hw hR hF 0 0 rfl (by decide) (hts _ k_734) (fun _ h9 => h9) rfl (by decide +kernel) rfl rfl d_M_at_99 (fun M22 H locs nu21 hnu21 enu21 hR hF hw => ?_)
                refine lv_aload_n hx hb d_M_at_102 rfl (lv_at hl 2 rfl) ?_
                refine x_get hC hw hR.1 rfl 0 (by decide) (hts _ k_734) (fun _ h9 => h9) rfl d_M_at_103 ?_
                refine x_vi (y := nI 0) (by rw [enu21]) ?_
                refine lv_if_le (tgt := 111) hx hb d_M_at_106 (by decide) (fun c_106 => ?_) (fun c_106 => ?_)
                · refine lv_bipush (v := nI 40) hx hb d_M_at_111 (by decide) ?_
                  refine lv_iload hx hb d_M_at_113 (lv_at hl 0 rfl) ?_
                  refine lv_imul hx hb d_M_at_115 ?_
                  refine x_vi (y := nI (40 * j)) (pk_mul _ _) ?_
                  refine lv_iload_n hx hb d_M_at_116 rfl (lv_at hl 5 rfl) ?_
                  refine lv_iadd hx hb d_M_at_117 ?_
                  refine x_vi (y := nI ((40 * j) + k)) (nI_add _ _) ?_
                  refine lv_istore (lv' := [(7, .int (nI ((40 * j) + k))), (6, .int (nI j)), (5, .int (nI 1)), (0, .ref md), (1, .int of), (2, .int (nI j)), (3, .int (nI k)), (4, .int (nI w))]) hx hb d_M_at_118 hl (by decide) rfl (fun ls hl => ?_)
                  refine lv_iload hx hb d_M_at_120 (lv_at hl 7 rfl) ?_
                  refine lv_if_ne (tgt := 135) hx hb d_M_at_122 (by decide) (fun c_122 => ?_) (fun c_122 => ?_)
                  · have c_122 := (not_congr (x_eq0 (by omega))).mp c_122
                    refine lv_iload hx hb d_M_at_135 (lv_at hl 7 rfl) ?_
                    refine lv_iconst (v := nI 1) hx hb d_M_at_137 (by decide) ?_
                    refine lv_icmp_ne (tgt := 151) hx hb d_M_at_138 (by decide) (fun c_138 => ?_) (fun c_138 => ?_)
                    · have c_138 := (not_congr (nI_eq (by omega) (by omega))).mp c_138
                      refine lv_iload hx hb d_M_at_151 (lv_at hl 7 rfl) ?_
                      refine lv_iconst (v := nI 2) hx hb d_M_at_153 (by decide) ?_
                      refine lv_icmp_ne (tgt := 167) hx hb d_M_at_154 (by decide) (fun c_154 => ?_) (fun c_154 => ?_)
                      · have c_154 := (not_congr (nI_eq (by omega) (by omega))).mp c_154
                        refine lv_aload_n hx hb d_M_at_167 rfl (lv_at hl 3 rfl) ?_
                        refine x_get hC hw hR.1 rfl 5 (by decide) (hts _ k_739) (fun _ h9 => h9) rfl d_M_at_168 ?_
                        refine lv_iload hx hb d_M_at_171 (lv_at hl 0 rfl) ?_
                        refine m_ldI hC hw hR 5 ((40 * j) + k) rfl (rfl) (by show _ < 960; omega) (by decide) d_M_at_173 ?_
                        have hk : atK nu of (nI j) (nI k) (nI w) = 0 := by rw [atK, hrow, kt_f (not_not_intro ⟨Or.inl ⟨c_1, c_10⟩, c_81, c_91⟩)]
                        exact x_iret hC hr hw (⟨_, nu21, rfl, (fun _ => (by rw [hrow, hck, hcw, show w = 3 by omega])), hR, (eqx.trans (L := [0]) (eqx.rf (L := [0])) hnu21 (by decide) (by decide)), hF, (by rw [hk, enu21])⟩) (Nat.le_of_ble_eq_true rfl) (Nat.le_of_ble_eq_true rfl) d_M_at_174
                      · have c_154 := (nI_eq (by omega) (by omega)).mp c_154
                        refine lv_aload_n hx hb d_M_at_157 rfl (lv_at hl 3 rfl) ?_
                        refine x_get hC hw hR.1 rfl 4 (by decide) (hts _ k_738) (fun _ h9 => h9) rfl d_M_at_158 ?_
                        refine lv_iload hx hb d_M_at_161 (lv_at hl 0 rfl) ?_
                        refine m_ldI hC hw hR 4 ((40 * j) + k) rfl (rfl) (by show _ < 960; omega) (by decide) d_M_at_163 ?_
                        refine lv_goto (tgt := 174) hx hb d_M_at_164 (by decide) ?_
                        have hk : atK nu of (nI j) (nI k) (nI w) = 0 := by rw [atK, hrow, kt_f (not_not_intro ⟨Or.inl ⟨c_1, c_10⟩, c_81, c_91⟩)]
                        exact x_iret hC hr hw (⟨_, nu21, rfl, (fun _ => (by rw [hrow, hck, hcw, show w = 2 by omega])), hR, (eqx.trans (L := [0]) (eqx.rf (L := [0])) hnu21 (by decide) (by decide)), hF, (by rw [hk, enu21])⟩) (Nat.le_of_ble_eq_true rfl) (Nat.le_of_ble_eq_true rfl) d_M_at_174
                    · have c_138 := (nI_eq (by omega) (by omega)).mp c_138
                      refine lv_aload_n hx hb d_M_at_141 rfl (lv_at hl 3 rfl) ?_
                      refine x_get hC hw hR.1 rfl 3 (by decide) (hts _ k_737) (fun _ h9 => h9) rfl d_M_at_142 ?_
                      refine lv_iload hx hb d_M_at_145 (lv_at hl 0 rfl) ?_
                      refine m_ldI hC hw hR 3 ((40 * j) + k) rfl (rfl) (by show _ < 960; omega) (by decide) d_M_at_147 ?_
                      refine lv_goto (tgt := 174) hx hb d_M_at_148 (by decide) ?_
                      have hk : atK nu of (nI j) (nI k) (nI w) = 0 := by rw [atK, hrow, kt_f (not_not_intro ⟨Or.inl ⟨c_1, c_10⟩, c_81, c_91⟩)]
                      exact x_iret hC hr hw (⟨_, nu21, rfl, (fun _ => (by rw [hrow, hck, hcw, show w = 1 by omega])), hR, (eqx.trans (L := [0]) (eqx.rf (L := [0])) hnu21 (by decide) (by decide)), hF, (by rw [hk, enu21])⟩) (Nat.le_of_ble_eq_true rfl) (Nat.le_of_ble_eq_true rfl) d_M_at_174
                  · have c_122 := (x_eq0 (by omega)).mp c_122
                    refine lv_aload_n hx hb d_M_at_125 rfl (lv_at hl 3 rfl) ?_
                    refine x_get hC hw hR.1 rfl 2 (by decide) (hts _ k_736) (fun _ h9 => h9) rfl d_M_at_126 ?_
                    refine lv_iload hx hb d_M_at_129 (lv_at hl 0 rfl) ?_
                    refine m_ldI hC hw hR 2 ((40 * j) + k) rfl (rfl) (by show _ < 960; omega) (by decide) d_M_at_131 ?_
                    refine lv_goto (tgt := 174) hx hb d_M_at_132 (by decide) ?_
                    have hk : atK nu of (nI j) (nI k) (nI w) = 0 := by rw [atK, hrow, kt_f (not_not_intro ⟨Or.inl ⟨c_1, c_10⟩, c_81, c_91⟩)]
                    exact x_iret hC hr hw (⟨_, nu21, rfl, (fun _ => (by rw [hrow, hck, hcw, show w = 0 by omega])), hR, (eqx.trans (L := [0]) (eqx.rf (L := [0])) hnu21 (by decide) (by decide)), hF, (by rw [hk, enu21])⟩) (Nat.le_of_ble_eq_true rfl) (Nat.le_of_ble_eq_true rfl) d_M_at_174
                · exact absurd c_106 (by decide +kernel)
    · have c_10 := zI_0.mp c_10
      have c_10 := (not_congr num_3).mp c_10
      refine lv_iload_n hx hb d_M_at_13 rfl (lv_at hl 1 rfl) ?_
      refine lv_iconst (v := nI 1) hx hb d_M_at_14 (by decide) ?_
      refine lv_icmp_ne (tgt := 36) hx hb d_M_at_15 (by decide) (fun c_15 => ?_) (fun c_15 => ?_)
      · refine lv_iconst (v := nI 0) hx hb d_M_at_36 (by decide) ?_
        refine lv_istore (lv' := [(5, .int (nI 0)), (0, .ref md), (1, .int of), (2, .int no), (3, .int i), (4, .int wh)]) hx hb d_M_at_37 hl (by decide) rfl (fun ls hl => ?_)
        refine lv_iload_n hx hb d_M_at_39 rfl (lv_at hl 2 rfl) ?_
        refine lv_if_ne (tgt := 47) hx hb d_M_at_40 (by decide) (fun c_40 => ?_) (fun c_40 => ?_)
        · exact absurd c_1 c_40
        · refine lv_iload_n hx hb d_M_at_43 rfl (lv_at hl 3 rfl) ?_
          refine lv_goto (tgt := 50) hx hb d_M_at_44 (by decide) ?_
          refine lv_istore (lv' := [(6, .int no), (5, .int (nI 0)), (0, .ref md), (1, .int of), (2, .int no), (3, .int i), (4, .int wh)]) hx hb d_M_at_50 hl (by decide) rfl (fun ls hl => ?_)
          refine lv_aload_n hx hb d_M_at_52 rfl (lv_at hl 2 rfl) ?_
          refine lv_iload hx hb d_M_at_53 (lv_at hl 1 rfl) ?_
          refine lv_if_eq (tgt := 98) hx hb d_M_at_55 (by decide) (fun c_55 => ?_) (fun c_55 => ?_)
          · refine lv_iconst (v := nI 1) hx hb d_M_at_98 (by decide) ?_
            refine m_put hC hw hR hF 0 1 rfl (by decide) (hts _ k_734) (fun _ h9 => h9) rfl (by decide +kernel) rfl rfl d_M_at_99 (fun M24 H locs nu23 hnu23 enu23 hR hF hw => ?_)
            refine lv_aload_n hx hb d_M_at_102 rfl (lv_at hl 2 rfl) ?_
            refine x_get hC hw hR.1 rfl 0 (by decide) (hts _ k_734) (fun _ h9 => h9) rfl d_M_at_103 ?_
            refine x_vi (y := nI 1) (by rw [enu23]) ?_
            refine lv_if_le (tgt := 111) hx hb d_M_at_106 (by decide) (fun c_106 => ?_) (fun c_106 => ?_)
            · exact absurd c_106 (by decide +kernel)
            · refine lv_iconst (v := nI 0) hx hb d_M_at_109 (by decide) ?_
              have hk : atK nu of no i wh = 1 := by rw [atK, kt_t (fun h => h.1.elim (fun z => c_10 z.2) (fun z => c_15 z.1))]
              exact x_iret hC hr hw (⟨_, nu23, rfl, (fun h => absurd h (by rw [hk]; decide)), hR, (eqx.trans (L := [0]) (eqx.rf (L := [0])) hnu23 (by decide) (by decide)), hF, (by rw [hk, enu23])⟩) (Nat.le_of_ble_eq_true rfl) (Nat.le_of_ble_eq_true rfl) d_M_at_110
          · exact absurd c_55 (by decide +kernel)
      · exact absurd (c_1.symm.trans c_15) (by decide +kernel)

set_option maxHeartbeats 1000000 in
set_option maxRecDepth 100000 in
/-- many -/
theorem c_M_many (l : Launch) (G : xT) (M : xMem) (sz : Nat) (md : Nat) (am : Nat → Nat) (nu : Nat → Nat → Nat) (sg : Nat → Nat → Int32) (hR : mRep G M md am nu sg) (wh no : Int32) (h20 : nu 6 0 ≤ 20) (h8 : nu 21 0 ≤ 8) (h4 : nu 12 0 ≤ 4) : xMet l G y_M_many (Cond.code y_M_many b_M_many 4 (Option.some Jvm.ClassFile.FieldType.int) :: x_tbl) { frames := 1, cells := 0, slots := 0, locals := 25 } [.ref md, .int wh, .int no] M sz (fun v M' => ∃ (x : Int32) (nu' : Nat → Nat → Nat), v = some (.int x) ∧ (manyK nu wh no = 0 → x = nI (manyV nu wh no)) ∧ mRep G M' md am nu' sg ∧ eqx [0] nu nu' ∧ xfr M M' (mS md am) ∧ nu' 0 0 = manyK nu wh no) (fun _ _ => False) := by
  refine xMet.of (by decide) (Nat.le_of_ble_eq_true rfl) ?_
  intro p e s m below meth c ls hC hr hnm hno hsz hw hl
  obtain ⟨hx, hb, hown, hts, hK, hml, hlk, hz⟩ := id hC
  have hl : lv_has ls 4 [(0, .ref md), (1, .int wh), (2, .int no)] := hl
  have hF : xfr M M (mS md am) := xfr.rf
  refine lv_iload_n hx hb d_M_many_0 rfl (lv_at hl 1 rfl) ?_
  refine lv_if_ne (tgt := 8) hx hb d_M_many_1 (by decide) (fun c_1 => ?_) (fun c_1 => ?_)
  · refine lv_iload_n hx hb d_M_many_8 rfl (lv_at hl 1 rfl) ?_
    refine lv_iconst (v := nI 1) hx hb d_M_many_9 (by decide) ?_
    refine lv_icmp_ne (tgt := 20) hx hb d_M_many_10 (by decide) (fun c_10 => ?_) (fun c_10 => ?_)
    · refine lv_iload_n hx hb d_M_many_20 rfl (lv_at hl 1 rfl) ?_
      refine lv_iconst (v := nI 2) hx hb d_M_many_21 (by decide) ?_
      refine lv_icmp_ne (tgt := 32) hx hb d_M_many_22 (by decide) (fun c_22 => ?_) (fun c_22 => ?_)
      · refine lv_iload_n hx hb d_M_many_32 rfl (lv_at hl 1 rfl) ?_
        refine lv_iconst (v := nI 3) hx hb d_M_many_33 (by decide) ?_
        refine lv_icmp_ne (tgt := 44) hx hb d_M_many_34 (by decide) (fun c_34 => ?_) (fun c_34 => ?_)
        · refine lv_iconst (v := nI 0) hx hb d_M_many_44 (by decide) ?_
          refine lv_istore_n (lv' := [(3, .int (nI 0)), (0, .ref md), (1, .int wh), (2, .int no)]) hx hb d_M_many_45 rfl hl (by decide) rfl (fun ls hl => ?_)
          refine lv_aload_n hx hb d_M_many_46 rfl (lv_at hl 1 rfl) ?_
          refine lv_iload_n hx hb d_M_many_47 rfl (lv_at hl 3 rfl) ?_
          refine lv_iconst (v := nI 0) hx hb d_M_many_48 (by decide) ?_
          refine lv_iload_n hx hb d_M_many_49 rfl (lv_at hl 0 rfl) ?_
          refine lv_iconst (v := nI 1) hx hb d_M_many_50 (by decide) ?_
          refine lv_isub hx hb d_M_many_51 ?_
          refine x_callG hC (c_M_in l G M (Array.size s.heap) (no) (nI 0) ((nI 0 - nI 1))) k_842 k_13 ⟨Nat.le_of_ble_eq_true rfl, Nat.le_of_ble_eq_true rfl⟩ ⟨Nat.le_of_ble_eq_true rfl, Nat.le_of_ble_eq_true rfl⟩ hw hl.1 (Nat.le_of_ble_eq_true rfl) d_M_many_52 (x_ivS hC k_842 k_840 k_841 k_13 (show _ ∧ _ ∧ _ = some 3 from by decide +kernel) rfl d_M_many_52) (fun rv M1 H locs hq hw => ?_) (fun _ _ _ _ _ h _ _ => h.elim)
          obtain ⟨rfl, hM⟩ := hq
          subst M1
          refine W.eq (g2 := F0 m 55 ls [.int (zI (inP no (nI 0) (nI 0 - nI 1))), .ref md]) rfl ?_
          refine lv_if_eq (tgt := 62) hx hb d_M_many_55 (by decide) (fun c_55 => ?_) (fun c_55 => ?_)
          · have c_55 := zI_0.mp c_55
            have hA : manyA nu wh = 0 := by rw [manyA, kt_f c_1, kt_f c_10, kt_f c_22, kt_f c_34]
            have c_55 := (not_congr (num_in (by omega))).mp c_55
            refine lv_iconst (v := nI 1) hx hb d_M_many_62 (by decide) ?_
            refine m_put hC hw hR hF 0 1 rfl (by decide) (hts _ k_734) (fun _ h9 => h9) rfl (by decide +kernel) rfl rfl d_M_many_63 (fun M3 H locs nu2 hnu2 enu2 hR hF hw => ?_)
            refine lv_aload_n hx hb d_M_many_66 rfl (lv_at hl 1 rfl) ?_
            refine x_get hC hw hR.1 rfl 0 (by decide) (hts _ k_734) (fun _ h9 => h9) rfl d_M_many_67 ?_
            refine x_vi (y := nI 1) (by rw [enu2]) ?_
            refine lv_if_le (tgt := 75) hx hb d_M_many_70 (by decide) (fun c_70 => ?_) (fun c_70 => ?_)
            · exact absurd c_70 (by decide +kernel)
            · refine lv_iconst (v := nI 0) hx hb d_M_many_73 (by decide) ?_
              have hk : manyK nu wh no = 1 := by rw [manyK, hA, kt_t c_55]
              exact x_iret hC hr hw (⟨_, nu2, rfl, (fun h => absurd h (by rw [hk]; decide)), hR, (eqx.trans (L := [0]) (eqx.rf (L := [0])) hnu2 (by decide) (by decide)), hF, (by rw [hk, enu2])⟩) (Nat.le_of_ble_eq_true rfl) (Nat.le_of_ble_eq_true rfl) d_M_many_74
          · have c_55 := zI_1.mp c_55
            exact absurd ((num_in (n := 0) (by decide)).mp c_55).2 (Nat.not_lt_zero _)
        · refine lv_aload_n hx hb d_M_many_37 rfl (lv_at hl 0 rfl) ?_
          refine x_get hC hw hR.1 rfl 12 (by decide) (hts _ k_746) (fun _ h9 => h9) rfl d_M_many_38 ?_
          refine lv_goto (tgt := 45) hx hb d_M_many_41 (by decide) ?_
          refine lv_istore_n (lv' := [(3, .int (nI (nu 12 0))), (0, .ref md), (1, .int wh), (2, .int no)]) hx hb d_M_many_45 rfl hl (by decide) rfl (fun ls hl => ?_)
          refine lv_aload_n hx hb d_M_many_46 rfl (lv_at hl 1 rfl) ?_
          refine lv_iload_n hx hb d_M_many_47 rfl (lv_at hl 3 rfl) ?_
          refine lv_iconst (v := nI 0) hx hb d_M_many_48 (by decide) ?_
          refine lv_iload_n hx hb d_M_many_49 rfl (lv_at hl 0 rfl) ?_
          refine lv_iconst (v := nI 1) hx hb d_M_many_50 (by decide) ?_
          refine lv_isub hx hb d_M_many_51 ?_
          refine x_callG hC (c_M_in l G M (Array.size s.heap) (no) (nI 0) ((nI (nu 12 0) - nI 1))) k_842 k_13 ⟨Nat.le_of_ble_eq_true rfl, Nat.le_of_ble_eq_true rfl⟩ ⟨Nat.le_of_ble_eq_true rfl, Nat.le_of_ble_eq_true rfl⟩ hw hl.1 (Nat.le_of_ble_eq_true rfl) d_M_many_52 (x_ivS hC k_842 k_840 k_841 k_13 (show _ ∧ _ ∧ _ = some 3 from by decide +kernel) rfl d_M_many_52) (fun rv M4 H locs hq hw => ?_) (fun _ _ _ _ _ h _ _ => h.elim)
          obtain ⟨rfl, hM⟩ := hq
          subst M4
          refine W.eq (g2 := F0 m 55 ls [.int (zI (inP no (nI 0) (nI (nu 12 0) - nI 1))), .ref md]) rfl ?_
          refine lv_if_eq (tgt := 62) hx hb d_M_many_55 (by decide) (fun c_55 => ?_) (fun c_55 => ?_)
          · have c_55 := zI_0.mp c_55
            have hA : manyA nu wh = nu 12 0 := by rw [manyA, kt_f c_1, kt_f c_10, kt_f c_22, kt_t c_34]
            have c_55 := (not_congr (num_in (by omega))).mp c_55
            refine lv_iconst (v := nI 1) hx hb d_M_many_62 (by decide) ?_
            refine m_put hC hw hR hF 0 1 rfl (by decide) (hts _ k_734) (fun _ h9 => h9) rfl (by decide +kernel) rfl rfl d_M_many_63 (fun M6 H locs nu5 hnu5 enu5 hR hF hw => ?_)
            refine lv_aload_n hx hb d_M_many_66 rfl (lv_at hl 1 rfl) ?_
            refine x_get hC hw hR.1 rfl 0 (by decide) (hts _ k_734) (fun _ h9 => h9) rfl d_M_many_67 ?_
            refine x_vi (y := nI 1) (by rw [enu5]) ?_
            refine lv_if_le (tgt := 75) hx hb d_M_many_70 (by decide) (fun c_70 => ?_) (fun c_70 => ?_)
            · exact absurd c_70 (by decide +kernel)
            · refine lv_iconst (v := nI 0) hx hb d_M_many_73 (by decide) ?_
              have hk : manyK nu wh no = 1 := by rw [manyK, hA, kt_t c_55]
              exact x_iret hC hr hw (⟨_, nu5, rfl, (fun h => absurd h (by rw [hk]; decide)), hR, (eqx.trans (L := [0]) (eqx.rf (L := [0])) hnu5 (by decide) (by decide)), hF, (by rw [hk, enu5])⟩) (Nat.le_of_ble_eq_true rfl) (Nat.le_of_ble_eq_true rfl) d_M_many_74
          · have c_55 := zI_1.mp c_55
            have hA : manyA nu wh = nu 12 0 := by rw [manyA, kt_f c_1, kt_f c_10, kt_f c_22, kt_t c_34]
            have c_55 := (num_in (by omega)).mp c_55
            obtain ⟨j, hj, rfl⟩ := c_55.ex
            have hcj : cN (nI j) = j := cN_nI (by omega)
            refine lv_iconst (v := nI 0) hx hb d_M_many_58 (by decide) ?_
            refine lv_goto (tgt := 63) hx hb d_M_many_59 (by decide) ?_
            refine m_put hC hw hR hF 0 0 rfl (by decide) (hts _ k_734) (fun _ h9 => h9) rfl (by decide +kernel) rfl rfl d_M_many_63 (fun M8 H locs nu7 hnu7 enu7 hR hF hw => ?_)
            refine lv_aload_n hx hb d_M_many_66 rfl (lv_at hl 1 rfl) ?_
            refine x_get hC hw hR.1 rfl 0 (by decide) (hts _ k_734) (fun _ h9 => h9) rfl d_M_many_67 ?_
            refine x_vi (y := nI 0) (by rw [enu7]) ?_
            refine lv_if_le (tgt := 75) hx hb d_M_many_70 (by decide) (fun c_70 => ?_) (fun c_70 => ?_)
            · refine lv_iload_n hx hb d_M_many_75 rfl (lv_at hl 2 rfl) ?_
              refine lv_if_ne (tgt := 88) hx hb d_M_many_76 (by decide) (fun c_76 => ?_) (fun c_76 => ?_)
              · refine lv_iload_n hx hb d_M_many_88 rfl (lv_at hl 2 rfl) ?_
                refine lv_iconst (v := nI 1) hx hb d_M_many_89 (by decide) ?_
                refine lv_icmp_ne (tgt := 104) hx hb d_M_many_90 (by decide) (fun c_90 => ?_) (fun c_90 => ?_)
                · refine lv_iload_n hx hb d_M_many_104 rfl (lv_at hl 2 rfl) ?_
                  refine lv_iconst (v := nI 2) hx hb d_M_many_105 (by decide) ?_
                  refine lv_icmp_ne (tgt := 118) hx hb d_M_many_106 (by decide) (fun c_106 => ?_) (fun c_106 => ?_)
                  · refine lv_aload_n hx hb d_M_many_118 rfl (lv_at hl 1 rfl) ?_
                    refine x_get hC hw hR.1 rfl 13 (by decide) (hts _ k_747) (fun _ h9 => h9) rfl d_M_many_119 ?_
                    refine lv_iload_n hx hb d_M_many_122 rfl (lv_at hl 3 rfl) ?_
                    refine m_ldN hC hw hR 13 j rfl (rfl) (by show _ < 4; omega) (by decide) d_M_many_123 ?_
                    refine x_vi (y := nI (nu 13 j)) (by rw [hnu7 13 (by decide)]) ?_
                    have hk : manyK nu wh (nI j) = 0 := by rw [manyK, hA, kt_f (not_not_intro c_55)]
                    exact x_iret hC hr hw (⟨_, nu7, rfl, (fun _ => (by rw [manyV, kt_f c_1, kt_f c_10, kt_f c_22, hcj])), hR, (eqx.trans (L := [0]) (eqx.rf (L := [0])) hnu7 (by decide) (by decide)), hF, (by rw [hk, enu7])⟩) (Nat.le_of_ble_eq_true rfl) (Nat.le_of_ble_eq_true rfl) d_M_many_124
                  · exact absurd c_106 c_22
                · exact absurd c_90 c_10
              · exact absurd c_76 c_1
            · exact absurd c_70 (by decide +kernel)
      · refine lv_aload_n hx hb d_M_many_25 rfl (lv_at hl 0 rfl) ?_
        refine x_get hC hw hR.1 rfl 21 (by decide) (hts _ k_755) (fun _ h9 => h9) rfl d_M_many_26 ?_
        refine lv_goto (tgt := 45) hx hb d_M_many_29 (by decide) ?_
        refine lv_istore_n (lv' := [(3, .int (nI (nu 21 0))), (0, .ref md), (1, .int wh), (2, .int no)]) hx hb d_M_many_45 rfl hl (by decide) rfl (fun ls hl => ?_)
        refine lv_aload_n hx hb d_M_many_46 rfl (lv_at hl 1 rfl) ?_
        refine lv_iload_n hx hb d_M_many_47 rfl (lv_at hl 3 rfl) ?_
        refine lv_iconst (v := nI 0) hx hb d_M_many_48 (by decide) ?_
        refine lv_iload_n hx hb d_M_many_49 rfl (lv_at hl 0 rfl) ?_
        refine lv_iconst (v := nI 1) hx hb d_M_many_50 (by decide) ?_
        refine lv_isub hx hb d_M_many_51 ?_
        refine x_callG hC (c_M_in l G M (Array.size s.heap) (no) (nI 0) ((nI (nu 21 0) - nI 1))) k_842 k_13 ⟨Nat.le_of_ble_eq_true rfl, Nat.le_of_ble_eq_true rfl⟩ ⟨Nat.le_of_ble_eq_true rfl, Nat.le_of_ble_eq_true rfl⟩ hw hl.1 (Nat.le_of_ble_eq_true rfl) d_M_many_52 (x_ivS hC k_842 k_840 k_841 k_13 (show _ ∧ _ ∧ _ = some 3 from by decide +kernel) rfl d_M_many_52) (fun rv M9 H locs hq hw => ?_) (fun _ _ _ _ _ h _ _ => h.elim)
        obtain ⟨rfl, hM⟩ := hq
        subst M9
        refine W.eq (g2 := F0 m 55 ls [.int (zI (inP no (nI 0) (nI (nu 21 0) - nI 1))), .ref md]) rfl ?_
        refine lv_if_eq (tgt := 62) hx hb d_M_many_55 (by decide) (fun c_55 => ?_) (fun c_55 => ?_)
        · have c_55 := zI_0.mp c_55
          have hA : manyA nu wh = nu 21 0 := by rw [manyA, kt_f c_1, kt_f c_10, kt_t c_22]
          have c_55 := (not_congr (num_in (by omega))).mp c_55
          refine lv_iconst (v := nI 1) hx hb d_M_many_62 (by decide) ?_
          refine m_put hC hw hR hF 0 1 rfl (by decide) (hts _ k_734) (fun _ h9 => h9) rfl (by decide +kernel) rfl rfl d_M_many_63 (fun M11 H locs nu10 hnu10 enu10 hR hF hw => ?_)
          refine lv_aload_n hx hb d_M_many_66 rfl (lv_at hl 1 rfl) ?_
          refine x_get hC hw hR.1 rfl 0 (by decide) (hts _ k_734) (fun _ h9 => h9) rfl d_M_many_67 ?_
          refine x_vi (y := nI 1) (by rw [enu10]) ?_
          refine lv_if_le (tgt := 75) hx hb d_M_many_70 (by decide) (fun c_70 => ?_) (fun c_70 => ?_)
          · exact absurd c_70 (by decide +kernel)
          · refine lv_iconst (v := nI 0) hx hb d_M_many_73 (by decide) ?_
            have hk : manyK nu wh no = 1 := by rw [manyK, hA, kt_t c_55]
            exact x_iret hC hr hw (⟨_, nu10, rfl, (fun h => absurd h (by rw [hk]; decide)), hR, (eqx.trans (L := [0]) (eqx.rf (L := [0])) hnu10 (by decide) (by decide)), hF, (by rw [hk, enu10])⟩) (Nat.le_of_ble_eq_true rfl) (Nat.le_of_ble_eq_true rfl) d_M_many_74
        · have c_55 := zI_1.mp c_55
          have hA : manyA nu wh = nu 21 0 := by rw [manyA, kt_f c_1, kt_f c_10, kt_t c_22]
          have c_55 := (num_in (by omega)).mp c_55
          obtain ⟨j, hj, rfl⟩ := c_55.ex
          have hcj : cN (nI j) = j := cN_nI (by omega)
          refine lv_iconst (v := nI 0) hx hb d_M_many_58 (by decide) ?_
          refine lv_goto (tgt := 63) hx hb d_M_many_59 (by decide) ?_
          refine m_put hC hw hR hF 0 0 rfl (by decide) (hts _ k_734) (fun _ h9 => h9) rfl (by decide +kernel) rfl rfl d_M_many_63 (fun M13 H locs nu12 hnu12 enu12 hR hF hw => ?_)
          refine lv_aload_n hx hb d_M_many_66 rfl (lv_at hl 1 rfl) ?_
          refine x_get hC hw hR.1 rfl 0 (by decide) (hts _ k_734) (fun _ h9 => h9) rfl d_M_many_67 ?_
          refine x_vi (y := nI 0) (by rw [enu12]) ?_
          refine lv_if_le (tgt := 75) hx hb d_M_many_70 (by decide) (fun c_70 => ?_) (fun c_70 => ?_)
          · refine lv_iload_n hx hb d_M_many_75 rfl (lv_at hl 2 rfl) ?_
            refine lv_if_ne (tgt := 88) hx hb d_M_many_76 (by decide) (fun c_76 => ?_) (fun c_76 => ?_)
            · refine lv_iload_n hx hb d_M_many_88 rfl (lv_at hl 2 rfl) ?_
              refine lv_iconst (v := nI 1) hx hb d_M_many_89 (by decide) ?_
              refine lv_icmp_ne (tgt := 104) hx hb d_M_many_90 (by decide) (fun c_90 => ?_) (fun c_90 => ?_)
              · refine lv_iload_n hx hb d_M_many_104 rfl (lv_at hl 2 rfl) ?_
                refine lv_iconst (v := nI 2) hx hb d_M_many_105 (by decide) ?_
                refine lv_icmp_ne (tgt := 118) hx hb d_M_many_106 (by decide) (fun c_106 => ?_) (fun c_106 => ?_)
                · exact absurd c_22 c_106
                · refine lv_aload_n hx hb d_M_many_109 rfl (lv_at hl 1 rfl) ?_
                  refine x_get hC hw hR.1 rfl 23 (by decide) (hts _ k_757) (fun _ h9 => h9) rfl d_M_many_110 ?_
                  refine lv_iload_n hx hb d_M_many_113 rfl (lv_at hl 3 rfl) ?_
                  refine m_ldN hC hw hR 23 j rfl (rfl) (by show _ < 8; omega) (by decide) d_M_many_114 ?_
                  refine x_vi (y := nI (nu 23 j)) (by rw [hnu12 23 (by decide)]) ?_
                  refine lv_goto (tgt := 124) hx hb d_M_many_115 (by decide) ?_
                  have hk : manyK nu wh (nI j) = 0 := by rw [manyK, hA, kt_f (not_not_intro c_55)]
                  exact x_iret hC hr hw (⟨_, nu12, rfl, (fun _ => (by rw [manyV, kt_f c_1, kt_f c_10, kt_t c_22, hcj])), hR, (eqx.trans (L := [0]) (eqx.rf (L := [0])) hnu12 (by decide) (by decide)), hF, (by rw [hk, enu12])⟩) (Nat.le_of_ble_eq_true rfl) (Nat.le_of_ble_eq_true rfl) d_M_many_124
              · exact absurd c_90 c_10
            · exact absurd c_76 c_1
          · exact absurd c_70 (by decide +kernel)
    · refine lv_aload_n hx hb d_M_many_13 rfl (lv_at hl 0 rfl) ?_
      refine x_get hC hw hR.1 rfl 6 (by decide) (hts _ k_740) (fun _ h9 => h9) rfl d_M_many_14 ?_
      refine lv_goto (tgt := 45) hx hb d_M_many_17 (by decide) ?_
      refine lv_istore_n (lv' := [(3, .int (nI (nu 6 0))), (0, .ref md), (1, .int wh), (2, .int no)]) hx hb d_M_many_45 rfl hl (by decide) rfl (fun ls hl => ?_)
      refine lv_aload_n hx hb d_M_many_46 rfl (lv_at hl 1 rfl) ?_
      refine lv_iload_n hx hb d_M_many_47 rfl (lv_at hl 3 rfl) ?_
      refine lv_iconst (v := nI 0) hx hb d_M_many_48 (by decide) ?_
      refine lv_iload_n hx hb d_M_many_49 rfl (lv_at hl 0 rfl) ?_
      refine lv_iconst (v := nI 1) hx hb d_M_many_50 (by decide) ?_
      refine lv_isub hx hb d_M_many_51 ?_
      refine x_callG hC (c_M_in l G M (Array.size s.heap) (no) (nI 0) ((nI (nu 6 0) - nI 1))) k_842 k_13 ⟨Nat.le_of_ble_eq_true rfl, Nat.le_of_ble_eq_true rfl⟩ ⟨Nat.le_of_ble_eq_true rfl, Nat.le_of_ble_eq_true rfl⟩ hw hl.1 (Nat.le_of_ble_eq_true rfl) d_M_many_52 (x_ivS hC k_842 k_840 k_841 k_13 (show _ ∧ _ ∧ _ = some 3 from by decide +kernel) rfl d_M_many_52) (fun rv M14 H locs hq hw => ?_) (fun _ _ _ _ _ h _ _ => h.elim)
      obtain ⟨rfl, hM⟩ := hq
      subst M14
      refine W.eq (g2 := F0 m 55 ls [.int (zI (inP no (nI 0) (nI (nu 6 0) - nI 1))), .ref md]) rfl ?_
      refine lv_if_eq (tgt := 62) hx hb d_M_many_55 (by decide) (fun c_55 => ?_) (fun c_55 => ?_)
      · have c_55 := zI_0.mp c_55
        have hA : manyA nu wh = nu 6 0 := by rw [manyA, kt_f c_1, kt_t c_10]
        have c_55 := (not_congr (num_in (by omega))).mp c_55
        refine lv_iconst (v := nI 1) hx hb d_M_many_62 (by decide) ?_
        refine m_put hC hw hR hF 0 1 rfl (by decide) (hts _ k_734) (fun _ h9 => h9) rfl (by decide +kernel) rfl rfl d_M_many_63 (fun M16 H locs nu15 hnu15 enu15 hR hF hw => ?_)
        refine lv_aload_n hx hb d_M_many_66 rfl (lv_at hl 1 rfl) ?_
        refine x_get hC hw hR.1 rfl 0 (by decide) (hts _ k_734) (fun _ h9 => h9) rfl d_M_many_67 ?_
        refine x_vi (y := nI 1) (by rw [enu15]) ?_
        refine lv_if_le (tgt := 75) hx hb d_M_many_70 (by decide) (fun c_70 => ?_) (fun c_70 => ?_)
        · exact absurd c_70 (by decide +kernel)
        · refine lv_iconst (v := nI 0) hx hb d_M_many_73 (by decide) ?_
          have hk : manyK nu wh no = 1 := by rw [manyK, hA, kt_t c_55]
          exact x_iret hC hr hw (⟨_, nu15, rfl, (fun h => absurd h (by rw [hk]; decide)), hR, (eqx.trans (L := [0]) (eqx.rf (L := [0])) hnu15 (by decide) (by decide)), hF, (by rw [hk, enu15])⟩) (Nat.le_of_ble_eq_true rfl) (Nat.le_of_ble_eq_true rfl) d_M_many_74
      · have c_55 := zI_1.mp c_55
        have hA : manyA nu wh = nu 6 0 := by rw [manyA, kt_f c_1, kt_t c_10]
        have c_55 := (num_in (by omega)).mp c_55
        obtain ⟨j, hj, rfl⟩ := c_55.ex
        have hcj : cN (nI j) = j := cN_nI (by omega)
        refine lv_iconst (v := nI 0) hx hb d_M_many_58 (by decide) ?_
        refine lv_goto (tgt := 63) hx hb d_M_many_59 (by decide) ?_
        refine m_put hC hw hR hF 0 0 rfl (by decide) (hts _ k_734) (fun _ h9 => h9) rfl (by decide +kernel) rfl rfl d_M_many_63 (fun M18 H locs nu17 hnu17 enu17 hR hF hw => ?_)
        refine lv_aload_n hx hb d_M_many_66 rfl (lv_at hl 1 rfl) ?_
        refine x_get hC hw hR.1 rfl 0 (by decide) (hts _ k_734) (fun _ h9 => h9) rfl d_M_many_67 ?_
        refine x_vi (y := nI 0) (by rw [enu17]) ?_
        refine lv_if_le (tgt := 75) hx hb d_M_many_70 (by decide) (fun c_70 => ?_) (fun c_70 => ?_)
        · refine lv_iload_n hx hb d_M_many_75 rfl (lv_at hl 2 rfl) ?_
          refine lv_if_ne (tgt := 88) hx hb d_M_many_76 (by decide) (fun c_76 => ?_) (fun c_76 => ?_)
          · refine lv_iload_n hx hb d_M_many_88 rfl (lv_at hl 2 rfl) ?_
            refine lv_iconst (v := nI 1) hx hb d_M_many_89 (by decide) ?_
            refine lv_icmp_ne (tgt := 104) hx hb d_M_many_90 (by decide) (fun c_90 => ?_) (fun c_90 => ?_)
            · exact absurd c_10 c_90
            · refine lv_aload_n hx hb d_M_many_93 rfl (lv_at hl 1 rfl) ?_
              refine x_get hC hw hR.1 rfl 1 (by decide) (hts _ k_735) (fun _ h9 => h9) rfl d_M_many_94 ?_
              refine lv_iconst (v := nI 4) hx hb d_M_many_97 (by decide) ?_
              refine lv_iload_n hx hb d_M_many_98 rfl (lv_at hl 3 rfl) ?_
              refine lv_iadd hx hb d_M_many_99 ?_
              refine x_vi (y := nI (4 + j)) (nI_add _ _) ?_
              refine m_ldN hC hw hR 1 (4 + j) rfl (rfl) (by show _ < 24; omega) (by decide) d_M_many_100 ?_
              refine x_vi (y := nI (nu 1 (4 + j))) (by rw [hnu17 1 (by decide)]) ?_
              refine lv_goto (tgt := 124) hx hb d_M_many_101 (by decide) ?_
              have hk : manyK nu wh (nI j) = 0 := by rw [manyK, hA, kt_f (not_not_intro c_55)]
              exact x_iret hC hr hw (⟨_, nu17, rfl, (fun _ => (by rw [manyV, kt_f c_1, kt_t c_10, hcj])), hR, (eqx.trans (L := [0]) (eqx.rf (L := [0])) hnu17 (by decide) (by decide)), hF, (by rw [hk, enu17])⟩) (Nat.le_of_ble_eq_true rfl) (Nat.le_of_ble_eq_true rfl) d_M_many_124
          · exact absurd c_76 c_1
        · exact absurd c_70 (by decide +kernel)
  · refine lv_iconst (v := nI 4) hx hb d_M_many_4 (by decide) ?_
    refine lv_goto (tgt := 45) hx hb d_M_many_5 (by decide) ?_
    refine lv_istore_n (lv' := [(3, .int (nI 4)), (0, .ref md), (1, .int wh), (2, .int no)]) hx hb d_M_many_45 rfl hl (by decide) rfl (fun ls hl => ?_)
    refine lv_aload_n hx hb d_M_many_46 rfl (lv_at hl 1 rfl) ?_
    refine lv_iload_n hx hb d_M_many_47 rfl (lv_at hl 3 rfl) ?_
    refine lv_iconst (v := nI 0) hx hb d_M_many_48 (by decide) ?_
    refine lv_iload_n hx hb d_M_many_49 rfl (lv_at hl 0 rfl) ?_
    refine lv_iconst (v := nI 1) hx hb d_M_many_50 (by decide) ?_
    refine lv_isub hx hb d_M_many_51 ?_
    refine x_callG hC (c_M_in l G M (Array.size s.heap) (no) (nI 0) ((nI 4 - nI 1))) k_842 k_13 ⟨Nat.le_of_ble_eq_true rfl, Nat.le_of_ble_eq_true rfl⟩ ⟨Nat.le_of_ble_eq_true rfl, Nat.le_of_ble_eq_true rfl⟩ hw hl.1 (Nat.le_of_ble_eq_true rfl) d_M_many_52 (x_ivS hC k_842 k_840 k_841 k_13 (show _ ∧ _ ∧ _ = some 3 from by decide +kernel) rfl d_M_many_52) (fun rv M19 H locs hq hw => ?_) (fun _ _ _ _ _ h _ _ => h.elim)
    obtain ⟨rfl, hM⟩ := hq
    subst M19
    refine W.eq (g2 := F0 m 55 ls [.int (zI (inP no (nI 0) (nI 4 - nI 1))), .ref md]) rfl ?_
    refine lv_if_eq (tgt := 62) hx hb d_M_many_55 (by decide) (fun c_55 => ?_) (fun c_55 => ?_)
    · have c_55 := zI_0.mp c_55
      have hA : manyA nu wh = 4 := by rw [manyA, kt_t c_1]
      have c_55 := (not_congr (num_in (by omega))).mp c_55
      refine lv_iconst (v := nI 1) hx hb d_M_many_62 (by decide) ?_
      refine m_put hC hw hR hF 0 1 rfl (by decide) (hts _ k_734) (fun _ h9 => h9) rfl (by decide +kernel) rfl rfl d_M_many_63 (fun M21 H locs nu20 hnu20 enu20 hR hF hw => ?_)
      refine lv_aload_n hx hb d_M_many_66 rfl (lv_at hl 1 rfl) ?_
      refine x_get hC hw hR.1 rfl 0 (by decide) (hts _ k_734) (fun _ h9 => h9) rfl d_M_many_67 ?_
      refine x_vi (y := nI 1) (by rw [enu20]) ?_
      refine lv_if_le (tgt := 75) hx hb d_M_many_70 (by decide) (fun c_70 => ?_) (fun c_70 => ?_)
      · exact absurd c_70 (by decide +kernel)
      · refine lv_iconst (v := nI 0) hx hb d_M_many_73 (by decide) ?_
        have hk : manyK nu wh no = 1 := by rw [manyK, hA, kt_t c_55]
        exact x_iret hC hr hw (⟨_, nu20, rfl, (fun h => absurd h (by rw [hk]; decide)), hR, (eqx.trans (L := [0]) (eqx.rf (L := [0])) hnu20 (by decide) (by decide)), hF, (by rw [hk, enu20])⟩) (Nat.le_of_ble_eq_true rfl) (Nat.le_of_ble_eq_true rfl) d_M_many_74
    · have c_55 := zI_1.mp c_55
      have hA : manyA nu wh = 4 := by rw [manyA, kt_t c_1]
      have c_55 := (num_in (by omega)).mp c_55
      obtain ⟨j, hj, rfl⟩ := c_55.ex
      have hcj : cN (nI j) = j := cN_nI (by omega)
      refine lv_iconst (v := nI 0) hx hb d_M_many_58 (by decide) ?_
      refine lv_goto (tgt := 63) hx hb d_M_many_59 (by decide) ?_
      refine m_put hC hw hR hF 0 0 rfl (by decide) (hts _ k_734) (fun _ h9 => h9) rfl (by decide +kernel) rfl rfl d_M_many_63 (fun M23 H locs nu22 hnu22 enu22 hR hF hw => ?_)
      refine lv_aload_n hx hb d_M_many_66 rfl (lv_at hl 1 rfl) ?_
      refine x_get hC hw hR.1 rfl 0 (by decide) (hts _ k_734) (fun _ h9 => h9) rfl d_M_many_67 ?_
      refine x_vi (y := nI 0) (by rw [enu22]) ?_
      refine lv_if_le (tgt := 75) hx hb d_M_many_70 (by decide) (fun c_70 => ?_) (fun c_70 => ?_)
      · refine lv_iload_n hx hb d_M_many_75 rfl (lv_at hl 2 rfl) ?_
        refine lv_if_ne (tgt := 88) hx hb d_M_many_76 (by decide) (fun c_76 => ?_) (fun c_76 => ?_)
        · exact absurd c_1 c_76
        · refine lv_aload_n hx hb d_M_many_79 rfl (lv_at hl 1 rfl) ?_
          refine x_get hC hw hR.1 rfl 1 (by decide) (hts _ k_735) (fun _ h9 => h9) rfl d_M_many_80 ?_
          refine lv_iload_n hx hb d_M_many_83 rfl (lv_at hl 3 rfl) ?_
          refine m_ldN hC hw hR 1 j rfl (rfl) (by show _ < 24; omega) (by decide) d_M_many_84 ?_
          refine x_vi (y := nI (nu 1 j)) (by rw [hnu22 1 (by decide)]) ?_
          refine lv_goto (tgt := 124) hx hb d_M_many_85 (by decide) ?_
          have hk : manyK nu wh (nI j) = 0 := by rw [manyK, hA, kt_f (not_not_intro c_55)]
          exact x_iret hC hr hw (⟨_, nu22, rfl, (fun _ => (by rw [manyV, kt_t c_1, hcj])), hR, (eqx.trans (L := [0]) (eqx.rf (L := [0])) hnu22 (by decide) (by decide)), hF, (by rw [hk, enu22])⟩) (Nat.le_of_ble_eq_true rfl) (Nat.le_of_ble_eq_true rfl) d_M_many_124
      · exact absurd c_70 (by decide +kernel)

set_option maxHeartbeats 1000000 in
set_option maxRecDepth 100000 in
/-- told -/
theorem c_M_told (l : Launch) (G : xT) (M : xMem) (sz : Nat) (md : Nat) (am : Nat → Nat) (nu : Nat → Nat → Nat) (sg : Nat → Nat → Int32) (hR : mRep G M md am nu sg) (wh : Int32) : xMet l G y_M_told (Cond.code y_M_told b_M_told 2 (Option.some Jvm.ClassFile.FieldType.int) :: x_tbl) { frames := 0, cells := 0, slots := 0, locals := 0 } [.ref md, .int wh] M sz (fun v M' => v = some (.int (toldI nu wh)) ∧ ∃ (nu' : Nat → Nat → Nat) (sg' : Nat → Nat → Int32), mRep G M' md am nu' sg' ∧ eqx [0] nu nu' ∧ eqx [] sg sg' ∧ xfr M M' (mS md am) ∧ nu' 0 0 = 0) (fun _ _ => False) := by
  refine xMet.of (by decide) (Nat.le_of_ble_eq_true rfl) ?_
  intro p e s m below meth c ls hC hr hnm hno hsz hw hl
  obtain ⟨hx, hb, hown, hts, hK, hml, hlk, hz⟩ := id hC
  have hl : lv_has ls 2 [(0, .ref md), (1, .int wh)] := hl
  have hF : xfr M M (mS md am) := xfr.rf
  refine lv_aload_n hx hb d_M_told_0 rfl (lv_at hl 0 rfl) ?_
  refine lv_iconst (v := nI 0) hx hb d_M_told_1 (by decide) ?_
  refine m_put hC hw hR hF 0 0 rfl (by decide) (hts _ k_734) (fun _ h9 => h9) rfl (by decide +kernel) rfl rfl d_M_told_2 (fun M2 H locs nu1 hnu1 enu1 hR hF hw => ?_)
  refine lv_iload_n hx hb d_M_told_5 rfl (lv_at hl 1 rfl) ?_
  refine lv_if_ne (tgt := 16) hx hb d_M_told_6 (by decide) (fun c_6 => ?_) (fun c_6 => ?_)
  · refine lv_iload_n hx hb d_M_told_16 rfl (lv_at hl 1 rfl) ?_
    refine lv_iconst (v := nI 1) hx hb d_M_told_17 (by decide) ?_
    refine lv_icmp_ne (tgt := 28) hx hb d_M_told_18 (by decide) (fun c_18 => ?_) (fun c_18 => ?_)
    · refine lv_iload_n hx hb d_M_told_28 rfl (lv_at hl 1 rfl) ?_
      refine lv_iconst (v := nI 2) hx hb d_M_told_29 (by decide) ?_
      refine lv_icmp_ne (tgt := 40) hx hb d_M_told_30 (by decide) (fun c_30 => ?_) (fun c_30 => ?_)
      · refine lv_iload_n hx hb d_M_told_40 rfl (lv_at hl 1 rfl) ?_
        refine lv_iconst (v := nI 3) hx hb d_M_told_41 (by decide) ?_
        refine lv_icmp_ne (tgt := 52) hx hb d_M_told_42 (by decide) (fun c_42 => ?_) (fun c_42 => ?_)
        · refine lv_iload_n hx hb d_M_told_52 rfl (lv_at hl 1 rfl) ?_
          refine lv_iconst (v := nI 4) hx hb d_M_told_53 (by decide) ?_
          refine lv_icmp_ne (tgt := 64) hx hb d_M_told_54 (by decide) (fun c_54 => ?_) (fun c_54 => ?_)
          · refine lv_iload_n hx hb d_M_told_64 rfl (lv_at hl 1 rfl) ?_
            refine lv_iconst (v := nI 5) hx hb d_M_told_65 (by decide) ?_
            refine lv_icmp_ne (tgt := 76) hx hb d_M_told_66 (by decide) (fun c_66 => ?_) (fun c_66 => ?_)
            · refine lv_iconst (v := (-1)) hx hb d_M_told_76 (by decide) ?_
              exact x_iret hC hr hw (⟨congrArg (fun z => some (Value.int z)) (by rw [toldI, if_neg c_6, if_neg c_18, if_neg c_30, if_neg c_42, if_neg c_54, if_neg c_66]), nu1, sg, hR, (eqx.trans (L := [0]) (eqx.rf (L := [0])) hnu1 (by decide) (by decide)), (eqx.rf (L := [])), hF, (by rw [enu1])⟩) (Nat.le_of_ble_eq_true rfl) (Nat.le_of_ble_eq_true rfl) d_M_told_77
            · refine lv_aload_n hx hb d_M_told_69 rfl (lv_at hl 0 rfl) ?_
              refine x_get hC hw hR.1 rfl 25 (by decide) (hts _ k_759) (fun _ h9 => h9) rfl d_M_told_70 ?_
              refine x_vi (y := nI (nu 25 0)) (by rw [hnu1 25 (by decide)]) ?_
              refine lv_goto (tgt := 77) hx hb d_M_told_73 (by decide) ?_
              exact x_iret hC hr hw (⟨congrArg (fun z => some (Value.int z)) (by rw [toldI, if_neg c_6, if_neg c_18, if_neg c_30, if_neg c_42, if_neg c_54, if_pos c_66]), nu1, sg, hR, (eqx.trans (L := [0]) (eqx.rf (L := [0])) hnu1 (by decide) (by decide)), (eqx.rf (L := [])), hF, (by rw [enu1])⟩) (Nat.le_of_ble_eq_true rfl) (Nat.le_of_ble_eq_true rfl) d_M_told_77
          · refine lv_aload_n hx hb d_M_told_57 rfl (lv_at hl 0 rfl) ?_
            refine x_get hC hw hR.1 rfl 21 (by decide) (hts _ k_755) (fun _ h9 => h9) rfl d_M_told_58 ?_
            refine x_vi (y := nI (nu 21 0)) (by rw [hnu1 21 (by decide)]) ?_
            refine lv_goto (tgt := 77) hx hb d_M_told_61 (by decide) ?_
            exact x_iret hC hr hw (⟨congrArg (fun z => some (Value.int z)) (by rw [toldI, if_neg c_6, if_neg c_18, if_neg c_30, if_neg c_42, if_pos c_54]), nu1, sg, hR, (eqx.trans (L := [0]) (eqx.rf (L := [0])) hnu1 (by decide) (by decide)), (eqx.rf (L := [])), hF, (by rw [enu1])⟩) (Nat.le_of_ble_eq_true rfl) (Nat.le_of_ble_eq_true rfl) d_M_told_77
        · refine lv_aload_n hx hb d_M_told_45 rfl (lv_at hl 0 rfl) ?_
          refine x_get hC hw hR.1 rfl 15 (by decide) (hts _ k_749) (fun _ h9 => h9) rfl d_M_told_46 ?_
          refine x_vi (y := nI (nu 15 0)) (by rw [hnu1 15 (by decide)]) ?_
          refine lv_goto (tgt := 77) hx hb d_M_told_49 (by decide) ?_
          exact x_iret hC hr hw (⟨congrArg (fun z => some (Value.int z)) (by rw [toldI, if_neg c_6, if_neg c_18, if_neg c_30, if_pos c_42]), nu1, sg, hR, (eqx.trans (L := [0]) (eqx.rf (L := [0])) hnu1 (by decide) (by decide)), (eqx.rf (L := [])), hF, (by rw [enu1])⟩) (Nat.le_of_ble_eq_true rfl) (Nat.le_of_ble_eq_true rfl) d_M_told_77
      · refine lv_aload_n hx hb d_M_told_33 rfl (lv_at hl 0 rfl) ?_
        refine x_get hC hw hR.1 rfl 12 (by decide) (hts _ k_746) (fun _ h9 => h9) rfl d_M_told_34 ?_
        refine x_vi (y := nI (nu 12 0)) (by rw [hnu1 12 (by decide)]) ?_
        refine lv_goto (tgt := 77) hx hb d_M_told_37 (by decide) ?_
        exact x_iret hC hr hw (⟨congrArg (fun z => some (Value.int z)) (by rw [toldI, if_neg c_6, if_neg c_18, if_pos c_30]), nu1, sg, hR, (eqx.trans (L := [0]) (eqx.rf (L := [0])) hnu1 (by decide) (by decide)), (eqx.rf (L := [])), hF, (by rw [enu1])⟩) (Nat.le_of_ble_eq_true rfl) (Nat.le_of_ble_eq_true rfl) d_M_told_77
    · refine lv_aload_n hx hb d_M_told_21 rfl (lv_at hl 0 rfl) ?_
      refine x_get hC hw hR.1 rfl 7 (by decide) (hts _ k_741) (fun _ h9 => h9) rfl d_M_told_22 ?_
      refine x_vi (y := nI (nu 7 0)) (by rw [hnu1 7 (by decide)]) ?_
      refine lv_goto (tgt := 77) hx hb d_M_told_25 (by decide) ?_
      exact x_iret hC hr hw (⟨congrArg (fun z => some (Value.int z)) (by rw [toldI, if_neg c_6, if_pos c_18]), nu1, sg, hR, (eqx.trans (L := [0]) (eqx.rf (L := [0])) hnu1 (by decide) (by decide)), (eqx.rf (L := [])), hF, (by rw [enu1])⟩) (Nat.le_of_ble_eq_true rfl) (Nat.le_of_ble_eq_true rfl) d_M_told_77
  · refine lv_aload_n hx hb d_M_told_9 rfl (lv_at hl 0 rfl) ?_
    refine x_get hC hw hR.1 rfl 6 (by decide) (hts _ k_740) (fun _ h9 => h9) rfl d_M_told_10 ?_
    refine x_vi (y := nI (nu 6 0)) (by rw [hnu1 6 (by decide)]) ?_
    refine lv_goto (tgt := 77) hx hb d_M_told_13 (by decide) ?_
    exact x_iret hC hr hw (⟨congrArg (fun z => some (Value.int z)) (by rw [toldI, if_pos c_6]), nu1, sg, hR, (eqx.trans (L := [0]) (eqx.rf (L := [0])) hnu1 (by decide) (by decide)), (eqx.rf (L := [])), hF, (by rw [enu1])⟩) (Nat.le_of_ble_eq_true rfl) (Nat.le_of_ble_eq_true rfl) d_M_told_77
