set_option maxHeartbeats 1000000 in
set_option maxRecDepth 100000 in
/-- cut -/
theorem c_M_cut (l : Launch) (G : xT) (M : xMem) (sz : Nat) (md : Nat) (am : Nat → Nat) (nu : Nat → Nat → Nat) (sg : Nat → Nat → Int32) (hR : mRep G M md am nu sg) (r to fm : Nat) (P : Nat → Prop) (hr24 : r < 24) (hto : to < 24) (hfm : fm ≤ 600) (hs : nu 1 r ≤ 40) (hmk : ∀ k, k < 40 → sg 27 (fm + k) = zI (P k)) : xMet l G y_M_cut (Cond.code y_M_cut b_M_cut 8 none :: x_tbl) { frames := 1, cells := 0, slots := 0, locals := 26 } [.ref md, .int (nI r), .int (nI to), .int (nI fm)] M sz (fun v M' => v = none ∧ ∃ (nu' : Nat → Nat → Nat) (sg' : Nat → Nat → Int32), mRep G M' md am nu' sg' ∧ eqx [1] nu nu' ∧ eqx [2, 3, 4, 5] sg sg' ∧ xfr M M' (mS md am) ∧ nu' 1 = va_up (nu 1) to (kp P (nu 1 r)) ∧ cutI P (40 * to) (nu 1 r) (cV P (nI 0) (sg 2) (40 * r)) (sg 2) (sg' 2) ∧ cutI P (40 * to) (nu 1 r) ((fun i => sg 3 (40 * r + i))) (sg 3) (sg' 3) ∧ cutI P (40 * to) (nu 1 r) ((fun i => sg 4 (40 * r + i))) (sg 4) (sg' 4) ∧ cutI P (40 * to) (nu 1 r) (cV P (nI 100) (sg 5) (40 * r)) (sg 5) (sg' 5)) (fun _ _ => False) := by
  refine xMet.of (by decide) (Nat.le_of_ble_eq_true rfl) ?_
  intro p e s m below meth c ls hC hr hnm hno hsz hw hl
  obtain ⟨hx, hb, hown, hts, hK, hml, hlk, hz⟩ := id hC
  have hl : lv_has ls 8 [(0, .ref md), (1, .int (nI r)), (2, .int (nI to)), (3, .int (nI fm))] := hl
  have hF : xfr M M (mS md am) := xfr.rf
  refine lv_aload_n hx hb d_M_cut_0 rfl (lv_at hl 0 rfl) ?_
  refine x_get hC hw hR.1 rfl 1 (by decide) (hts _ k_735) (fun _ h9 => h9) rfl d_M_cut_1 ?_
  refine lv_iload_n hx hb d_M_cut_4 rfl (lv_at hl 1 rfl) ?_
  refine m_ldN hC hw hR 1 r rfl (rfl) (by show _ < 24; omega) (by decide) d_M_cut_5 ?_
  refine lv_istore (lv' := [(4, .int (nI (nu 1 r))), (0, .ref md), (1, .int (nI r)), (2, .int (nI to)), (3, .int (nI fm))]) hx hb d_M_cut_6 hl (by decide) rfl (fun ls hl => ?_)
  refine lv_aload_n hx hb d_M_cut_8 rfl (lv_at hl 1 rfl) ?_
  refine x_get hC hw hR.1 rfl 1 (by decide) (hts _ k_735) (fun _ h9 => h9) rfl d_M_cut_9 ?_
  refine lv_iload_n hx hb d_M_cut_12 rfl (lv_at hl 3 rfl) ?_
  refine lv_iconst (v := nI 0) hx hb d_M_cut_13 (by decide) ?_
  refine m_stN hC hw hR hF 1 to 0 rfl (rfl) rfl (by show _ < 24; omega) (by decide) d_M_cut_14 (fun M1 H locs nu2 hnu2 enu2 hR hF hw => ?_)
  refine lv_iconst (v := nI 0) hx hb d_M_cut_15 (by decide) ?_
  refine lv_istore (lv' := [(5, .int (nI 0)), (4, .int (nI (nu 1 r))), (0, .ref md), (1, .int (nI r)), (2, .int (nI to)), (3, .int (nI fm))]) hx hb d_M_cut_16 hl (by decide) rfl (fun ls hl => ?_)
  have HL18 : ∀ (z18 k : Nat) (nuL3 : Nat → Nat → Nat) (sgL4 : Nat → Nat → Int32), k ≤ nu 1 r → nu 1 r + 1 ≤ k + z18 → (nuL3 1 = va_up (nu 1) to (kp P k)) → (cutI P (40 * to) k (cV P (nI 0) (sg 2) (40 * r)) (sg 2) (sgL4 2)) → (cutI P (40 * to) k ((fun i => sg 3 (40 * r + i))) (sg 3) (sgL4 3)) → (cutI P (40 * to) k ((fun i => sg 4 (40 * r + i))) (sg 4) (sgL4 4)) → (cutI P (40 * to) k (cV P (nI 100) (sg 5) (40 * r)) (sg 5) (sgL4 5)) → ∀ (M1 : xMem), mRep G M1 md am nuL3 sgL4 → eqx [1] nu2 nuL3 → eqx [2, 3, 4, 5] sg sgL4 → xfr M M1 (mS md am) → ∀ (H : Heap) (locs : List Loc) (ls : Array Slot), xWd G (xA M sz) s.heap M1 H locs → lv_has ls 8 [(0, .ref md), (1, .int (nI r)), (2, .int (nI to)), (3, .int (nI fm)), (4, .int (nI (nu 1 r))), (5, .int (nI k))] → W p l e { frames := 1, cells := 0, slots := 0, locals := 26 } s m ([.ref md, .int (nI r), .int (nI to), .int (nI fm)] : List Value).toArray below meth c H locs 0 0 (xMQ below G M sz (fun v M' => v = none ∧ ∃ (nu' : Nat → Nat → Nat) (sg' : Nat → Nat → Int32), mRep G M' md am nu' sg' ∧ eqx [1] nu nu' ∧ eqx [2, 3, 4, 5] sg sg' ∧ xfr M M' (mS md am) ∧ nu' 1 = va_up (nu 1) to (kp P (nu 1 r)) ∧ cutI P (40 * to) (nu 1 r) (cV P (nI 0) (sg 2) (40 * r)) (sg 2) (sg' 2) ∧ cutI P (40 * to) (nu 1 r) ((fun i => sg 3 (40 * r + i))) (sg 3) (sg' 3) ∧ cutI P (40 * to) (nu 1 r) ((fun i => sg 4 (40 * r + i))) (sg 4) (sg' 4) ∧ cutI P (40 * to) (nu 1 r) (cV P (nI 100) (sg 5) (40 * r)) (sg 5) (sg' 5)) (fun _ _ => False) s 0 0) (F0 m 18 ls []) := by
    intro z18
    induction z18 with
    | zero =>
      intro k  nuL3 sgL4 h1 h2
      omega
    | succ z18 ih18 =>
      intro k  nuL3 sgL4 hi18 hz18 n1 h2 h3 h4 h5 M1 hR hnuL3 hsgL4 hF H locs ls hw hl
      have hkk := kp_le P k
      refine lv_iload hx hb d_M_cut_18 (lv_at hl 5 rfl) ?_
      refine lv_iload hx hb d_M_cut_20 (lv_at hl 4 rfl) ?_
      refine lv_icmp_ge (tgt := 133) hx hb d_M_cut_22 (by decide) (fun c_22 => ?_) (fun c_22 => ?_)
      · have c_22 := (nI_leI (by omega) (by omega)).mp c_22
        exact x_vret hC hr hw (⟨rfl, nuL3, sgL4, hR, (eqx.trans (L := [1]) (eqx.trans (L := [1]) (eqx.rf (L := [1])) hnu2 (by decide) (by decide)) hnuL3 (by decide) (by decide)), (eqx.trans (L := [2, 3, 4, 5]) (eqx.rf (L := [2, 3, 4, 5])) hsgL4 (by decide) (by decide)), hF, (by rw [show nu 1 r = k by omega]; exact n1), (by rw [show nu 1 r = k by omega]; exact h2), (by rw [show nu 1 r = k by omega]; exact h3), (by rw [show nu 1 r = k by omega]; exact h4), (by rw [show nu 1 r = k by omega]; exact h5)⟩) (Nat.le_of_ble_eq_true rfl) (Nat.le_of_ble_eq_true rfl) d_M_cut_133
      · have c_22 := Nat.not_le.mp ((not_congr (nI_leI (by omega) (by omega))).mp c_22)
        refine lv_bipush (v := nI 40) hx hb d_M_cut_25 (by decide) ?_
        refine lv_iload_n hx hb d_M_cut_27 rfl (lv_at hl 1 rfl) ?_
        refine lv_imul hx hb d_M_cut_28 ?_
        refine x_vi (y := nI (40 * r)) (pk_mul _ _) ?_
        refine lv_iload hx hb d_M_cut_29 (lv_at hl 5 rfl) ?_
        refine lv_iadd hx hb d_M_cut_31 ?_
        refine x_vi (y := nI ((40 * r) + k)) (nI_add _ _) ?_
        refine lv_istore (lv' := [(6, .int (nI ((40 * r) + k))), (0, .ref md), (1, .int (nI r)), (2, .int (nI to)), (3, .int (nI fm)), (4, .int (nI (nu 1 r))), (5, .int (nI k))]) hx hb d_M_cut_32 hl (by decide) rfl (fun ls hl => ?_)
        refine lv_aload_n hx hb d_M_cut_34 rfl (lv_at hl 1 rfl) ?_
        refine x_get hC hw hR.1 rfl 27 (by decide) (hts _ k_761) (fun _ h9 => h9) rfl d_M_cut_35 ?_
        refine lv_iload_n hx hb d_M_cut_38 rfl (lv_at hl 4 rfl) ?_
        refine lv_iload hx hb d_M_cut_39 (lv_at hl 6 rfl) ?_
        refine lv_iadd hx hb d_M_cut_41 ?_
        refine x_vi (y := nI (fm + k)) (nI_add _ _) ?_
        refine m_ldZ hC hw hR 27 (fm + k) rfl (rfl) (by show _ < 640; omega) (by decide) d_M_cut_42 ?_
        refine x_vi (y := sg 27 (fm + k)) (by rw [hsgL4 27 (by decide)]) ?_
        refine x_vi (y := zI (P k)) (hmk k (by omega)) ?_
        refine lv_istore (lv' := [(7, .int (zI (P k))), (6, .int (nI ((40 * r) + k))), (0, .ref md), (1, .int (nI r)), (2, .int (nI to)), (3, .int (nI fm)), (4, .int (nI (nu 1 r))), (5, .int (nI k))]) hx hb d_M_cut_43 hl (by decide) rfl (fun ls hl => ?_)
        refine lv_iload hx hb d_M_cut_45 (lv_at hl 0 rfl) ?_
        refine lv_if_ne (tgt := 86) hx hb d_M_cut_47 (by decide) (fun c_47 => ?_) (fun c_47 => ?_)
        · have c_47 := zI_1.mp c_47
          refine lv_iload hx hb d_M_cut_86 (lv_at hl 7 rfl) ?_
          refine lv_if_eq (tgt := 105) hx hb d_M_cut_88 (by decide) (fun c_88 => ?_) (fun c_88 => ?_)
          · have c_88 := (x_eq0 (by omega)).mp c_88
            refine lv_aload_n hx hb d_M_cut_105 rfl (lv_at hl 2 rfl) ?_
            refine lv_iload_n hx hb d_M_cut_106 rfl (lv_at hl 4 rfl) ?_
            refine lv_iconst (v := nI 0) hx hb d_M_cut_107 (by decide) ?_
            refine lv_aload_n hx hb d_M_cut_108 rfl (lv_at hl 2 rfl) ?_
            refine x_get hC hw hR.1 rfl 3 (by decide) (hts _ k_737) (fun _ h9 => h9) rfl d_M_cut_109 ?_
            refine lv_iload hx hb d_M_cut_112 (lv_at hl 1 rfl) ?_
            refine m_ldI hC hw hR 3 ((40 * r) + k) rfl (rfl) (by show _ < 960; omega) (by decide) d_M_cut_114 ?_
            refine x_vi (y := sg 3 (40 * r + k)) (h3.2 _ (by omega)) ?_
            refine lv_aload_n hx hb d_M_cut_115 rfl (lv_at hl 2 rfl) ?_
            refine x_get hC hw hR.1 rfl 4 (by decide) (hts _ k_738) (fun _ h9 => h9) rfl d_M_cut_116 ?_
            refine lv_iload hx hb d_M_cut_119 (lv_at hl 1 rfl) ?_
            refine m_ldI hC hw hR 4 ((40 * r) + k) rfl (rfl) (by show _ < 960; omega) (by decide) d_M_cut_121 ?_
            refine x_vi (y := sg 4 (40 * r + k)) (h4.2 _ (by omega)) ?_
            refine lv_bipush (v := nI 100) hx hb d_M_cut_122 (by decide) ?_
            refine x_callG hC (c_M_lay l G M1 (Array.size H) md am nuL3 sgL4 hR to (nI 0) (sg 3 (40 * r + k)) (sg 4 (40 * r + k)) (nI 100) hto (by rw [n1, va_up_self]; omega)) k_850 k_13 ⟨Nat.le_of_ble_eq_true rfl, Nat.le_of_ble_eq_true rfl⟩ ⟨Nat.le_of_ble_eq_true rfl, Nat.le_of_ble_eq_true rfl⟩ hw hl.1 (Nat.le_of_ble_eq_true rfl) d_M_cut_124 (x_ivV hC k_850 k_847 k_849 kp_23 (show _ ∧ _ ∧ _ = some 5 from by decide +kernel) (x_recv hC hw hR.1 rfl) rfl d_M_cut_124) (fun rv M5 H locs hq hw => ?_) (fun _ _ _ _ _ h _ _ => h.elim)
            obtain ⟨rfl, nu6, sg7, hR, hnu6, hsg7, fr, f1, f2, f3, f4, f5⟩ := hq
            have hF := hF.trans fr (fun _ h => Or.inl h)
            refine W.eq (g2 := F0 m 127 ls []) rfl ?_
            refine lv_iinc (v := nI (k + 1)) (lv' := [(5, .int (nI (k + 1))), (7, .int (zI (P k))), (6, .int (nI ((40 * r) + k))), (0, .ref md), (1, .int (nI r)), (2, .int (nI to)), (3, .int (nI fm)), (4, .int (nI (nu 1 r)))]) hx hb d_M_cut_127 hl (k := 7) rfl (by exact nI_1 _) (by decide) rfl (fun ls hl => ?_)
            refine lv_goto (tgt := 18) hx hb d_M_cut_130 (by decide) ?_
            exact ih18 (k + 1)  nu6 sg7 (by omega) (by omega) (by rw [f1, n1, vuu, va_up_self, kp_t (Or.inr (Or.inl c_88))]) (h2.yes (Or.inr (Or.inl c_88)) (by rw [f2, n1, va_up_self]) (cV_t c_47).symm) (h3.yes (Or.inr (Or.inl c_88)) (by rw [f3, n1, va_up_self]) rfl) (h4.yes (Or.inr (Or.inl c_88)) (by rw [f4, n1, va_up_self]) rfl) (h5.yes (Or.inr (Or.inl c_88)) (by rw [f5, n1, va_up_self]) (cV_t c_47).symm) _ hR (eqx.trans (L := [1]) (eqx.trans (L := [1]) (eqx.rf (L := [1])) hnuL3 (by decide) (by decide)) hnu6 (by decide) (by decide)) (eqx.trans (L := [2, 3, 4, 5]) (eqx.trans (L := [2, 3, 4, 5]) (eqx.rf (L := [2, 3, 4, 5])) hsgL4 (by decide) (by decide)) hsg7 (by decide) (by decide)) hF _ _ _ hw (lv_sub hl [3, 4, 5, 6, 7, 0] rfl)
          · have c_88 := (not_congr (x_eq0 (by omega))).mp c_88
            refine lv_aload_n hx hb d_M_cut_91 rfl (lv_at hl 2 rfl) ?_
            refine x_get hC hw hR.1 rfl 27 (by decide) (hts _ k_761) (fun _ h9 => h9) rfl d_M_cut_92 ?_
            refine lv_iload_n hx hb d_M_cut_95 rfl (lv_at hl 5 rfl) ?_
            refine lv_iload hx hb d_M_cut_96 (lv_at hl 7 rfl) ?_
            refine lv_iadd hx hb d_M_cut_98 ?_
            refine x_vi (y := nI (fm + k)) (nI_add _ _) ?_
            refine lv_iconst (v := nI 1) hx hb d_M_cut_99 (by decide) ?_
            refine lv_isub hx hb d_M_cut_100 ?_
            refine x_vi (y := nI ((fm + k) - 1)) (x_sub (by omega)) ?_
            refine m_ldZ hC hw hR 27 ((fm + k) - 1) rfl (rfl) (by show _ < 640; omega) (by decide) d_M_cut_101 ?_
            refine x_vi (y := sg 27 ((fm + k) - 1)) (by rw [hsgL4 27 (by decide)]) ?_
            refine x_vi (y := zI (P (k - 1))) (by rw [show fm + k - 1 = fm + (k - 1) by omega]; exact hmk (k - 1) (by omega)) ?_
            refine lv_if_ne (tgt := 127) hx hb d_M_cut_102 (by decide) (fun c_102 => ?_) (fun c_102 => ?_)
            · have c_102 := zI_1.mp c_102
              refine lv_iinc (v := nI (k + 1)) (lv' := [(5, .int (nI (k + 1))), (7, .int (zI (P k))), (6, .int (nI ((40 * r) + k))), (0, .ref md), (1, .int (nI r)), (2, .int (nI to)), (3, .int (nI fm)), (4, .int (nI (nu 1 r)))]) hx hb d_M_cut_127 hl (k := 7) rfl (by exact nI_1 _) (by decide) rfl (fun ls hl => ?_)
              refine lv_goto (tgt := 18) hx hb d_M_cut_130 (by decide) ?_
              exact ih18 (k + 1)  nuL3 sgL4 (by omega) (by omega) (by rw [kp_f (fun z => z.elim (not_not_intro c_47) (fun z => z.elim c_88 (not_not_intro c_102)))]; exact n1) (h2.no (fun z => z.elim (not_not_intro c_47) (fun z => z.elim c_88 (not_not_intro c_102)))) (h3.no (fun z => z.elim (not_not_intro c_47) (fun z => z.elim c_88 (not_not_intro c_102)))) (h4.no (fun z => z.elim (not_not_intro c_47) (fun z => z.elim c_88 (not_not_intro c_102)))) (h5.no (fun z => z.elim (not_not_intro c_47) (fun z => z.elim c_88 (not_not_intro c_102)))) _ hR (eqx.trans (L := [1]) (eqx.rf (L := [1])) hnuL3 (by decide) (by decide)) (eqx.trans (L := [2, 3, 4, 5]) (eqx.rf (L := [2, 3, 4, 5])) hsgL4 (by decide) (by decide)) hF _ _ _ hw (lv_sub hl [3, 4, 5, 6, 7, 0] rfl)
            · have c_102 := zI_0.mp c_102
              refine lv_aload_n hx hb d_M_cut_105 rfl (lv_at hl 2 rfl) ?_
              refine lv_iload_n hx hb d_M_cut_106 rfl (lv_at hl 4 rfl) ?_
              refine lv_iconst (v := nI 0) hx hb d_M_cut_107 (by decide) ?_
              refine lv_aload_n hx hb d_M_cut_108 rfl (lv_at hl 2 rfl) ?_
              refine x_get hC hw hR.1 rfl 3 (by decide) (hts _ k_737) (fun _ h9 => h9) rfl d_M_cut_109 ?_
              refine lv_iload hx hb d_M_cut_112 (lv_at hl 1 rfl) ?_
              refine m_ldI hC hw hR 3 ((40 * r) + k) rfl (rfl) (by show _ < 960; omega) (by decide) d_M_cut_114 ?_
              refine x_vi (y := sg 3 (40 * r + k)) (h3.2 _ (by omega)) ?_
              refine lv_aload_n hx hb d_M_cut_115 rfl (lv_at hl 2 rfl) ?_
              refine x_get hC hw hR.1 rfl 4 (by decide) (hts _ k_738) (fun _ h9 => h9) rfl d_M_cut_116 ?_
              refine lv_iload hx hb d_M_cut_119 (lv_at hl 1 rfl) ?_
              refine m_ldI hC hw hR 4 ((40 * r) + k) rfl (rfl) (by show _ < 960; omega) (by decide) d_M_cut_121 ?_
              refine x_vi (y := sg 4 (40 * r + k)) (h4.2 _ (by omega)) ?_
              refine lv_bipush (v := nI 100) hx hb d_M_cut_122 (by decide) ?_
              refine x_callG hC (c_M_lay l G M1 (Array.size H) md am nuL3 sgL4 hR to (nI 0) (sg 3 (40 * r + k)) (sg 4 (40 * r + k)) (nI 100) hto (by rw [n1, va_up_self]; omega)) k_850 k_13 ⟨Nat.le_of_ble_eq_true rfl, Nat.le_of_ble_eq_true rfl⟩ ⟨Nat.le_of_ble_eq_true rfl, Nat.le_of_ble_eq_true rfl⟩ hw hl.1 (Nat.le_of_ble_eq_true rfl) d_M_cut_124 (x_ivV hC k_850 k_847 k_849 kp_23 (show _ ∧ _ ∧ _ = some 5 from by decide +kernel) (x_recv hC hw hR.1 rfl) rfl d_M_cut_124) (fun rv M8 H locs hq hw => ?_) (fun _ _ _ _ _ h _ _ => h.elim)
              obtain ⟨rfl, nu9, sg10, hR, hnu9, hsg10, fr, f1, f2, f3, f4, f5⟩ := hq
              have hF := hF.trans fr (fun _ h => Or.inl h)
              refine W.eq (g2 := F0 m 127 ls []) rfl ?_
              refine lv_iinc (v := nI (k + 1)) (lv' := [(5, .int (nI (k + 1))), (7, .int (zI (P k))), (6, .int (nI ((40 * r) + k))), (0, .ref md), (1, .int (nI r)), (2, .int (nI to)), (3, .int (nI fm)), (4, .int (nI (nu 1 r)))]) hx hb d_M_cut_127 hl (k := 7) rfl (by exact nI_1 _) (by decide) rfl (fun ls hl => ?_)
              refine lv_goto (tgt := 18) hx hb d_M_cut_130 (by decide) ?_
              exact ih18 (k + 1)  nu9 sg10 (by omega) (by omega) (by rw [f1, n1, vuu, va_up_self, kp_t (Or.inr (Or.inr c_102))]) (h2.yes (Or.inr (Or.inr c_102)) (by rw [f2, n1, va_up_self]) (cV_t c_47).symm) (h3.yes (Or.inr (Or.inr c_102)) (by rw [f3, n1, va_up_self]) rfl) (h4.yes (Or.inr (Or.inr c_102)) (by rw [f4, n1, va_up_self]) rfl) (h5.yes (Or.inr (Or.inr c_102)) (by rw [f5, n1, va_up_self]) (cV_t c_47).symm) _ hR (eqx.trans (L := [1]) (eqx.trans (L := [1]) (eqx.rf (L := [1])) hnuL3 (by decide) (by decide)) hnu9 (by decide) (by decide)) (eqx.trans (L := [2, 3, 4, 5]) (eqx.trans (L := [2, 3, 4, 5]) (eqx.rf (L := [2, 3, 4, 5])) hsgL4 (by decide) (by decide)) hsg10 (by decide) (by decide)) hF _ _ _ hw (lv_sub hl [3, 4, 5, 6, 7, 0] rfl)
        · have c_47 := zI_0.mp c_47
          refine lv_aload_n hx hb d_M_cut_50 rfl (lv_at hl 2 rfl) ?_
          refine lv_iload_n hx hb d_M_cut_51 rfl (lv_at hl 4 rfl) ?_
          refine lv_aload_n hx hb d_M_cut_52 rfl (lv_at hl 2 rfl) ?_
          refine x_get hC hw hR.1 rfl 2 (by decide) (hts _ k_736) (fun _ h9 => h9) rfl d_M_cut_53 ?_
          refine lv_iload hx hb d_M_cut_56 (lv_at hl 1 rfl) ?_
          refine m_ldI hC hw hR 2 ((40 * r) + k) rfl (rfl) (by show _ < 960; omega) (by decide) d_M_cut_58 ?_
          refine x_vi (y := sg 2 (40 * r + k)) (h2.2 _ (by omega)) ?_
          refine lv_aload_n hx hb d_M_cut_59 rfl (lv_at hl 2 rfl) ?_
          refine x_get hC hw hR.1 rfl 3 (by decide) (hts _ k_737) (fun _ h9 => h9) rfl d_M_cut_60 ?_
          refine lv_iload hx hb d_M_cut_63 (lv_at hl 1 rfl) ?_
          refine m_ldI hC hw hR 3 ((40 * r) + k) rfl (rfl) (by show _ < 960; omega) (by decide) d_M_cut_65 ?_
          refine x_vi (y := sg 3 (40 * r + k)) (h3.2 _ (by omega)) ?_
          refine lv_aload_n hx hb d_M_cut_66 rfl (lv_at hl 2 rfl) ?_
          refine x_get hC hw hR.1 rfl 4 (by decide) (hts _ k_738) (fun _ h9 => h9) rfl d_M_cut_67 ?_
          refine lv_iload hx hb d_M_cut_70 (lv_at hl 1 rfl) ?_
          refine m_ldI hC hw hR 4 ((40 * r) + k) rfl (rfl) (by show _ < 960; omega) (by decide) d_M_cut_72 ?_
          refine x_vi (y := sg 4 (40 * r + k)) (h4.2 _ (by omega)) ?_
          refine lv_aload_n hx hb d_M_cut_73 rfl (lv_at hl 2 rfl) ?_
          refine x_get hC hw hR.1 rfl 5 (by decide) (hts _ k_739) (fun _ h9 => h9) rfl d_M_cut_74 ?_
          refine lv_iload hx hb d_M_cut_77 (lv_at hl 1 rfl) ?_
          refine m_ldI hC hw hR 5 ((40 * r) + k) rfl (rfl) (by show _ < 960; omega) (by decide) d_M_cut_79 ?_
          refine x_vi (y := sg 5 (40 * r + k)) (h5.2 _ (by omega)) ?_
          refine x_callG hC (c_M_lay l G M1 (Array.size H) md am nuL3 sgL4 hR to (sg 2 (40 * r + k)) (sg 3 (40 * r + k)) (sg 4 (40 * r + k)) (sg 5 (40 * r + k)) hto (by rw [n1, va_up_self]; omega)) k_850 k_13 ⟨Nat.le_of_ble_eq_true rfl, Nat.le_of_ble_eq_true rfl⟩ ⟨Nat.le_of_ble_eq_true rfl, Nat.le_of_ble_eq_true rfl⟩ hw hl.1 (Nat.le_of_ble_eq_true rfl) d_M_cut_80 (x_ivV hC k_850 k_847 k_849 kp_23 (show _ ∧ _ ∧ _ = some 5 from by decide +kernel) (x_recv hC hw hR.1 rfl) rfl d_M_cut_80) (fun rv M11 H locs hq hw => ?_) (fun _ _ _ _ _ h _ _ => h.elim)
          obtain ⟨rfl, nu12, sg13, hR, hnu12, hsg13, fr, f1, f2, f3, f4, f5⟩ := hq
          have hF := hF.trans fr (fun _ h => Or.inl h)
          refine W.eq (g2 := F0 m 83 ls []) rfl ?_
          refine lv_goto (tgt := 127) hx hb d_M_cut_83 (by decide) ?_
          refine lv_iinc (v := nI (k + 1)) (lv' := [(5, .int (nI (k + 1))), (7, .int (zI (P k))), (6, .int (nI ((40 * r) + k))), (0, .ref md), (1, .int (nI r)), (2, .int (nI to)), (3, .int (nI fm)), (4, .int (nI (nu 1 r)))]) hx hb d_M_cut_127 hl (k := 7) rfl (by exact nI_1 _) (by decide) rfl (fun ls hl => ?_)
          refine lv_goto (tgt := 18) hx hb d_M_cut_130 (by decide) ?_
          exact ih18 (k + 1)  nu12 sg13 (by omega) (by omega) (by rw [f1, n1, vuu, va_up_self, kp_t (Or.inl c_47)]) (h2.yes (Or.inl c_47) (by rw [f2, n1, va_up_self]) (cV_f c_47).symm) (h3.yes (Or.inl c_47) (by rw [f3, n1, va_up_self]) rfl) (h4.yes (Or.inl c_47) (by rw [f4, n1, va_up_self]) rfl) (h5.yes (Or.inl c_47) (by rw [f5, n1, va_up_self]) (cV_f c_47).symm) _ hR (eqx.trans (L := [1]) (eqx.trans (L := [1]) (eqx.rf (L := [1])) hnuL3 (by decide) (by decide)) hnu12 (by decide) (by decide)) (eqx.trans (L := [2, 3, 4, 5]) (eqx.trans (L := [2, 3, 4, 5]) (eqx.rf (L := [2, 3, 4, 5])) hsgL4 (by decide) (by decide)) hsg13 (by decide) (by decide)) hF _ _ _ hw (lv_sub hl [3, 4, 5, 6, 7, 0] rfl)
  exact HL18 (nu 1 r + 1) (0)  nu2 sg (by omega) (by omega) (by rw [enu2]; rfl) (cutI.zero) (cutI.zero) (cutI.zero) (cutI.zero) _ hR eqx.rf eqx.rf hF _ _ _ hw (lv_sub hl [2, 3, 4, 5, 1, 0] rfl)

set_option maxHeartbeats 1000000 in
set_option maxRecDepth 100000 in
/-- takeStore, encoding 0 -/
theorem c_M_takeStore0 (l : Launch) (G : xT) (M : xMem) (sz : Nat) (md : Nat) (am : Nat → Nat) (nu : Nat → Nat → Nat) (sg : Nat → Nat → Int32) (hR : mRep G M md am nu sg) (st0 : Nat) (hs8 : st0 < 8) (hs : nu 23 st0 ≤ 60) : xMet l G y_M_takeStore (Cond.code y_M_takeStore b_M_takeStore 9 (Option.some Jvm.ClassFile.FieldType.boolean) :: x_tbl) { frames := 2, cells := 0, slots := 0, locals := 48 } [.ref md, .int (nI st0), .int (nI 0)] M sz (fun v M' => v = some (.int (zI (wellP (sg 24) 0 (60 * st0) (nu 23 st0)))) ∧ ∃ (nu' : Nat → Nat → Nat) (sg' : Nat → Nat → Int32), mRep G M' md am nu' sg' ∧ eqx [29] nu nu' ∧ eqx [30] sg sg' ∧ xfr M M' (mS md am) ∧ (wellP (sg 24) 0 (60 * st0) (nu 23 st0) → nu' 29 0 = stN 0 (nu 23 st0) ∧ ∀ j, j < stN 0 (nu 23 st0) → sg' 30 j = sRow (sg 24) 0 (60 * st0) j)) (fun _ _ => False) := by
  refine xMet.of (by decide) (Nat.le_of_ble_eq_true rfl) ?_
  intro p e s m below meth c ls hC hr hnm hno hsz hw hl
  obtain ⟨hx, hb, hown, hts, hK, hml, hlk, hz⟩ := id hC
  have hl : lv_has ls 9 [(0, .ref md), (1, .int (nI st0)), (2, .int (nI 0))] := hl
  have hF : xfr M M (mS md am) := xfr.rf
  refine lv_aload_n hx hb d_M_takeStore_0 rfl (lv_at hl 0 rfl) ?_
  refine x_get hC hw hR.1 rfl 23 (by decide) (hts _ k_757) (fun _ h9 => h9) rfl d_M_takeStore_1 ?_
  refine lv_iload_n hx hb d_M_takeStore_4 rfl (lv_at hl 1 rfl) ?_
  refine m_ldN hC hw hR 23 st0 rfl (rfl) (by show _ < 8; omega) (by decide) d_M_takeStore_5 ?_
  refine lv_istore_n (lv' := [(3, .int (nI (nu 23 st0))), (0, .ref md), (1, .int (nI st0)), (2, .int (nI 0))]) hx hb d_M_takeStore_6 rfl hl (by decide) rfl (fun ls hl => ?_)
  refine lv_aload_n hx hb d_M_takeStore_7 rfl (lv_at hl 1 rfl) ?_
  refine lv_iconst (v := nI 0) hx hb d_M_takeStore_8 (by decide) ?_
  refine m_put hC hw hR hF 29 0 rfl (by decide) (hts _ k_763) (fun _ h9 => h9) rfl (by decide +kernel) rfl rfl d_M_takeStore_9 (fun M2 H locs nu1 hnu1 enu1 hR hF hw => ?_)
  refine lv_iload_n hx hb d_M_takeStore_12 rfl (lv_at hl 3 rfl) ?_
  refine lv_if_le (tgt := 24) hx hb d_M_takeStore_13 (by decide) (fun c_13 => ?_) (fun c_13 => ?_)
  · refine lv_iload_n hx hb d_M_takeStore_24 rfl (lv_at hl 3 rfl) ?_
    refine lv_if_ne (tgt := 32) hx hb d_M_takeStore_25 (by decide) (fun c_25 => ?_) (fun c_25 => ?_)
    · exact absurd c_25 (by decide +kernel)
    · refine lv_iconst (v := nI 1) hx hb d_M_takeStore_28 (by decide) ?_
      refine lv_goto (tgt := 33) hx hb d_M_takeStore_29 (by decide) ?_
      refine lv_istore (lv' := [(4, .int (nI 1)), (3, .int (nI (nu 23 st0))), (0, .ref md), (1, .int (nI st0)), (2, .int (nI 0))]) hx hb d_M_takeStore_33 hl (by decide) rfl (fun ls hl => ?_)
      refine lv_iconst (v := nI 0) hx hb d_M_takeStore_35 (by decide) ?_
      refine lv_istore (lv' := [(5, .int (nI 0)), (4, .int (nI 1)), (3, .int (nI (nu 23 st0))), (0, .ref md), (1, .int (nI st0)), (2, .int (nI 0))]) hx hb d_M_takeStore_36 hl (by decide) rfl (fun ls hl => ?_)
      have HL38 : ∀ (z38 i : Nat) (nuL3 : Nat → Nat → Nat) (sgL4 : Nat → Nat → Int32), i ≤ nu 23 st0 → nu 23 st0 + 1 ≤ i + z38 → (nuL3 29 = (fun _ => i)) → (∀ j, j < i → goodP 0 (sg 24 (60 * st0 + stI 0 j)) (sg 24 (60 * st0 + stI 0 j + 1))) → (∀ j, j < i → sgL4 30 j = sRow (sg 24) 0 (60 * st0) j) → ∀ (M1 : xMem), mRep G M1 md am nuL3 sgL4 → eqx [29] nu1 nuL3 → eqx [30] sg sgL4 → xfr M M1 (mS md am) → ∀ (H : Heap) (locs : List Loc) (ls : Array Slot), xWd G (xA M sz) s.heap M1 H locs → lv_has ls 9 [(0, .ref md), (1, .int (nI st0)), (2, .int (nI 0)), (3, .int (nI (nu 23 st0))), (4, .int (nI 1)), (5, .int (nI i))] → W p l e { frames := 2, cells := 0, slots := 0, locals := 48 } s m ([.ref md, .int (nI st0), .int (nI 0)] : List Value).toArray below meth c H locs 0 0 (xMQ below G M sz (fun v M' => v = some (.int (zI (wellP (sg 24) 0 (60 * st0) (nu 23 st0)))) ∧ ∃ (nu' : Nat → Nat → Nat) (sg' : Nat → Nat → Int32), mRep G M' md am nu' sg' ∧ eqx [29] nu nu' ∧ eqx [30] sg sg' ∧ xfr M M' (mS md am) ∧ (wellP (sg 24) 0 (60 * st0) (nu 23 st0) → nu' 29 0 = stN 0 (nu 23 st0) ∧ ∀ j, j < stN 0 (nu 23 st0) → sg' 30 j = sRow (sg 24) 0 (60 * st0) j)) (fun _ _ => False) s 0 0) (F0 m 38 ls []) := by
        intro z38
        induction z38 with
        | zero =>
          intro i  nuL3 sgL4 h1 h2
          omega
        | succ z38 ih38 =>
          intro i  nuL3 sgL4 hi38 hz38 h29 hgd hrw M1 hR hnuL3 hsgL4 hF H locs ls hw hl
          refine lv_iload hx hb d_M_takeStore_38 (lv_at hl 5 rfl) ?_
          refine lv_iload_n hx hb d_M_takeStore_40 rfl (lv_at hl 3 rfl) ?_
          refine lv_icmp_ge (tgt := 210) hx hb d_M_takeStore_41 (by decide) (fun c_41 => ?_) (fun c_41 => ?_)
          · have c_41 := (nI_leI (by omega) (by omega)).mp c_41
            refine lv_iconst (v := nI 1) hx hb d_M_takeStore_210 (by decide) ?_
            have hen : i = stN 0 (nu 23 st0) := by simp only [stN]; omega
            have hyes : wellP (sg 24) 0 (60 * st0) (nu 23 st0) := ⟨by omega, fun j hj => hgd j (by omega)⟩
            exact x_zret hC hr hw (by first | exact zI_narV _ | rfl | assumption | decide +kernel) (⟨congrArg (fun z => some (Value.int z)) (zI_t hyes).symm, nuL3, sgL4, hR, (eqx.trans (L := [29]) (eqx.trans (L := [29]) (eqx.rf (L := [29])) hnu1 (by decide) (by decide)) hnuL3 (by decide) (by decide)), (eqx.trans (L := [30]) (eqx.rf (L := [30])) hsgL4 (by decide) (by decide)), hF, fun _ => ⟨(by rw [h29, hen]), fun j hj => hrw j (by omega)⟩⟩) (Nat.le_of_ble_eq_true rfl) (Nat.le_of_ble_eq_true rfl) d_M_takeStore_211
          · have c_41 := Nat.not_le.mp ((not_congr (nI_leI (by omega) (by omega))).mp c_41)
            refine lv_aload_n hx hb d_M_takeStore_44 rfl (lv_at hl 0 rfl) ?_
            refine x_get hC hw hR.1 rfl 24 (by decide) (hts _ k_758) (fun _ h9 => h9) rfl d_M_takeStore_45 ?_
            refine lv_bipush (v := nI 60) hx hb d_M_takeStore_48 (by decide) ?_
            refine lv_iload_n hx hb d_M_takeStore_50 rfl (lv_at hl 1 rfl) ?_
            refine lv_imul hx hb d_M_takeStore_51 ?_
            refine x_vi (y := nI (60 * st0)) (pk_mul _ _) ?_
            refine lv_iload hx hb d_M_takeStore_52 (lv_at hl 5 rfl) ?_
            refine lv_iadd hx hb d_M_takeStore_54 ?_
            refine x_vi (y := nI ((60 * st0) + i)) (nI_add _ _) ?_
            refine m_ldI hC hw hR 24 ((60 * st0) + i) rfl (rfl) (by show _ < 480; omega) (by decide) d_M_takeStore_55 ?_
            refine x_vi (y := sg 24 ((60 * st0) + i)) (by rw [hsgL4 24 (by decide)]) ?_
            refine lv_istore (lv' := [(6, .int (sg 24 ((60 * st0) + i))), (0, .ref md), (1, .int (nI st0)), (2, .int (nI 0)), (3, .int (nI (nu 23 st0))), (4, .int (nI 1)), (5, .int (nI i))]) hx hb d_M_takeStore_56 hl (by decide) rfl (fun ls hl => ?_)
            refine lv_iload hx hb d_M_takeStore_58 (lv_at hl 5 rfl) ?_
            refine lv_iconst (v := nI 1) hx hb d_M_takeStore_60 (by decide) ?_
            refine lv_icmp_ne (tgt := 68) hx hb d_M_takeStore_61 (by decide) (fun c_61 => ?_) (fun c_61 => ?_)
            · exact absurd c_61 (by decide +kernel)
            · refine lv_iconst (v := nI 0) hx hb d_M_takeStore_64 (by decide) ?_
              refine lv_goto (tgt := 82) hx hb d_M_takeStore_65 (by decide) ?_
              refine lv_istore (lv' := [(7, .int (nI 0)), (6, .int (sg 24 ((60 * st0) + i))), (0, .ref md), (1, .int (nI st0)), (2, .int (nI 0)), (3, .int (nI (nu 23 st0))), (4, .int (nI 1)), (5, .int (nI i))]) hx hb d_M_takeStore_82 hl (by decide) rfl (fun ls hl => ?_)
              refine lv_iload_n hx hb d_M_takeStore_84 rfl (lv_at hl 4 rfl) ?_
              refine lv_if_eq (tgt := 129) hx hb d_M_takeStore_85 (by decide) (fun c_85 => ?_) (fun c_85 => ?_)
              · refine lv_iconst (v := nI 1) hx hb d_M_takeStore_129 (by decide) ?_
                refine lv_goto (tgt := 134) hx hb d_M_takeStore_130 (by decide) ?_
                refine lv_istore (lv' := [(8, .int (nI 1)), (7, .int (nI 0)), (6, .int (sg 24 ((60 * st0) + i))), (0, .ref md), (1, .int (nI st0)), (2, .int (nI 0)), (3, .int (nI (nu 23 st0))), (4, .int (nI 1)), (5, .int (nI i))]) hx hb d_M_takeStore_134 hl (by decide) rfl (fun ls hl => ?_)
                refine lv_iload hx hb d_M_takeStore_136 (lv_at hl 0 rfl) ?_
                refine lv_if_ne (tgt := 143) hx hb d_M_takeStore_138 (by decide) (fun c_138 => ?_) (fun c_138 => ?_)
                · refine lv_aload_n hx hb d_M_takeStore_143 rfl (lv_at hl 3 rfl) ?_
                  refine x_get hC hw hR.1 rfl 30 (by decide) (hts _ k_764) (fun _ h9 => h9) rfl d_M_takeStore_144 ?_
                  refine lv_aload_n hx hb d_M_takeStore_147 rfl (lv_at hl 3 rfl) ?_
                  refine x_get hC hw hR.1 rfl 29 (by decide) (hts _ k_763) (fun _ h9 => h9) rfl d_M_takeStore_148 ?_
                  refine x_vi (y := nI i) (by rw [h29]) ?_
                  refine lv_iload_n hx hb d_M_takeStore_151 rfl (lv_at hl 5 rfl) ?_
                  refine lv_if_eq (tgt := 160) hx hb d_M_takeStore_152 (by decide) (fun c_152 => ?_) (fun c_152 => ?_)
                  · refine lv_iload hx hb d_M_takeStore_160 (lv_at hl 2 rfl) ?_
                    refine lv_goto (tgt := 189) hx hb d_M_takeStore_162 (by decide) ?_
                    refine m_stI hC hw hR hF 30 i rfl (rfl) (by show _ < 60; omega) (by decide) d_M_takeStore_189 (fun M5 H locs sg6 hsg6 esg6 hR hF hw => ?_)
                    refine lv_aload_n hx hb d_M_takeStore_190 rfl (lv_at hl 3 rfl) ?_
                    refine lv_dup hx hb d_M_takeStore_191 rfl ?_
                    refine x_get hC hw hR.1 rfl 29 (by decide) (hts _ k_763) (fun _ h9 => h9) rfl d_M_takeStore_192 ?_
                    refine x_vi (y := nI i) (by rw [h29]) ?_
                    refine lv_iconst (v := nI 1) hx hb d_M_takeStore_195 (by decide) ?_
                    refine lv_iadd hx hb d_M_takeStore_196 ?_
                    refine x_vi (y := nI (i + 1)) (nI_add _ _) ?_
                    refine m_put hC hw hR hF 29 (i + 1) rfl (by decide) (hts _ k_763) (fun _ h9 => h9) rfl (by decide +kernel) rfl rfl d_M_takeStore_197 (fun M8 H locs nu7 hnu7 enu7 hR hF hw => ?_)
                    refine lv_iload hx hb d_M_takeStore_200 (lv_at hl 8 rfl) ?_
                    refine lv_iload hx hb d_M_takeStore_202 (lv_at hl 7 rfl) ?_
                    refine lv_iadd hx hb d_M_takeStore_204 ?_
                    refine x_vi (y := nI (i + 1)) (nI_add _ _) ?_
                    refine lv_istore (lv' := [(5, .int (nI (i + 1))), (8, .int (nI 1)), (7, .int (nI 0)), (6, .int (sg 24 ((60 * st0) + i))), (0, .ref md), (1, .int (nI st0)), (2, .int (nI 0)), (3, .int (nI (nu 23 st0))), (4, .int (nI 1))]) hx hb d_M_takeStore_205 hl (by decide) rfl (fun ls hl => ?_)
                    refine lv_goto (tgt := 38) hx hb d_M_takeStore_207 (by decide) ?_
                    exact ih38 (i + 1)  nu7 sg6 (by omega) (by omega) (enu7) (x_all1 hgd (Or.inl rfl)) (x_upS (f := sRow (sg 24) 0 (60 * st0)) hrw esg6 rfl) _ hR (eqx.trans (L := [29]) (eqx.trans (L := [29]) (eqx.rf (L := [29])) hnuL3 (by decide) (by decide)) hnu7 (by decide) (by decide)) (eqx.trans (L := [30]) (eqx.trans (L := [30]) (eqx.rf (L := [30])) hsgL4 (by decide) (by decide)) hsg6 (by decide) (by decide)) hF _ _ _ hw (lv_sub hl [4, 5, 6, 7, 8, 0] rfl)
                  · exact absurd c_152 (by decide +kernel)
                · exact absurd c_138 (by decide +kernel)
              · exact absurd c_85 (by decide +kernel)
      exact HL38 (nu 23 st0 + 1) (0)  nu1 sg (by omega) (by omega) (enu1) (fun j hj => absurd hj (Nat.not_lt_zero j)) (fun j hj => absurd hj (Nat.not_lt_zero j)) _ hR eqx.rf eqx.rf hF _ _ _ hw (lv_sub hl [3, 4, 5, 2, 1, 0] rfl)
  · exact absurd c_13 (by decide +kernel)

set_option maxHeartbeats 1000000 in
set_option maxRecDepth 100000 in
/-- takeStore, encoding 1 -/
theorem c_M_takeStore1 (l : Launch) (G : xT) (M : xMem) (sz : Nat) (md : Nat) (am : Nat → Nat) (nu : Nat → Nat → Nat) (sg : Nat → Nat → Int32) (hR : mRep G M md am nu sg) (st0 : Nat) (hs8 : st0 < 8) (hs : nu 23 st0 ≤ 60) : xMet l G y_M_takeStore (Cond.code y_M_takeStore b_M_takeStore 9 (Option.some Jvm.ClassFile.FieldType.boolean) :: x_tbl) { frames := 2, cells := 0, slots := 0, locals := 48 } [.ref md, .int (nI st0), .int (nI 1)] M sz (fun v M' => v = some (.int (zI (wellP (sg 24) 1 (60 * st0) (nu 23 st0)))) ∧ ∃ (nu' : Nat → Nat → Nat) (sg' : Nat → Nat → Int32), mRep G M' md am nu' sg' ∧ eqx [29] nu nu' ∧ eqx [30] sg sg' ∧ xfr M M' (mS md am) ∧ (wellP (sg 24) 1 (60 * st0) (nu 23 st0) → nu' 29 0 = stN 1 (nu 23 st0) ∧ ∀ j, j < stN 1 (nu 23 st0) → sg' 30 j = sRow (sg 24) 1 (60 * st0) j)) (fun _ _ => False) := by
  refine xMet.of (by decide) (Nat.le_of_ble_eq_true rfl) ?_
  intro p e s m below meth c ls hC hr hnm hno hsz hw hl
  obtain ⟨hx, hb, hown, hts, hK, hml, hlk, hz⟩ := id hC
  have hl : lv_has ls 9 [(0, .ref md), (1, .int (nI st0)), (2, .int (nI 1))] := hl
  have hF : xfr M M (mS md am) := xfr.rf
  refine lv_aload_n hx hb d_M_takeStore_0 rfl (lv_at hl 0 rfl) ?_
  refine x_get hC hw hR.1 rfl 23 (by decide) (hts _ k_757) (fun _ h9 => h9) rfl d_M_takeStore_1 ?_
  refine lv_iload_n hx hb d_M_takeStore_4 rfl (lv_at hl 1 rfl) ?_
  refine m_ldN hC hw hR 23 st0 rfl (rfl) (by show _ < 8; omega) (by decide) d_M_takeStore_5 ?_
  refine lv_istore_n (lv' := [(3, .int (nI (nu 23 st0))), (0, .ref md), (1, .int (nI st0)), (2, .int (nI 1))]) hx hb d_M_takeStore_6 rfl hl (by decide) rfl (fun ls hl => ?_)
  refine lv_aload_n hx hb d_M_takeStore_7 rfl (lv_at hl 1 rfl) ?_
  refine lv_iconst (v := nI 0) hx hb d_M_takeStore_8 (by decide) ?_
  refine m_put hC hw hR hF 29 0 rfl (by decide) (hts _ k_763) (fun _ h9 => h9) rfl (by decide +kernel) rfl rfl d_M_takeStore_9 (fun M2 H locs nu1 hnu1 enu1 hR hF hw => ?_)
  refine lv_iload_n hx hb d_M_takeStore_12 rfl (lv_at hl 3 rfl) ?_
  refine lv_if_le (tgt := 24) hx hb d_M_takeStore_13 (by decide) (fun c_13 => ?_) (fun c_13 => ?_)
  · exact absurd c_13 (by decide +kernel)
  · refine lv_iload_n hx hb d_M_takeStore_16 rfl (lv_at hl 0 rfl) ?_
    refine lv_iconst (v := nI 2) hx hb d_M_takeStore_17 (by decide) ?_
    refine lv_irem hx hb d_M_takeStore_18 (by decide +kernel) ?_
    refine x_vi (y := nI ((nu 23 st0) % 2)) (x_rem (by omega) (by omega)) ?_
    refine lv_if_eq (tgt := 24) hx hb d_M_takeStore_19 (by decide) (fun c_19 => ?_) (fun c_19 => ?_)
    · have c_19 := (x_eq0 (by omega)).mp c_19
      refine lv_iload_n hx hb d_M_takeStore_24 rfl (lv_at hl 3 rfl) ?_
      refine lv_if_ne (tgt := 32) hx hb d_M_takeStore_25 (by decide) (fun c_25 => ?_) (fun c_25 => ?_)
      · refine lv_iconst (v := nI 2) hx hb d_M_takeStore_32 (by decide) ?_
        refine lv_istore (lv' := [(4, .int (nI 2)), (3, .int (nI (nu 23 st0))), (0, .ref md), (1, .int (nI st0)), (2, .int (nI 1))]) hx hb d_M_takeStore_33 hl (by decide) rfl (fun ls hl => ?_)
        refine lv_iconst (v := nI 0) hx hb d_M_takeStore_35 (by decide) ?_
        refine lv_istore (lv' := [(5, .int (nI 0)), (4, .int (nI 2)), (3, .int (nI (nu 23 st0))), (0, .ref md), (1, .int (nI st0)), (2, .int (nI 1))]) hx hb d_M_takeStore_36 hl (by decide) rfl (fun ls hl => ?_)
        have HL38 : ∀ (z38 i : Nat) (nuL3 : Nat → Nat → Nat) (sgL4 : Nat → Nat → Int32), i ≤ nu 23 st0 / 2 → nu 23 st0 / 2 + 1 ≤ i + z38 → (nuL3 29 = (fun _ => i)) → (∀ j, j < i → goodP 1 (sg 24 (60 * st0 + stI 1 j)) (sg 24 (60 * st0 + stI 1 j + 1))) → (∀ j, j < i → sgL4 30 j = sRow (sg 24) 1 (60 * st0) j) → ∀ (M1 : xMem), mRep G M1 md am nuL3 sgL4 → eqx [29] nu1 nuL3 → eqx [30] sg sgL4 → xfr M M1 (mS md am) → ∀ (H : Heap) (locs : List Loc) (ls : Array Slot), xWd G (xA M sz) s.heap M1 H locs → lv_has ls 9 [(0, .ref md), (1, .int (nI st0)), (2, .int (nI 1)), (3, .int (nI (nu 23 st0))), (4, .int (nI 2)), (5, .int (nI (2 * i)))] → W p l e { frames := 2, cells := 0, slots := 0, locals := 48 } s m ([.ref md, .int (nI st0), .int (nI 1)] : List Value).toArray below meth c H locs 0 0 (xMQ below G M sz (fun v M' => v = some (.int (zI (wellP (sg 24) 1 (60 * st0) (nu 23 st0)))) ∧ ∃ (nu' : Nat → Nat → Nat) (sg' : Nat → Nat → Int32), mRep G M' md am nu' sg' ∧ eqx [29] nu nu' ∧ eqx [30] sg sg' ∧ xfr M M' (mS md am) ∧ (wellP (sg 24) 1 (60 * st0) (nu 23 st0) → nu' 29 0 = stN 1 (nu 23 st0) ∧ ∀ j, j < stN 1 (nu 23 st0) → sg' 30 j = sRow (sg 24) 1 (60 * st0) j)) (fun _ _ => False) s 0 0) (F0 m 38 ls []) := by
          intro z38
          induction z38 with
          | zero =>
            intro i  nuL3 sgL4 h1 h2
            omega
          | succ z38 ih38 =>
            intro i  nuL3 sgL4 hi38 hz38 h29 hgd hrw M1 hR hnuL3 hsgL4 hF H locs ls hw hl
            refine lv_iload hx hb d_M_takeStore_38 (lv_at hl 5 rfl) ?_
            refine lv_iload_n hx hb d_M_takeStore_40 rfl (lv_at hl 3 rfl) ?_
            refine lv_icmp_ge (tgt := 210) hx hb d_M_takeStore_41 (by decide) (fun c_41 => ?_) (fun c_41 => ?_)
            · have c_41 := (nI_leI (by omega) (by omega)).mp c_41
              refine lv_iconst (v := nI 1) hx hb d_M_takeStore_210 (by decide) ?_
              have hen : i = stN 1 (nu 23 st0) := by simp only [stN]; omega
              have hyes : wellP (sg 24) 1 (60 * st0) (nu 23 st0) := ⟨by omega, fun j hj => hgd j (by omega)⟩
              exact x_zret hC hr hw (by first | exact zI_narV _ | rfl | assumption | decide +kernel) (⟨congrArg (fun z => some (Value.int z)) (zI_t hyes).symm, nuL3, sgL4, hR, (eqx.trans (L := [29]) (eqx.trans (L := [29]) (eqx.rf (L := [29])) hnu1 (by decide) (by decide)) hnuL3 (by decide) (by decide)), (eqx.trans (L := [30]) (eqx.rf (L := [30])) hsgL4 (by decide) (by decide)), hF, fun _ => ⟨(by rw [h29, hen]), fun j hj => hrw j (by omega)⟩⟩) (Nat.le_of_ble_eq_true rfl) (Nat.le_of_ble_eq_true rfl) d_M_takeStore_211
            · have c_41 := Nat.not_le.mp ((not_congr (nI_leI (by omega) (by omega))).mp c_41)
              refine lv_aload_n hx hb d_M_takeStore_44 rfl (lv_at hl 0 rfl) ?_
              refine x_get hC hw hR.1 rfl 24 (by decide) (hts _ k_758) (fun _ h9 => h9) rfl d_M_takeStore_45 ?_
              refine lv_bipush (v := nI 60) hx hb d_M_takeStore_48 (by decide) ?_
              refine lv_iload_n hx hb d_M_takeStore_50 rfl (lv_at hl 1 rfl) ?_
              refine lv_imul hx hb d_M_takeStore_51 ?_
              refine x_vi (y := nI (60 * st0)) (pk_mul _ _) ?_
              refine lv_iload hx hb d_M_takeStore_52 (lv_at hl 5 rfl) ?_
              refine lv_iadd hx hb d_M_takeStore_54 ?_
              refine x_vi (y := nI ((60 * st0) + (2 * i))) (nI_add _ _) ?_
              refine m_ldI hC hw hR 24 ((60 * st0) + (2 * i)) rfl (rfl) (by show _ < 480; omega) (by decide) d_M_takeStore_55 ?_
              refine x_vi (y := sg 24 ((60 * st0) + (2 * i))) (by rw [hsgL4 24 (by decide)]) ?_
              refine lv_istore (lv' := [(6, .int (sg 24 ((60 * st0) + (2 * i)))), (0, .ref md), (1, .int (nI st0)), (2, .int (nI 1)), (3, .int (nI (nu 23 st0))), (4, .int (nI 2)), (5, .int (nI (2 * i)))]) hx hb d_M_takeStore_56 hl (by decide) rfl (fun ls hl => ?_)
              refine lv_iload hx hb d_M_takeStore_58 (lv_at hl 5 rfl) ?_
              refine lv_iconst (v := nI 1) hx hb d_M_takeStore_60 (by decide) ?_
              refine lv_icmp_ne (tgt := 68) hx hb d_M_takeStore_61 (by decide) (fun c_61 => ?_) (fun c_61 => ?_)
              · refine lv_aload_n hx hb d_M_takeStore_68 rfl (lv_at hl 1 rfl) ?_
                refine x_get hC hw hR.1 rfl 24 (by decide) (hts _ k_758) (fun _ h9 => h9) rfl d_M_takeStore_69 ?_
                refine lv_bipush (v := nI 60) hx hb d_M_takeStore_72 (by decide) ?_
                refine lv_iload_n hx hb d_M_takeStore_74 rfl (lv_at hl 2 rfl) ?_
                refine lv_imul hx hb d_M_takeStore_75 ?_
                refine x_vi (y := nI (60 * st0)) (pk_mul _ _) ?_
                refine lv_iload hx hb d_M_takeStore_76 (lv_at hl 6 rfl) ?_
                refine lv_iadd hx hb d_M_takeStore_78 ?_
                refine x_vi (y := nI ((60 * st0) + (2 * i))) (nI_add _ _) ?_
                refine lv_iconst (v := nI 1) hx hb d_M_takeStore_79 (by decide) ?_
                refine lv_iadd hx hb d_M_takeStore_80 ?_
                refine x_vi (y := nI (((60 * st0) + (2 * i)) + 1)) (nI_add _ _) ?_
                refine m_ldI hC hw hR 24 (((60 * st0) + (2 * i)) + 1) rfl (rfl) (by show _ < 480; omega) (by decide) d_M_takeStore_81 ?_
                refine x_vi (y := sg 24 (((60 * st0) + (2 * i)) + 1)) (by rw [hsgL4 24 (by decide)]) ?_
                refine lv_istore (lv' := [(7, .int (sg 24 (((60 * st0) + (2 * i)) + 1))), (6, .int (sg 24 ((60 * st0) + (2 * i)))), (0, .ref md), (1, .int (nI st0)), (2, .int (nI 1)), (3, .int (nI (nu 23 st0))), (4, .int (nI 2)), (5, .int (nI (2 * i)))]) hx hb d_M_takeStore_82 hl (by decide) rfl (fun ls hl => ?_)
                refine lv_iload_n hx hb d_M_takeStore_84 rfl (lv_at hl 4 rfl) ?_
                refine lv_if_eq (tgt := 129) hx hb d_M_takeStore_85 (by decide) (fun c_85 => ?_) (fun c_85 => ?_)
                · exact absurd c_85 (by decide +kernel)
                · refine lv_iload_n hx hb d_M_takeStore_88 rfl (lv_at hl 4 rfl) ?_
                  refine lv_iconst (v := nI 1) hx hb d_M_takeStore_89 (by decide) ?_
                  refine lv_icmp_ne (tgt := 98) hx hb d_M_takeStore_90 (by decide) (fun c_90 => ?_) (fun c_90 => ?_)
                  · exact absurd c_90 (by decide +kernel)
                  · refine lv_iload hx hb d_M_takeStore_93 (lv_at hl 1 rfl) ?_
                    refine lv_if_eq (tgt := 129) hx hb d_M_takeStore_95 (by decide) (fun c_95 => ?_) (fun c_95 => ?_)
                    · refine lv_iconst (v := nI 1) hx hb d_M_takeStore_129 (by decide) ?_
                      refine lv_goto (tgt := 134) hx hb d_M_takeStore_130 (by decide) ?_
                      refine lv_istore (lv' := [(8, .int (nI 1)), (7, .int (sg 24 (((60 * st0) + (2 * i)) + 1))), (6, .int (sg 24 ((60 * st0) + (2 * i)))), (0, .ref md), (1, .int (nI st0)), (2, .int (nI 1)), (3, .int (nI (nu 23 st0))), (4, .int (nI 2)), (5, .int (nI (2 * i)))]) hx hb d_M_takeStore_134 hl (by decide) rfl (fun ls hl => ?_)
                      refine lv_iload hx hb d_M_takeStore_136 (lv_at hl 0 rfl) ?_
                      refine lv_if_ne (tgt := 143) hx hb d_M_takeStore_138 (by decide) (fun c_138 => ?_) (fun c_138 => ?_)
                      · refine lv_aload_n hx hb d_M_takeStore_143 rfl (lv_at hl 3 rfl) ?_
                        refine x_get hC hw hR.1 rfl 30 (by decide) (hts _ k_764) (fun _ h9 => h9) rfl d_M_takeStore_144 ?_
                        refine lv_aload_n hx hb d_M_takeStore_147 rfl (lv_at hl 3 rfl) ?_
                        refine x_get hC hw hR.1 rfl 29 (by decide) (hts _ k_763) (fun _ h9 => h9) rfl d_M_takeStore_148 ?_
                        refine x_vi (y := nI i) (by rw [h29]) ?_
                        refine lv_iload_n hx hb d_M_takeStore_151 rfl (lv_at hl 5 rfl) ?_
                        refine lv_if_eq (tgt := 160) hx hb d_M_takeStore_152 (by decide) (fun c_152 => ?_) (fun c_152 => ?_)
                        · exact absurd c_152 (by decide +kernel)
                        · refine lv_iload_n hx hb d_M_takeStore_155 rfl (lv_at hl 5 rfl) ?_
                          refine lv_iconst (v := nI 2) hx hb d_M_takeStore_156 (by decide) ?_
                          refine lv_icmp_ne (tgt := 165) hx hb d_M_takeStore_157 (by decide) (fun c_157 => ?_) (fun c_157 => ?_)
                          · refine lv_iload_n hx hb d_M_takeStore_165 rfl (lv_at hl 5 rfl) ?_
                            refine lv_iconst (v := nI 1) hx hb d_M_takeStore_166 (by decide) ?_
                            refine lv_icmp_ne (tgt := 175) hx hb d_M_takeStore_167 (by decide) (fun c_167 => ?_) (fun c_167 => ?_)
                            · exact absurd c_167 (by decide +kernel)
                            · refine lv_iload hx hb d_M_takeStore_170 (lv_at hl 1 rfl) ?_
                              refine lv_goto (tgt := 189) hx hb d_M_takeStore_172 (by decide) ?_
                              refine m_stI hC hw hR hF 30 i rfl (rfl) (by show _ < 60; omega) (by decide) d_M_takeStore_189 (fun M5 H locs sg6 hsg6 esg6 hR hF hw => ?_)
                              refine lv_aload_n hx hb d_M_takeStore_190 rfl (lv_at hl 3 rfl) ?_
                              refine lv_dup hx hb d_M_takeStore_191 rfl ?_
                              refine x_get hC hw hR.1 rfl 29 (by decide) (hts _ k_763) (fun _ h9 => h9) rfl d_M_takeStore_192 ?_
                              refine x_vi (y := nI i) (by rw [h29]) ?_
                              refine lv_iconst (v := nI 1) hx hb d_M_takeStore_195 (by decide) ?_
                              refine lv_iadd hx hb d_M_takeStore_196 ?_
                              refine x_vi (y := nI (i + 1)) (nI_add _ _) ?_
                              refine m_put hC hw hR hF 29 (i + 1) rfl (by decide) (hts _ k_763) (fun _ h9 => h9) rfl (by decide +kernel) rfl rfl d_M_takeStore_197 (fun M8 H locs nu7 hnu7 enu7 hR hF hw => ?_)
                              refine lv_iload hx hb d_M_takeStore_200 (lv_at hl 8 rfl) ?_
                              refine lv_iload hx hb d_M_takeStore_202 (lv_at hl 7 rfl) ?_
                              refine lv_iadd hx hb d_M_takeStore_204 ?_
                              refine x_vi (y := nI ((2 * i) + 2)) (nI_add _ _) ?_
                              refine x_vi (y := nI (2 * (i + 1))) (congrArg nI (by omega)) ?_
                              refine lv_istore (lv' := [(5, .int (nI (2 * (i + 1)))), (8, .int (nI 1)), (7, .int (sg 24 (((60 * st0) + (2 * i)) + 1))), (6, .int (sg 24 ((60 * st0) + (2 * i)))), (0, .ref md), (1, .int (nI st0)), (2, .int (nI 1)), (3, .int (nI (nu 23 st0))), (4, .int (nI 2))]) hx hb d_M_takeStore_205 hl (by decide) rfl (fun ls hl => ?_)
                              refine lv_goto (tgt := 38) hx hb d_M_takeStore_207 (by decide) ?_
                              exact ih38 (i + 1)  nu7 sg6 (by omega) (by omega) (enu7) (x_all1 hgd (Or.inr (Or.inl ⟨rfl, c_95⟩))) (x_upS (f := sRow (sg 24) 1 (60 * st0)) hrw esg6 rfl) _ hR (eqx.trans (L := [29]) (eqx.trans (L := [29]) (eqx.rf (L := [29])) hnuL3 (by decide) (by decide)) hnu7 (by decide) (by decide)) (eqx.trans (L := [30]) (eqx.trans (L := [30]) (eqx.rf (L := [30])) hsgL4 (by decide) (by decide)) hsg6 (by decide) (by decide)) hF _ _ _ hw (lv_sub hl [4, 5, 6, 7, 8, 0] rfl)
                          · exact absurd c_157 (by decide +kernel)
                      · exact absurd c_138 (by decide +kernel)
                    · refine lv_iload_n hx hb d_M_takeStore_98 rfl (lv_at hl 4 rfl) ?_
                      refine lv_iconst (v := nI 2) hx hb d_M_takeStore_99 (by decide) ?_
                      refine lv_icmp_ne (tgt := 108) hx hb d_M_takeStore_100 (by decide) (fun c_100 => ?_) (fun c_100 => ?_)
                      · refine lv_iload_n hx hb d_M_takeStore_108 rfl (lv_at hl 4 rfl) ?_
                        refine lv_iconst (v := nI 3) hx hb d_M_takeStore_109 (by decide) ?_
                        refine lv_icmp_ne (tgt := 133) hx hb d_M_takeStore_110 (by decide) (fun c_110 => ?_) (fun c_110 => ?_)
                        · refine lv_iconst (v := nI 0) hx hb d_M_takeStore_133 (by decide) ?_
                          refine lv_istore (lv' := [(8, .int (nI 0)), (7, .int (sg 24 (((60 * st0) + (2 * i)) + 1))), (6, .int (sg 24 ((60 * st0) + (2 * i)))), (0, .ref md), (1, .int (nI st0)), (2, .int (nI 1)), (3, .int (nI (nu 23 st0))), (4, .int (nI 2)), (5, .int (nI (2 * i)))]) hx hb d_M_takeStore_134 hl (by decide) rfl (fun ls hl => ?_)
                          refine lv_iload hx hb d_M_takeStore_136 (lv_at hl 0 rfl) ?_
                          refine lv_if_ne (tgt := 143) hx hb d_M_takeStore_138 (by decide) (fun c_138 => ?_) (fun c_138 => ?_)
                          · exact absurd c_138 (by decide +kernel)
                          · refine lv_iconst (v := nI 0) hx hb d_M_takeStore_141 (by decide) ?_
                            have hno : ¬ wellP (sg 24) 1 (60 * st0) (nu 23 st0) := fun h => (h.2 i (by simp only [stN]; omega)).elim (fun z => by omega) (fun z => z.elim (fun z => c_95 z.2) (fun z => z.elim (fun z => by omega) (fun z => by omega)))
                            exact x_zret hC hr hw (by first | exact zI_narV _ | rfl | assumption | decide +kernel) (⟨congrArg (fun z => some (Value.int z)) (zI_f hno).symm, nuL3, sgL4, hR, (eqx.trans (L := [29]) (eqx.trans (L := [29]) (eqx.rf (L := [29])) hnu1 (by decide) (by decide)) hnuL3 (by decide) (by decide)), (eqx.trans (L := [30]) (eqx.rf (L := [30])) hsgL4 (by decide) (by decide)), hF, fun h => absurd h hno⟩) (Nat.le_of_ble_eq_true rfl) (Nat.le_of_ble_eq_true rfl) d_M_takeStore_142
                        · exact absurd c_110 (by decide +kernel)
                      · exact absurd c_100 (by decide +kernel)
              · exact absurd c_61 (by decide +kernel)
        exact HL38 (nu 23 st0 / 2 + 1) (0)  nu1 sg (by omega) (by omega) (enu1) (fun j hj => absurd hj (Nat.not_lt_zero j)) (fun j hj => absurd hj (Nat.not_lt_zero j)) _ hR eqx.rf eqx.rf hF _ _ _ hw (lv_sub hl [3, 4, 5, 2, 1, 0] rfl)
      · exact absurd c_25 (by decide +kernel)
    · have c_19 := (not_congr (x_eq0 (by omega))).mp c_19
      refine lv_iconst (v := nI 0) hx hb d_M_takeStore_22 (by decide) ?_
      have hno : ¬ wellP (sg 24) 1 (60 * st0) (nu 23 st0) := fun h => by have := h.1; omega
      exact x_zret hC hr hw (by first | exact zI_narV _ | rfl | assumption | decide +kernel) (⟨congrArg (fun z => some (Value.int z)) (zI_f hno).symm, nu1, sg, hR, (eqx.trans (L := [29]) (eqx.rf (L := [29])) hnu1 (by decide) (by decide)), (eqx.rf (L := [30])), hF, fun h => absurd h hno⟩) (Nat.le_of_ble_eq_true rfl) (Nat.le_of_ble_eq_true rfl) d_M_takeStore_23

set_option maxHeartbeats 1000000 in
set_option maxRecDepth 100000 in
/-- takeStore, encoding 2 -/
theorem c_M_takeStore2 (l : Launch) (G : xT) (M : xMem) (sz : Nat) (md : Nat) (am : Nat → Nat) (nu : Nat → Nat → Nat) (sg : Nat → Nat → Int32) (hR : mRep G M md am nu sg) (st0 : Nat) (hs8 : st0 < 8) (hs : nu 23 st0 ≤ 60) : xMet l G y_M_takeStore (Cond.code y_M_takeStore b_M_takeStore 9 (Option.some Jvm.ClassFile.FieldType.boolean) :: x_tbl) { frames := 2, cells := 0, slots := 0, locals := 48 } [.ref md, .int (nI st0), .int (nI 2)] M sz (fun v M' => v = some (.int (zI (wellP (sg 24) 2 (60 * st0) (nu 23 st0)))) ∧ ∃ (nu' : Nat → Nat → Nat) (sg' : Nat → Nat → Int32), mRep G M' md am nu' sg' ∧ eqx [29] nu nu' ∧ eqx [30] sg sg' ∧ xfr M M' (mS md am) ∧ (wellP (sg 24) 2 (60 * st0) (nu 23 st0) → nu' 29 0 = stN 2 (nu 23 st0) ∧ ∀ j, j < stN 2 (nu 23 st0) → sg' 30 j = sRow (sg 24) 2 (60 * st0) j)) (fun _ _ => False) := by
  refine xMet.of (by decide) (Nat.le_of_ble_eq_true rfl) ?_
  intro p e s m below meth c ls hC hr hnm hno hsz hw hl
  obtain ⟨hx, hb, hown, hts, hK, hml, hlk, hz⟩ := id hC
  have hl : lv_has ls 9 [(0, .ref md), (1, .int (nI st0)), (2, .int (nI 2))] := hl
  have hF : xfr M M (mS md am) := xfr.rf
  refine lv_aload_n hx hb d_M_takeStore_0 rfl (lv_at hl 0 rfl) ?_
  refine x_get hC hw hR.1 rfl 23 (by decide) (hts _ k_757) (fun _ h9 => h9) rfl d_M_takeStore_1 ?_
  refine lv_iload_n hx hb d_M_takeStore_4 rfl (lv_at hl 1 rfl) ?_
  refine m_ldN hC hw hR 23 st0 rfl (rfl) (by show _ < 8; omega) (by decide) d_M_takeStore_5 ?_
  refine lv_istore_n (lv' := [(3, .int (nI (nu 23 st0))), (0, .ref md), (1, .int (nI st0)), (2, .int (nI 2))]) hx hb d_M_takeStore_6 rfl hl (by decide) rfl (fun ls hl => ?_)
  refine lv_aload_n hx hb d_M_takeStore_7 rfl (lv_at hl 1 rfl) ?_
  refine lv_iconst (v := nI 0) hx hb d_M_takeStore_8 (by decide) ?_
  refine m_put hC hw hR hF 29 0 rfl (by decide) (hts _ k_763) (fun _ h9 => h9) rfl (by decide +kernel) rfl rfl d_M_takeStore_9 (fun M2 H locs nu1 hnu1 enu1 hR hF hw => ?_)
  refine lv_iload_n hx hb d_M_takeStore_12 rfl (lv_at hl 3 rfl) ?_
  refine lv_if_le (tgt := 24) hx hb d_M_takeStore_13 (by decide) (fun c_13 => ?_) (fun c_13 => ?_)
  · exact absurd c_13 (by decide +kernel)
  · refine lv_iload_n hx hb d_M_takeStore_16 rfl (lv_at hl 0 rfl) ?_
    refine lv_iconst (v := nI 2) hx hb d_M_takeStore_17 (by decide) ?_
    refine lv_irem hx hb d_M_takeStore_18 (by decide +kernel) ?_
    refine x_vi (y := nI ((nu 23 st0) % 2)) (x_rem (by omega) (by omega)) ?_
    refine lv_if_eq (tgt := 24) hx hb d_M_takeStore_19 (by decide) (fun c_19 => ?_) (fun c_19 => ?_)
    · have c_19 := (x_eq0 (by omega)).mp c_19
      refine lv_iload_n hx hb d_M_takeStore_24 rfl (lv_at hl 3 rfl) ?_
      refine lv_if_ne (tgt := 32) hx hb d_M_takeStore_25 (by decide) (fun c_25 => ?_) (fun c_25 => ?_)
      · refine lv_iconst (v := nI 2) hx hb d_M_takeStore_32 (by decide) ?_
        refine lv_istore (lv' := [(4, .int (nI 2)), (3, .int (nI (nu 23 st0))), (0, .ref md), (1, .int (nI st0)), (2, .int (nI 2))]) hx hb d_M_takeStore_33 hl (by decide) rfl (fun ls hl => ?_)
        refine lv_iconst (v := nI 0) hx hb d_M_takeStore_35 (by decide) ?_
        refine lv_istore (lv' := [(5, .int (nI 0)), (4, .int (nI 2)), (3, .int (nI (nu 23 st0))), (0, .ref md), (1, .int (nI st0)), (2, .int (nI 2))]) hx hb d_M_takeStore_36 hl (by decide) rfl (fun ls hl => ?_)
        have HL38 : ∀ (z38 i : Nat) (nuL3 : Nat → Nat → Nat) (sgL4 : Nat → Nat → Int32), i ≤ nu 23 st0 / 2 → nu 23 st0 / 2 + 1 ≤ i + z38 → (nuL3 29 = (fun _ => i)) → (∀ j, j < i → goodP 2 (sg 24 (60 * st0 + stI 2 j)) (sg 24 (60 * st0 + stI 2 j + 1))) → (∀ j, j < i → sgL4 30 j = sRow (sg 24) 2 (60 * st0) j) → ∀ (M1 : xMem), mRep G M1 md am nuL3 sgL4 → eqx [29] nu1 nuL3 → eqx [30] sg sgL4 → xfr M M1 (mS md am) → ∀ (H : Heap) (locs : List Loc) (ls : Array Slot), xWd G (xA M sz) s.heap M1 H locs → lv_has ls 9 [(0, .ref md), (1, .int (nI st0)), (2, .int (nI 2)), (3, .int (nI (nu 23 st0))), (4, .int (nI 2)), (5, .int (nI (2 * i)))] → W p l e { frames := 2, cells := 0, slots := 0, locals := 48 } s m ([.ref md, .int (nI st0), .int (nI 2)] : List Value).toArray below meth c H locs 0 0 (xMQ below G M sz (fun v M' => v = some (.int (zI (wellP (sg 24) 2 (60 * st0) (nu 23 st0)))) ∧ ∃ (nu' : Nat → Nat → Nat) (sg' : Nat → Nat → Int32), mRep G M' md am nu' sg' ∧ eqx [29] nu nu' ∧ eqx [30] sg sg' ∧ xfr M M' (mS md am) ∧ (wellP (sg 24) 2 (60 * st0) (nu 23 st0) → nu' 29 0 = stN 2 (nu 23 st0) ∧ ∀ j, j < stN 2 (nu 23 st0) → sg' 30 j = sRow (sg 24) 2 (60 * st0) j)) (fun _ _ => False) s 0 0) (F0 m 38 ls []) := by
          intro z38
          induction z38 with
          | zero =>
            intro i  nuL3 sgL4 h1 h2
            omega
          | succ z38 ih38 =>
            intro i  nuL3 sgL4 hi38 hz38 h29 hgd hrw M1 hR hnuL3 hsgL4 hF H locs ls hw hl
            refine lv_iload hx hb d_M_takeStore_38 (lv_at hl 5 rfl) ?_
            refine lv_iload_n hx hb d_M_takeStore_40 rfl (lv_at hl 3 rfl) ?_
            refine lv_icmp_ge (tgt := 210) hx hb d_M_takeStore_41 (by decide) (fun c_41 => ?_) (fun c_41 => ?_)
            · have c_41 := (nI_leI (by omega) (by omega)).mp c_41
              refine lv_iconst (v := nI 1) hx hb d_M_takeStore_210 (by decide) ?_
              have hen : i = stN 2 (nu 23 st0) := by simp only [stN]; omega
              have hyes : wellP (sg 24) 2 (60 * st0) (nu 23 st0) := ⟨by omega, fun j hj => hgd j (by omega)⟩
              exact x_zret hC hr hw (by first | exact zI_narV _ | rfl | assumption | decide +kernel) (⟨congrArg (fun z => some (Value.int z)) (zI_t hyes).symm, nuL3, sgL4, hR, (eqx.trans (L := [29]) (eqx.trans (L := [29]) (eqx.rf (L := [29])) hnu1 (by decide) (by decide)) hnuL3 (by decide) (by decide)), (eqx.trans (L := [30]) (eqx.rf (L := [30])) hsgL4 (by decide) (by decide)), hF, fun _ => ⟨(by rw [h29, hen]), fun j hj => hrw j (by omega)⟩⟩) (Nat.le_of_ble_eq_true rfl) (Nat.le_of_ble_eq_true rfl) d_M_takeStore_211
            · have c_41 := Nat.not_le.mp ((not_congr (nI_leI (by omega) (by omega))).mp c_41)
              refine lv_aload_n hx hb d_M_takeStore_44 rfl (lv_at hl 0 rfl) ?_
              refine x_get hC hw hR.1 rfl 24 (by decide) (hts _ k_758) (fun _ h9 => h9) rfl d_M_takeStore_45 ?_
              refine lv_bipush (v := nI 60) hx hb d_M_takeStore_48 (by decide) ?_
              refine lv_iload_n hx hb d_M_takeStore_50 rfl (lv_at hl 1 rfl) ?_
              refine lv_imul hx hb d_M_takeStore_51 ?_
              refine x_vi (y := nI (60 * st0)) (pk_mul _ _) ?_
              refine lv_iload hx hb d_M_takeStore_52 (lv_at hl 5 rfl) ?_
              refine lv_iadd hx hb d_M_takeStore_54 ?_
              refine x_vi (y := nI ((60 * st0) + (2 * i))) (nI_add _ _) ?_
              refine m_ldI hC hw hR 24 ((60 * st0) + (2 * i)) rfl (rfl) (by show _ < 480; omega) (by decide) d_M_takeStore_55 ?_
              refine x_vi (y := sg 24 ((60 * st0) + (2 * i))) (by rw [hsgL4 24 (by decide)]) ?_
              refine lv_istore (lv' := [(6, .int (sg 24 ((60 * st0) + (2 * i)))), (0, .ref md), (1, .int (nI st0)), (2, .int (nI 2)), (3, .int (nI (nu 23 st0))), (4, .int (nI 2)), (5, .int (nI (2 * i)))]) hx hb d_M_takeStore_56 hl (by decide) rfl (fun ls hl => ?_)
              refine lv_iload hx hb d_M_takeStore_58 (lv_at hl 5 rfl) ?_
              refine lv_iconst (v := nI 1) hx hb d_M_takeStore_60 (by decide) ?_
              refine lv_icmp_ne (tgt := 68) hx hb d_M_takeStore_61 (by decide) (fun c_61 => ?_) (fun c_61 => ?_)
              · refine lv_aload_n hx hb d_M_takeStore_68 rfl (lv_at hl 1 rfl) ?_
                refine x_get hC hw hR.1 rfl 24 (by decide) (hts _ k_758) (fun _ h9 => h9) rfl d_M_takeStore_69 ?_
                refine lv_bipush (v := nI 60) hx hb d_M_takeStore_72 (by decide) ?_
                refine lv_iload_n hx hb d_M_takeStore_74 rfl (lv_at hl 2 rfl) ?_
                refine lv_imul hx hb d_M_takeStore_75 ?_
                refine x_vi (y := nI (60 * st0)) (pk_mul _ _) ?_
                refine lv_iload hx hb d_M_takeStore_76 (lv_at hl 6 rfl) ?_
                refine lv_iadd hx hb d_M_takeStore_78 ?_
                refine x_vi (y := nI ((60 * st0) + (2 * i))) (nI_add _ _) ?_
                refine lv_iconst (v := nI 1) hx hb d_M_takeStore_79 (by decide) ?_
                refine lv_iadd hx hb d_M_takeStore_80 ?_
                refine x_vi (y := nI (((60 * st0) + (2 * i)) + 1)) (nI_add _ _) ?_
                refine m_ldI hC hw hR 24 (((60 * st0) + (2 * i)) + 1) rfl (rfl) (by show _ < 480; omega) (by decide) d_M_takeStore_81 ?_
                refine x_vi (y := sg 24 (((60 * st0) + (2 * i)) + 1)) (by rw [hsgL4 24 (by decide)]) ?_
                refine lv_istore (lv' := [(7, .int (sg 24 (((60 * st0) + (2 * i)) + 1))), (6, .int (sg 24 ((60 * st0) + (2 * i)))), (0, .ref md), (1, .int (nI st0)), (2, .int (nI 2)), (3, .int (nI (nu 23 st0))), (4, .int (nI 2)), (5, .int (nI (2 * i)))]) hx hb d_M_takeStore_82 hl (by decide) rfl (fun ls hl => ?_)
                refine lv_iload_n hx hb d_M_takeStore_84 rfl (lv_at hl 4 rfl) ?_
                refine lv_if_eq (tgt := 129) hx hb d_M_takeStore_85 (by decide) (fun c_85 => ?_) (fun c_85 => ?_)
                · exact absurd c_85 (by decide +kernel)
                · refine lv_iload_n hx hb d_M_takeStore_88 rfl (lv_at hl 4 rfl) ?_
                  refine lv_iconst (v := nI 1) hx hb d_M_takeStore_89 (by decide) ?_
                  refine lv_icmp_ne (tgt := 98) hx hb d_M_takeStore_90 (by decide) (fun c_90 => ?_) (fun c_90 => ?_)
                  · refine lv_iload_n hx hb d_M_takeStore_98 rfl (lv_at hl 4 rfl) ?_
                    refine lv_iconst (v := nI 2) hx hb d_M_takeStore_99 (by decide) ?_
                    refine lv_icmp_ne (tgt := 108) hx hb d_M_takeStore_100 (by decide) (fun c_100 => ?_) (fun c_100 => ?_)
                    · exact absurd c_100 (by decide +kernel)
                    · refine lv_iload hx hb d_M_takeStore_103 (lv_at hl 0 rfl) ?_
                      refine lv_if_eq (tgt := 129) hx hb d_M_takeStore_105 (by decide) (fun c_105 => ?_) (fun c_105 => ?_)
                      · refine lv_iconst (v := nI 1) hx hb d_M_takeStore_129 (by decide) ?_
                        refine lv_goto (tgt := 134) hx hb d_M_takeStore_130 (by decide) ?_
                        refine lv_istore (lv' := [(8, .int (nI 1)), (7, .int (sg 24 (((60 * st0) + (2 * i)) + 1))), (6, .int (sg 24 ((60 * st0) + (2 * i)))), (0, .ref md), (1, .int (nI st0)), (2, .int (nI 2)), (3, .int (nI (nu 23 st0))), (4, .int (nI 2)), (5, .int (nI (2 * i)))]) hx hb d_M_takeStore_134 hl (by decide) rfl (fun ls hl => ?_)
                        refine lv_iload hx hb d_M_takeStore_136 (lv_at hl 0 rfl) ?_
                        refine lv_if_ne (tgt := 143) hx hb d_M_takeStore_138 (by decide) (fun c_138 => ?_) (fun c_138 => ?_)
                        · refine lv_aload_n hx hb d_M_takeStore_143 rfl (lv_at hl 3 rfl) ?_
                          refine x_get hC hw hR.1 rfl 30 (by decide) (hts _ k_764) (fun _ h9 => h9) rfl d_M_takeStore_144 ?_
                          refine lv_aload_n hx hb d_M_takeStore_147 rfl (lv_at hl 3 rfl) ?_
                          refine x_get hC hw hR.1 rfl 29 (by decide) (hts _ k_763) (fun _ h9 => h9) rfl d_M_takeStore_148 ?_
                          refine x_vi (y := nI i) (by rw [h29]) ?_
                          refine lv_iload_n hx hb d_M_takeStore_151 rfl (lv_at hl 5 rfl) ?_
                          refine lv_if_eq (tgt := 160) hx hb d_M_takeStore_152 (by decide) (fun c_152 => ?_) (fun c_152 => ?_)
                          · exact absurd c_152 (by decide +kernel)
                          · refine lv_iload_n hx hb d_M_takeStore_155 rfl (lv_at hl 5 rfl) ?_
                            refine lv_iconst (v := nI 2) hx hb d_M_takeStore_156 (by decide) ?_
                            refine lv_icmp_ne (tgt := 165) hx hb d_M_takeStore_157 (by decide) (fun c_157 => ?_) (fun c_157 => ?_)
                            · exact absurd c_157 (by decide +kernel)
                            · refine lv_iload hx hb d_M_takeStore_160 (lv_at hl 2 rfl) ?_
                              refine lv_goto (tgt := 189) hx hb d_M_takeStore_162 (by decide) ?_
                              refine m_stI hC hw hR hF 30 i rfl (rfl) (by show _ < 60; omega) (by decide) d_M_takeStore_189 (fun M5 H locs sg6 hsg6 esg6 hR hF hw => ?_)
                              refine lv_aload_n hx hb d_M_takeStore_190 rfl (lv_at hl 3 rfl) ?_
                              refine lv_dup hx hb d_M_takeStore_191 rfl ?_
                              refine x_get hC hw hR.1 rfl 29 (by decide) (hts _ k_763) (fun _ h9 => h9) rfl d_M_takeStore_192 ?_
                              refine x_vi (y := nI i) (by rw [h29]) ?_
                              refine lv_iconst (v := nI 1) hx hb d_M_takeStore_195 (by decide) ?_
                              refine lv_iadd hx hb d_M_takeStore_196 ?_
                              refine x_vi (y := nI (i + 1)) (nI_add _ _) ?_
                              refine m_put hC hw hR hF 29 (i + 1) rfl (by decide) (hts _ k_763) (fun _ h9 => h9) rfl (by decide +kernel) rfl rfl d_M_takeStore_197 (fun M8 H locs nu7 hnu7 enu7 hR hF hw => ?_)
                              refine lv_iload hx hb d_M_takeStore_200 (lv_at hl 8 rfl) ?_
                              refine lv_iload hx hb d_M_takeStore_202 (lv_at hl 7 rfl) ?_
                              refine lv_iadd hx hb d_M_takeStore_204 ?_
                              refine x_vi (y := nI ((2 * i) + 2)) (nI_add _ _) ?_
                              refine x_vi (y := nI (2 * (i + 1))) (congrArg nI (by omega)) ?_
                              refine lv_istore (lv' := [(5, .int (nI (2 * (i + 1)))), (8, .int (nI 1)), (7, .int (sg 24 (((60 * st0) + (2 * i)) + 1))), (6, .int (sg 24 ((60 * st0) + (2 * i)))), (0, .ref md), (1, .int (nI st0)), (2, .int (nI 2)), (3, .int (nI (nu 23 st0))), (4, .int (nI 2))]) hx hb d_M_takeStore_205 hl (by decide) rfl (fun ls hl => ?_)
                              refine lv_goto (tgt := 38) hx hb d_M_takeStore_207 (by decide) ?_
                              exact ih38 (i + 1)  nu7 sg6 (by omega) (by omega) (enu7) (x_all1 hgd (Or.inr (Or.inr (Or.inl ⟨rfl, c_105⟩)))) (x_upS (f := sRow (sg 24) 2 (60 * st0)) hrw esg6 rfl) _ hR (eqx.trans (L := [29]) (eqx.trans (L := [29]) (eqx.rf (L := [29])) hnuL3 (by decide) (by decide)) hnu7 (by decide) (by decide)) (eqx.trans (L := [30]) (eqx.trans (L := [30]) (eqx.rf (L := [30])) hsgL4 (by decide) (by decide)) hsg6 (by decide) (by decide)) hF _ _ _ hw (lv_sub hl [4, 5, 6, 7, 8, 0] rfl)
                        · exact absurd c_138 (by decide +kernel)
                      · refine lv_iload_n hx hb d_M_takeStore_108 rfl (lv_at hl 4 rfl) ?_
                        refine lv_iconst (v := nI 3) hx hb d_M_takeStore_109 (by decide) ?_
                        refine lv_icmp_ne (tgt := 133) hx hb d_M_takeStore_110 (by decide) (fun c_110 => ?_) (fun c_110 => ?_)
                        · refine lv_iconst (v := nI 0) hx hb d_M_takeStore_133 (by decide) ?_
                          refine lv_istore (lv' := [(8, .int (nI 0)), (7, .int (sg 24 (((60 * st0) + (2 * i)) + 1))), (6, .int (sg 24 ((60 * st0) + (2 * i)))), (0, .ref md), (1, .int (nI st0)), (2, .int (nI 2)), (3, .int (nI (nu 23 st0))), (4, .int (nI 2)), (5, .int (nI (2 * i)))]) hx hb d_M_takeStore_134 hl (by decide) rfl (fun ls hl => ?_)
                          refine lv_iload hx hb d_M_takeStore_136 (lv_at hl 0 rfl) ?_
                          refine lv_if_ne (tgt := 143) hx hb d_M_takeStore_138 (by decide) (fun c_138 => ?_) (fun c_138 => ?_)
                          · exact absurd c_138 (by decide +kernel)
                          · refine lv_iconst (v := nI 0) hx hb d_M_takeStore_141 (by decide) ?_
                            have hno : ¬ wellP (sg 24) 2 (60 * st0) (nu 23 st0) := fun h => (h.2 i (by simp only [stN]; omega)).elim (fun z => by omega) (fun z => z.elim (fun z => by omega) (fun z => z.elim (fun z => c_105 z.2) (fun z => by omega)))
                            exact x_zret hC hr hw (by first | exact zI_narV _ | rfl | assumption | decide +kernel) (⟨congrArg (fun z => some (Value.int z)) (zI_f hno).symm, nuL3, sgL4, hR, (eqx.trans (L := [29]) (eqx.trans (L := [29]) (eqx.rf (L := [29])) hnu1 (by decide) (by decide)) hnuL3 (by decide) (by decide)), (eqx.trans (L := [30]) (eqx.rf (L := [30])) hsgL4 (by decide) (by decide)), hF, fun h => absurd h hno⟩) (Nat.le_of_ble_eq_true rfl) (Nat.le_of_ble_eq_true rfl) d_M_takeStore_142
                        · exact absurd c_110 (by decide +kernel)
                  · exact absurd c_90 (by decide +kernel)
              · exact absurd c_61 (by decide +kernel)
        exact HL38 (nu 23 st0 / 2 + 1) (0)  nu1 sg (by omega) (by omega) (enu1) (fun j hj => absurd hj (Nat.not_lt_zero j)) (fun j hj => absurd hj (Nat.not_lt_zero j)) _ hR eqx.rf eqx.rf hF _ _ _ hw (lv_sub hl [3, 4, 5, 2, 1, 0] rfl)
      · exact absurd c_25 (by decide +kernel)
    · have c_19 := (not_congr (x_eq0 (by omega))).mp c_19
      refine lv_iconst (v := nI 0) hx hb d_M_takeStore_22 (by decide) ?_
      have hno : ¬ wellP (sg 24) 2 (60 * st0) (nu 23 st0) := fun h => by have := h.1; omega
      exact x_zret hC hr hw (by first | exact zI_narV _ | rfl | assumption | decide +kernel) (⟨congrArg (fun z => some (Value.int z)) (zI_f hno).symm, nu1, sg, hR, (eqx.trans (L := [29]) (eqx.rf (L := [29])) hnu1 (by decide) (by decide)), (eqx.rf (L := [30])), hF, fun h => absurd h hno⟩) (Nat.le_of_ble_eq_true rfl) (Nat.le_of_ble_eq_true rfl) d_M_takeStore_23

set_option maxHeartbeats 1000000 in
set_option maxRecDepth 100000 in
/-- takeStore, encoding 3 -/
theorem c_M_takeStore3 (l : Launch) (G : xT) (M : xMem) (sz : Nat) (md : Nat) (am : Nat → Nat) (nu : Nat → Nat → Nat) (sg : Nat → Nat → Int32) (hR : mRep G M md am nu sg) (st0 : Nat) (hs8 : st0 < 8) (hs : nu 23 st0 ≤ 60) : xMet l G y_M_takeStore (Cond.code y_M_takeStore b_M_takeStore 9 (Option.some Jvm.ClassFile.FieldType.boolean) :: x_tbl) { frames := 2, cells := 0, slots := 0, locals := 48 } [.ref md, .int (nI st0), .int (nI 3)] M sz (fun v M' => v = some (.int (zI (wellP (sg 24) 3 (60 * st0) (nu 23 st0)))) ∧ ∃ (nu' : Nat → Nat → Nat) (sg' : Nat → Nat → Int32), mRep G M' md am nu' sg' ∧ eqx [29] nu nu' ∧ eqx [30] sg sg' ∧ xfr M M' (mS md am) ∧ (wellP (sg 24) 3 (60 * st0) (nu 23 st0) → nu' 29 0 = stN 3 (nu 23 st0) ∧ ∀ j, j < stN 3 (nu 23 st0) → sg' 30 j = sRow (sg 24) 3 (60 * st0) j)) (fun _ _ => False) := by
  refine xMet.of (by decide) (Nat.le_of_ble_eq_true rfl) ?_
  intro p e s m below meth c ls hC hr hnm hno hsz hw hl
  obtain ⟨hx, hb, hown, hts, hK, hml, hlk, hz⟩ := id hC
  have hl : lv_has ls 9 [(0, .ref md), (1, .int (nI st0)), (2, .int (nI 3))] := hl
  have hF : xfr M M (mS md am) := xfr.rf
  refine lv_aload_n hx hb d_M_takeStore_0 rfl (lv_at hl 0 rfl) ?_
  refine x_get hC hw hR.1 rfl 23 (by decide) (hts _ k_757) (fun _ h9 => h9) rfl d_M_takeStore_1 ?_
  refine lv_iload_n hx hb d_M_takeStore_4 rfl (lv_at hl 1 rfl) ?_
  refine m_ldN hC hw hR 23 st0 rfl (rfl) (by show _ < 8; omega) (by decide) d_M_takeStore_5 ?_
  refine lv_istore_n (lv' := [(3, .int (nI (nu 23 st0))), (0, .ref md), (1, .int (nI st0)), (2, .int (nI 3))]) hx hb d_M_takeStore_6 rfl hl (by decide) rfl (fun ls hl => ?_)
  refine lv_aload_n hx hb d_M_takeStore_7 rfl (lv_at hl 1 rfl) ?_
  refine lv_iconst (v := nI 0) hx hb d_M_takeStore_8 (by decide) ?_
  refine m_put hC hw hR hF 29 0 rfl (by decide) (hts _ k_763) (fun _ h9 => h9) rfl (by decide +kernel) rfl rfl d_M_takeStore_9 (fun M2 H locs nu1 hnu1 enu1 hR hF hw => ?_)
  refine lv_iload_n hx hb d_M_takeStore_12 rfl (lv_at hl 3 rfl) ?_
  refine lv_if_le (tgt := 24) hx hb d_M_takeStore_13 (by decide) (fun c_13 => ?_) (fun c_13 => ?_)
  · exact absurd c_13 (by decide +kernel)
  · refine lv_iload_n hx hb d_M_takeStore_16 rfl (lv_at hl 0 rfl) ?_
    refine lv_iconst (v := nI 2) hx hb d_M_takeStore_17 (by decide) ?_
    refine lv_irem hx hb d_M_takeStore_18 (by decide +kernel) ?_
    refine x_vi (y := nI ((nu 23 st0) % 2)) (x_rem (by omega) (by omega)) ?_
    refine lv_if_eq (tgt := 24) hx hb d_M_takeStore_19 (by decide) (fun c_19 => ?_) (fun c_19 => ?_)
    · have c_19 := (x_eq0 (by omega)).mp c_19
      refine lv_iload_n hx hb d_M_takeStore_24 rfl (lv_at hl 3 rfl) ?_
      refine lv_if_ne (tgt := 32) hx hb d_M_takeStore_25 (by decide) (fun c_25 => ?_) (fun c_25 => ?_)
      · refine lv_iconst (v := nI 2) hx hb d_M_takeStore_32 (by decide) ?_
        refine lv_istore (lv' := [(4, .int (nI 2)), (3, .int (nI (nu 23 st0))), (0, .ref md), (1, .int (nI st0)), (2, .int (nI 3))]) hx hb d_M_takeStore_33 hl (by decide) rfl (fun ls hl => ?_)
        refine lv_iconst (v := nI 0) hx hb d_M_takeStore_35 (by decide) ?_
        refine lv_istore (lv' := [(5, .int (nI 0)), (4, .int (nI 2)), (3, .int (nI (nu 23 st0))), (0, .ref md), (1, .int (nI st0)), (2, .int (nI 3))]) hx hb d_M_takeStore_36 hl (by decide) rfl (fun ls hl => ?_)
        have HL38 : ∀ (z38 i : Nat) (nuL3 : Nat → Nat → Nat) (sgL4 : Nat → Nat → Int32), i ≤ nu 23 st0 / 2 → nu 23 st0 / 2 + 1 ≤ i + z38 → (nuL3 29 = (fun _ => i)) → (∀ j, j < i → goodP 3 (sg 24 (60 * st0 + stI 3 j)) (sg 24 (60 * st0 + stI 3 j + 1))) → (∀ j, j < i → sgL4 30 j = sRow (sg 24) 3 (60 * st0) j) → ∀ (M1 : xMem), mRep G M1 md am nuL3 sgL4 → eqx [29] nu1 nuL3 → eqx [30] sg sgL4 → xfr M M1 (mS md am) → ∀ (H : Heap) (locs : List Loc) (ls : Array Slot), xWd G (xA M sz) s.heap M1 H locs → lv_has ls 9 [(0, .ref md), (1, .int (nI st0)), (2, .int (nI 3)), (3, .int (nI (nu 23 st0))), (4, .int (nI 2)), (5, .int (nI (2 * i)))] → W p l e { frames := 2, cells := 0, slots := 0, locals := 48 } s m ([.ref md, .int (nI st0), .int (nI 3)] : List Value).toArray below meth c H locs 0 0 (xMQ below G M sz (fun v M' => v = some (.int (zI (wellP (sg 24) 3 (60 * st0) (nu 23 st0)))) ∧ ∃ (nu' : Nat → Nat → Nat) (sg' : Nat → Nat → Int32), mRep G M' md am nu' sg' ∧ eqx [29] nu nu' ∧ eqx [30] sg sg' ∧ xfr M M' (mS md am) ∧ (wellP (sg 24) 3 (60 * st0) (nu 23 st0) → nu' 29 0 = stN 3 (nu 23 st0) ∧ ∀ j, j < stN 3 (nu 23 st0) → sg' 30 j = sRow (sg 24) 3 (60 * st0) j)) (fun _ _ => False) s 0 0) (F0 m 38 ls []) := by
          intro z38
          induction z38 with
          | zero =>
            intro i  nuL3 sgL4 h1 h2
            omega
          | succ z38 ih38 =>
            intro i  nuL3 sgL4 hi38 hz38 h29 hgd hrw M1 hR hnuL3 hsgL4 hF H locs ls hw hl
            refine lv_iload hx hb d_M_takeStore_38 (lv_at hl 5 rfl) ?_
            refine lv_iload_n hx hb d_M_takeStore_40 rfl (lv_at hl 3 rfl) ?_
            refine lv_icmp_ge (tgt := 210) hx hb d_M_takeStore_41 (by decide) (fun c_41 => ?_) (fun c_41 => ?_)
            · have c_41 := (nI_leI (by omega) (by omega)).mp c_41
              refine lv_iconst (v := nI 1) hx hb d_M_takeStore_210 (by decide) ?_
              have hen : i = stN 3 (nu 23 st0) := by simp only [stN]; omega
              have hyes : wellP (sg 24) 3 (60 * st0) (nu 23 st0) := ⟨by omega, fun j hj => hgd j (by omega)⟩
              exact x_zret hC hr hw (by first | exact zI_narV _ | rfl | assumption | decide +kernel) (⟨congrArg (fun z => some (Value.int z)) (zI_t hyes).symm, nuL3, sgL4, hR, (eqx.trans (L := [29]) (eqx.trans (L := [29]) (eqx.rf (L := [29])) hnu1 (by decide) (by decide)) hnuL3 (by decide) (by decide)), (eqx.trans (L := [30]) (eqx.rf (L := [30])) hsgL4 (by decide) (by decide)), hF, fun _ => ⟨(by rw [h29, hen]), fun j hj => hrw j (by omega)⟩⟩) (Nat.le_of_ble_eq_true rfl) (Nat.le_of_ble_eq_true rfl) d_M_takeStore_211
            · have c_41 := Nat.not_le.mp ((not_congr (nI_leI (by omega) (by omega))).mp c_41)
              refine lv_aload_n hx hb d_M_takeStore_44 rfl (lv_at hl 0 rfl) ?_
              refine x_get hC hw hR.1 rfl 24 (by decide) (hts _ k_758) (fun _ h9 => h9) rfl d_M_takeStore_45 ?_
              refine lv_bipush (v := nI 60) hx hb d_M_takeStore_48 (by decide) ?_
              refine lv_iload_n hx hb d_M_takeStore_50 rfl (lv_at hl 1 rfl) ?_
              refine lv_imul hx hb d_M_takeStore_51 ?_
              refine x_vi (y := nI (60 * st0)) (pk_mul _ _) ?_
              refine lv_iload hx hb d_M_takeStore_52 (lv_at hl 5 rfl) ?_
              refine lv_iadd hx hb d_M_takeStore_54 ?_
              refine x_vi (y := nI ((60 * st0) + (2 * i))) (nI_add _ _) ?_
              refine m_ldI hC hw hR 24 ((60 * st0) + (2 * i)) rfl (rfl) (by show _ < 480; omega) (by decide) d_M_takeStore_55 ?_
              refine x_vi (y := sg 24 ((60 * st0) + (2 * i))) (by rw [hsgL4 24 (by decide)]) ?_
              refine lv_istore (lv' := [(6, .int (sg 24 ((60 * st0) + (2 * i)))), (0, .ref md), (1, .int (nI st0)), (2, .int (nI 3)), (3, .int (nI (nu 23 st0))), (4, .int (nI 2)), (5, .int (nI (2 * i)))]) hx hb d_M_takeStore_56 hl (by decide) rfl (fun ls hl => ?_)
              refine lv_iload hx hb d_M_takeStore_58 (lv_at hl 5 rfl) ?_
              refine lv_iconst (v := nI 1) hx hb d_M_takeStore_60 (by decide) ?_
              refine lv_icmp_ne (tgt := 68) hx hb d_M_takeStore_61 (by decide) (fun c_61 => ?_) (fun c_61 => ?_)
              · refine lv_aload_n hx hb d_M_takeStore_68 rfl (lv_at hl 1 rfl) ?_
                refine x_get hC hw hR.1 rfl 24 (by decide) (hts _ k_758) (fun _ h9 => h9) rfl d_M_takeStore_69 ?_
                refine lv_bipush (v := nI 60) hx hb d_M_takeStore_72 (by decide) ?_
                refine lv_iload_n hx hb d_M_takeStore_74 rfl (lv_at hl 2 rfl) ?_
                refine lv_imul hx hb d_M_takeStore_75 ?_
                refine x_vi (y := nI (60 * st0)) (pk_mul _ _) ?_
                refine lv_iload hx hb d_M_takeStore_76 (lv_at hl 6 rfl) ?_
                refine lv_iadd hx hb d_M_takeStore_78 ?_
                refine x_vi (y := nI ((60 * st0) + (2 * i))) (nI_add _ _) ?_
                refine lv_iconst (v := nI 1) hx hb d_M_takeStore_79 (by decide) ?_
                refine lv_iadd hx hb d_M_takeStore_80 ?_
                refine x_vi (y := nI (((60 * st0) + (2 * i)) + 1)) (nI_add _ _) ?_
                refine m_ldI hC hw hR 24 (((60 * st0) + (2 * i)) + 1) rfl (rfl) (by show _ < 480; omega) (by decide) d_M_takeStore_81 ?_
                refine x_vi (y := sg 24 (((60 * st0) + (2 * i)) + 1)) (by rw [hsgL4 24 (by decide)]) ?_
                refine lv_istore (lv' := [(7, .int (sg 24 (((60 * st0) + (2 * i)) + 1))), (6, .int (sg 24 ((60 * st0) + (2 * i)))), (0, .ref md), (1, .int (nI st0)), (2, .int (nI 3)), (3, .int (nI (nu 23 st0))), (4, .int (nI 2)), (5, .int (nI (2 * i)))]) hx hb d_M_takeStore_82 hl (by decide) rfl (fun ls hl => ?_)
                refine lv_iload_n hx hb d_M_takeStore_84 rfl (lv_at hl 4 rfl) ?_
                refine lv_if_eq (tgt := 129) hx hb d_M_takeStore_85 (by decide) (fun c_85 => ?_) (fun c_85 => ?_)
                · exact absurd c_85 (by decide +kernel)
                · refine lv_iload_n hx hb d_M_takeStore_88 rfl (lv_at hl 4 rfl) ?_
                  refine lv_iconst (v := nI 1) hx hb d_M_takeStore_89 (by decide) ?_
                  refine lv_icmp_ne (tgt := 98) hx hb d_M_takeStore_90 (by decide) (fun c_90 => ?_) (fun c_90 => ?_)
                  · refine lv_iload_n hx hb d_M_takeStore_98 rfl (lv_at hl 4 rfl) ?_
                    refine lv_iconst (v := nI 2) hx hb d_M_takeStore_99 (by decide) ?_
                    refine lv_icmp_ne (tgt := 108) hx hb d_M_takeStore_100 (by decide) (fun c_100 => ?_) (fun c_100 => ?_)
                    · refine lv_iload_n hx hb d_M_takeStore_108 rfl (lv_at hl 4 rfl) ?_
                      refine lv_iconst (v := nI 3) hx hb d_M_takeStore_109 (by decide) ?_
                      refine lv_icmp_ne (tgt := 133) hx hb d_M_takeStore_110 (by decide) (fun c_110 => ?_) (fun c_110 => ?_)
                      · exact absurd c_110 (by decide +kernel)
                      · refine lv_iload hx hb d_M_takeStore_113 (lv_at hl 1 rfl) ?_
                        refine x_callG hC (c_M_digit l G M1 (Array.size H) (sg 24 ((60 * st0) + (2 * i)))) k_932 k_13 ⟨Nat.le_of_ble_eq_true rfl, Nat.le_of_ble_eq_true rfl⟩ ⟨Nat.le_of_ble_eq_true rfl, Nat.le_of_ble_eq_true rfl⟩ hw hl.1 (Nat.le_of_ble_eq_true rfl) d_M_takeStore_115 (x_ivS hC k_932 k_930 k_931 k_13 (show _ ∧ _ ∧ _ = some 1 from by decide +kernel) rfl d_M_takeStore_115) (fun rv M5 H locs hq hw => ?_) (fun _ _ _ _ _ h _ _ => h.elim)
                        obtain ⟨rfl, hM⟩ := hq
                        subst M5
                        refine W.eq (g2 := F0 m 118 ls [.int (dgI (sg 24 ((60 * st0) + (2 * i))))]) rfl ?_
                        refine lv_if_lt (tgt := 133) hx hb d_M_takeStore_118 (by decide) (fun c_118 => ?_) (fun c_118 => ?_)
                        · refine lv_iconst (v := nI 0) hx hb d_M_takeStore_133 (by decide) ?_
                          refine lv_istore (lv' := [(8, .int (nI 0)), (7, .int (sg 24 (((60 * st0) + (2 * i)) + 1))), (6, .int (sg 24 ((60 * st0) + (2 * i)))), (0, .ref md), (1, .int (nI st0)), (2, .int (nI 3)), (3, .int (nI (nu 23 st0))), (4, .int (nI 2)), (5, .int (nI (2 * i)))]) hx hb d_M_takeStore_134 hl (by decide) rfl (fun ls hl => ?_)
                          refine lv_iload hx hb d_M_takeStore_136 (lv_at hl 0 rfl) ?_
                          refine lv_if_ne (tgt := 143) hx hb d_M_takeStore_138 (by decide) (fun c_138 => ?_) (fun c_138 => ?_)
                          · exact absurd c_138 (by decide +kernel)
                          · refine lv_iconst (v := nI 0) hx hb d_M_takeStore_141 (by decide) ?_
                            have hno : ¬ wellP (sg 24) 3 (60 * st0) (nu 23 st0) := fun h => (h.2 i (by simp only [stN]; omega)).elim (fun z => by omega) (fun z => z.elim (fun z => by omega) (fun z => z.elim (fun z => by omega) (fun z => z.2.1 c_118)))
                            exact x_zret hC hr hw (by first | exact zI_narV _ | rfl | assumption | decide +kernel) (⟨congrArg (fun z => some (Value.int z)) (zI_f hno).symm, nuL3, sgL4, hR, (eqx.trans (L := [29]) (eqx.trans (L := [29]) (eqx.rf (L := [29])) hnu1 (by decide) (by decide)) hnuL3 (by decide) (by decide)), (eqx.trans (L := [30]) (eqx.rf (L := [30])) hsgL4 (by decide) (by decide)), hF, fun h => absurd h hno⟩) (Nat.le_of_ble_eq_true rfl) (Nat.le_of_ble_eq_true rfl) d_M_takeStore_142
                        · refine lv_iload hx hb d_M_takeStore_121 (lv_at hl 0 rfl) ?_
                          refine x_callG hC (c_M_digit l G M1 (Array.size H) (sg 24 (((60 * st0) + (2 * i)) + 1))) k_932 k_13 ⟨Nat.le_of_ble_eq_true rfl, Nat.le_of_ble_eq_true rfl⟩ ⟨Nat.le_of_ble_eq_true rfl, Nat.le_of_ble_eq_true rfl⟩ hw hl.1 (Nat.le_of_ble_eq_true rfl) d_M_takeStore_123 (x_ivS hC k_932 k_930 k_931 k_13 (show _ ∧ _ ∧ _ = some 1 from by decide +kernel) rfl d_M_takeStore_123) (fun rv M6 H locs hq hw => ?_) (fun _ _ _ _ _ h _ _ => h.elim)
                          obtain ⟨rfl, hM⟩ := hq
                          subst M6
                          refine W.eq (g2 := F0 m 126 ls [.int (dgI (sg 24 (((60 * st0) + (2 * i)) + 1)))]) rfl ?_
                          refine lv_if_lt (tgt := 133) hx hb d_M_takeStore_126 (by decide) (fun c_126 => ?_) (fun c_126 => ?_)
                          · refine lv_iconst (v := nI 0) hx hb d_M_takeStore_133 (by decide) ?_
                            refine lv_istore (lv' := [(8, .int (nI 0)), (7, .int (sg 24 (((60 * st0) + (2 * i)) + 1))), (6, .int (sg 24 ((60 * st0) + (2 * i)))), (0, .ref md), (1, .int (nI st0)), (2, .int (nI 3)), (3, .int (nI (nu 23 st0))), (4, .int (nI 2)), (5, .int (nI (2 * i)))]) hx hb d_M_takeStore_134 hl (by decide) rfl (fun ls hl => ?_)
                            refine lv_iload hx hb d_M_takeStore_136 (lv_at hl 0 rfl) ?_
                            refine lv_if_ne (tgt := 143) hx hb d_M_takeStore_138 (by decide) (fun c_138 => ?_) (fun c_138 => ?_)
                            · exact absurd c_138 (by decide +kernel)
                            · refine lv_iconst (v := nI 0) hx hb d_M_takeStore_141 (by decide) ?_
                              have hno : ¬ wellP (sg 24) 3 (60 * st0) (nu 23 st0) := fun h => (h.2 i (by simp only [stN]; omega)).elim (fun z => by omega) (fun z => z.elim (fun z => by omega) (fun z => z.elim (fun z => by omega) (fun z => z.2.2 c_126)))
                              exact x_zret hC hr hw (by first | exact zI_narV _ | rfl | assumption | decide +kernel) (⟨congrArg (fun z => some (Value.int z)) (zI_f hno).symm, nuL3, sgL4, hR, (eqx.trans (L := [29]) (eqx.trans (L := [29]) (eqx.rf (L := [29])) hnu1 (by decide) (by decide)) hnuL3 (by decide) (by decide)), (eqx.trans (L := [30]) (eqx.rf (L := [30])) hsgL4 (by decide) (by decide)), hF, fun h => absurd h hno⟩) (Nat.le_of_ble_eq_true rfl) (Nat.le_of_ble_eq_true rfl) d_M_takeStore_142
                          · refine lv_iconst (v := nI 1) hx hb d_M_takeStore_129 (by decide) ?_
                            refine lv_goto (tgt := 134) hx hb d_M_takeStore_130 (by decide) ?_
                            refine lv_istore (lv' := [(8, .int (nI 1)), (7, .int (sg 24 (((60 * st0) + (2 * i)) + 1))), (6, .int (sg 24 ((60 * st0) + (2 * i)))), (0, .ref md), (1, .int (nI st0)), (2, .int (nI 3)), (3, .int (nI (nu 23 st0))), (4, .int (nI 2)), (5, .int (nI (2 * i)))]) hx hb d_M_takeStore_134 hl (by decide) rfl (fun ls hl => ?_)
                            refine lv_iload hx hb d_M_takeStore_136 (lv_at hl 0 rfl) ?_
                            refine lv_if_ne (tgt := 143) hx hb d_M_takeStore_138 (by decide) (fun c_138 => ?_) (fun c_138 => ?_)
                            · refine lv_aload_n hx hb d_M_takeStore_143 rfl (lv_at hl 3 rfl) ?_
                              refine x_get hC hw hR.1 rfl 30 (by decide) (hts _ k_764) (fun _ h9 => h9) rfl d_M_takeStore_144 ?_
                              refine lv_aload_n hx hb d_M_takeStore_147 rfl (lv_at hl 3 rfl) ?_
                              refine x_get hC hw hR.1 rfl 29 (by decide) (hts _ k_763) (fun _ h9 => h9) rfl d_M_takeStore_148 ?_
                              refine x_vi (y := nI i) (by rw [h29]) ?_
                              refine lv_iload_n hx hb d_M_takeStore_151 rfl (lv_at hl 5 rfl) ?_
                              refine lv_if_eq (tgt := 160) hx hb d_M_takeStore_152 (by decide) (fun c_152 => ?_) (fun c_152 => ?_)
                              · exact absurd c_152 (by decide +kernel)
                              · refine lv_iload_n hx hb d_M_takeStore_155 rfl (lv_at hl 5 rfl) ?_
                                refine lv_iconst (v := nI 2) hx hb d_M_takeStore_156 (by decide) ?_
                                refine lv_icmp_ne (tgt := 165) hx hb d_M_takeStore_157 (by decide) (fun c_157 => ?_) (fun c_157 => ?_)
                                · refine lv_iload_n hx hb d_M_takeStore_165 rfl (lv_at hl 5 rfl) ?_
                                  refine lv_iconst (v := nI 1) hx hb d_M_takeStore_166 (by decide) ?_
                                  refine lv_icmp_ne (tgt := 175) hx hb d_M_takeStore_167 (by decide) (fun c_167 => ?_) (fun c_167 => ?_)
                                  · refine lv_bipush (v := nI 16) hx hb d_M_takeStore_175 (by decide) ?_
                                    refine lv_iload hx hb d_M_takeStore_177 (lv_at hl 2 rfl) ?_
                                    refine x_callG hC (c_M_digit l G M1 (Array.size H) (sg 24 ((60 * st0) + (2 * i)))) k_932 k_13 ⟨Nat.le_of_ble_eq_true rfl, Nat.le_of_ble_eq_true rfl⟩ ⟨Nat.le_of_ble_eq_true rfl, Nat.le_of_ble_eq_true rfl⟩ hw hl.1 (Nat.le_of_ble_eq_true rfl) d_M_takeStore_179 (x_ivS hC k_932 k_930 k_931 k_13 (show _ ∧ _ ∧ _ = some 1 from by decide +kernel) rfl d_M_takeStore_179) (fun rv M7 H locs hq hw => ?_) (fun _ _ _ _ _ h _ _ => h.elim)
                                    obtain ⟨rfl, hM⟩ := hq
                                    subst M7
                                    refine W.eq (g2 := F0 m 182 ls [.int (dgI (sg 24 ((60 * st0) + (2 * i)))), .int (nI 16), .int (nI i), .ref (am 30)]) rfl ?_
                                    refine lv_imul hx hb d_M_takeStore_182 ?_
                                    refine lv_iload hx hb d_M_takeStore_183 (lv_at hl 1 rfl) ?_
                                    refine x_callG hC (c_M_digit l G M1 (Array.size H) (sg 24 (((60 * st0) + (2 * i)) + 1))) k_932 k_13 ⟨Nat.le_of_ble_eq_true rfl, Nat.le_of_ble_eq_true rfl⟩ ⟨Nat.le_of_ble_eq_true rfl, Nat.le_of_ble_eq_true rfl⟩ hw hl.1 (Nat.le_of_ble_eq_true rfl) d_M_takeStore_185 (x_ivS hC k_932 k_930 k_931 k_13 (show _ ∧ _ ∧ _ = some 1 from by decide +kernel) rfl d_M_takeStore_185) (fun rv M8 H locs hq hw => ?_) (fun _ _ _ _ _ h _ _ => h.elim)
                                    obtain ⟨rfl, hM⟩ := hq
                                    subst M8
                                    refine W.eq (g2 := F0 m 188 ls [.int (dgI (sg 24 (((60 * st0) + (2 * i)) + 1))), .int (nI 16 * dgI (sg 24 ((60 * st0) + (2 * i)))), .int (nI i), .ref (am 30)]) rfl ?_
                                    refine lv_iadd hx hb d_M_takeStore_188 ?_
                                    refine m_stI hC hw hR hF 30 i rfl (rfl) (by show _ < 60; omega) (by decide) d_M_takeStore_189 (fun M9 H locs sg10 hsg10 esg10 hR hF hw => ?_)
                                    refine lv_aload_n hx hb d_M_takeStore_190 rfl (lv_at hl 3 rfl) ?_
                                    refine lv_dup hx hb d_M_takeStore_191 rfl ?_
                                    refine x_get hC hw hR.1 rfl 29 (by decide) (hts _ k_763) (fun _ h9 => h9) rfl d_M_takeStore_192 ?_
                                    refine x_vi (y := nI i) (by rw [h29]) ?_
                                    refine lv_iconst (v := nI 1) hx hb d_M_takeStore_195 (by decide) ?_
                                    refine lv_iadd hx hb d_M_takeStore_196 ?_
                                    refine x_vi (y := nI (i + 1)) (nI_add _ _) ?_
                                    refine m_put hC hw hR hF 29 (i + 1) rfl (by decide) (hts _ k_763) (fun _ h9 => h9) rfl (by decide +kernel) rfl rfl d_M_takeStore_197 (fun M12 H locs nu11 hnu11 enu11 hR hF hw => ?_)
                                    refine lv_iload hx hb d_M_takeStore_200 (lv_at hl 8 rfl) ?_
                                    refine lv_iload hx hb d_M_takeStore_202 (lv_at hl 7 rfl) ?_
                                    refine lv_iadd hx hb d_M_takeStore_204 ?_
                                    refine x_vi (y := nI ((2 * i) + 2)) (nI_add _ _) ?_
                                    refine x_vi (y := nI (2 * (i + 1))) (congrArg nI (by omega)) ?_
                                    refine lv_istore (lv' := [(5, .int (nI (2 * (i + 1)))), (8, .int (nI 1)), (7, .int (sg 24 (((60 * st0) + (2 * i)) + 1))), (6, .int (sg 24 ((60 * st0) + (2 * i)))), (0, .ref md), (1, .int (nI st0)), (2, .int (nI 3)), (3, .int (nI (nu 23 st0))), (4, .int (nI 2))]) hx hb d_M_takeStore_205 hl (by decide) rfl (fun ls hl => ?_)
                                    refine lv_goto (tgt := 38) hx hb d_M_takeStore_207 (by decide) ?_
                                    exact ih38 (i + 1)  nu11 sg10 (by omega) (by omega) (enu11) (x_all1 hgd (Or.inr (Or.inr (Or.inr ⟨rfl, c_118, c_126⟩)))) (x_upS (f := sRow (sg 24) 3 (60 * st0)) hrw esg10 rfl) _ hR (eqx.trans (L := [29]) (eqx.trans (L := [29]) (eqx.rf (L := [29])) hnuL3 (by decide) (by decide)) hnu11 (by decide) (by decide)) (eqx.trans (L := [30]) (eqx.trans (L := [30]) (eqx.rf (L := [30])) hsgL4 (by decide) (by decide)) hsg10 (by decide) (by decide)) hF _ _ _ hw (lv_sub hl [4, 5, 6, 7, 8, 0] rfl)
                                  · exact absurd c_167 (by decide +kernel)
                                · exact absurd c_157 (by decide +kernel)
                            · exact absurd c_138 (by decide +kernel)
                    · exact absurd c_100 (by decide +kernel)
                  · exact absurd c_90 (by decide +kernel)
              · exact absurd c_61 (by decide +kernel)
        exact HL38 (nu 23 st0 / 2 + 1) (0)  nu1 sg (by omega) (by omega) (enu1) (fun j hj => absurd hj (Nat.not_lt_zero j)) (fun j hj => absurd hj (Nat.not_lt_zero j)) _ hR eqx.rf eqx.rf hF _ _ _ hw (lv_sub hl [3, 4, 5, 2, 1, 0] rfl)
      · exact absurd c_25 (by decide +kernel)
    · have c_19 := (not_congr (x_eq0 (by omega))).mp c_19
      refine lv_iconst (v := nI 0) hx hb d_M_takeStore_22 (by decide) ?_
      have hno : ¬ wellP (sg 24) 3 (60 * st0) (nu 23 st0) := fun h => by have := h.1; omega
      exact x_zret hC hr hw (by first | exact zI_narV _ | rfl | assumption | decide +kernel) (⟨congrArg (fun z => some (Value.int z)) (zI_f hno).symm, nu1, sg, hR, (eqx.trans (L := [29]) (eqx.rf (L := [29])) hnu1 (by decide) (by decide)), (eqx.rf (L := [30])), hF, fun h => absurd h hno⟩) (Nat.le_of_ble_eq_true rfl) (Nat.le_of_ble_eq_true rfl) d_M_takeStore_23
