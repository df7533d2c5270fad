theorem c_M_takeStore (l : Launch) (G : xT) (M : xMem) (sz : Nat) (md : Nat) (am : Nat → Nat) (nu : Nat → Nat → Nat) (sg : Nat → Nat → Int32) (hR : mRep G M md am nu sg) (st0 en : Nat) (hen : en < 4) (hs8 : st0 < 8) (hs : nu 23 st0 ≤ 60) : xMet l G y_M_takeStore (Cond.code y_M_takeStore b_M_takeStore 9 (Option.some Jvm.ClassFile.FieldType.boolean) :: x_tbl) { frames := 2, cells := 0, slots := 0, locals := 48 } [.ref md, .int (nI st0), .int (nI en)] M sz (fun v M' => v = some (.int (zI (wellP (sg 24) en (60 * st0) (nu 23 st0)))) ∧ ∃ (nu' : Nat → Nat → Nat) (sg' : Nat → Nat → Int32), mRep G M' md am nu' sg' ∧ eqx [29] nu nu' ∧ eqx [30] sg sg' ∧ xfr M M' (mS md am) ∧ (wellP (sg 24) en (60 * st0) (nu 23 st0) → nu' 29 0 = stN en (nu 23 st0) ∧ ∀ j, j < stN en (nu 23 st0) → sg' 30 j = sRow (sg 24) en (60 * st0) j)) (fun _ _ => False) := by
  match en, hen with
  | 0, _ => exact c_M_takeStore0 l G M sz md am nu sg hR st0 hs8 hs
  | 1, _ => exact c_M_takeStore1 l G M sz md am nu sg hR st0 hs8 hs
  | 2, _ => exact c_M_takeStore2 l G M sz md am nu sg hR st0 hs8 hs
  | 3, _ => exact c_M_takeStore3 l G M sz md am nu sg hR st0 hs8 hs
set_option maxHeartbeats 1000000 in
set_option maxRecDepth 100000 in
/-- write, encoding 0 -/
theorem c_M_write0 (l : Launch) (G : xT) (M : xMem) (sz : Nat) (md : Nat) (am : Nat → Nat) (nu : Nat → Nat → Nat) (sg : Nat → Nat → Int32) (hR : mRep G M md am nu sg) (st0 cn : Nat) (hs8 : st0 < 8) (hcn : cn < 256) (henc : sg 22 st0 = nI 0) (hroom : nu 23 st0 + stS 0 ≤ 60) : xMet l G y_M_write (Cond.code y_M_write b_M_write 5 none :: x_tbl) { frames := 1, cells := 0, slots := 0, locals := 20 } [.ref md, .int (nI st0), .int (nI cn)] M sz (fun v M' => v = none ∧ ∃ (nu' : Nat → Nat → Nat) (sg' : Nat → Nat → Int32), mRep G M' md am nu' sg' ∧ eqx [23] nu nu' ∧ eqx [24] sg sg' ∧ xfr M M' (mS md am) ∧ nu' 23 = va_up (nu 23) st0 (nu 23 st0 + stS 0) ∧ sg' 24 (60 * st0 + nu 23 st0) = nI (w0 0 cn) ∧ (0 ≠ 0 → sg' 24 (60 * st0 + nu 23 st0 + 1) = nI (w1 0 cn)) ∧ ∀ j, j < 60 * st0 + nu 23 st0 ∨ 60 * st0 + nu 23 st0 + stS 0 ≤ j → sg' 24 j = sg 24 j) (fun _ _ => False) := by
  refine xMet.of (by decide) (Nat.le_of_ble_eq_true rfl) ?_
  intro p e s m below meth c ls hC hr hnm hno hsz hw hl
  obtain ⟨hx, hb, hown, hts, hK, hml, hlk, hz⟩ := id hC
  have hl : lv_has ls 5 [(0, .ref md), (1, .int (nI st0)), (2, .int (nI cn))] := hl
  have hF : xfr M M (mS md am) := xfr.rf
  have hroom : nu 23 st0 + 1 ≤ 60 := hroom
  refine lv_aload_n hx hb d_M_write_0 rfl (lv_at hl 0 rfl) ?_
  refine x_get hC hw hR.1 rfl 22 (by decide) (hts _ k_756) (fun _ h9 => h9) rfl d_M_write_1 ?_
  refine lv_iload_n hx hb d_M_write_4 rfl (lv_at hl 1 rfl) ?_
  refine m_ldI hC hw hR 22 st0 rfl (rfl) (by show _ < 8; omega) (by decide) d_M_write_5 ?_
  refine x_vi (y := nI 0) henc ?_
  refine lv_istore_n (lv' := [(3, .int (nI 0)), (0, .ref md), (1, .int (nI st0)), (2, .int (nI cn))]) hx hb d_M_write_6 rfl hl (by decide) rfl (fun ls hl => ?_)
  refine lv_bipush (v := nI 60) hx hb d_M_write_7 (by decide) ?_
  refine lv_iload_n hx hb d_M_write_9 rfl (lv_at hl 2 rfl) ?_
  refine lv_imul hx hb d_M_write_10 ?_
  refine x_vi (y := nI (60 * st0)) (pk_mul _ _) ?_
  refine lv_aload_n hx hb d_M_write_11 rfl (lv_at hl 1 rfl) ?_
  refine x_get hC hw hR.1 rfl 23 (by decide) (hts _ k_757) (fun _ h9 => h9) rfl d_M_write_12 ?_
  refine lv_iload_n hx hb d_M_write_15 rfl (lv_at hl 2 rfl) ?_
  refine m_ldN hC hw hR 23 st0 rfl (rfl) (by show _ < 8; omega) (by decide) d_M_write_16 ?_
  refine lv_iadd hx hb d_M_write_17 ?_
  refine x_vi (y := nI ((60 * st0) + (nu 23 st0))) (nI_add _ _) ?_
  refine lv_istore (lv' := [(4, .int (nI ((60 * st0) + (nu 23 st0)))), (3, .int (nI 0)), (0, .ref md), (1, .int (nI st0)), (2, .int (nI cn))]) hx hb d_M_write_18 hl (by decide) rfl (fun ls hl => ?_)
  refine lv_iload_n hx hb d_M_write_20 rfl (lv_at hl 1 rfl) ?_
  refine lv_if_ne (tgt := 35) hx hb d_M_write_21 (by decide) (fun c_21 => ?_) (fun c_21 => ?_)
  · exact absurd c_21 (by decide +kernel)
  · refine lv_aload_n hx hb d_M_write_24 rfl (lv_at hl 2 rfl) ?_
    refine x_get hC hw hR.1 rfl 24 (by decide) (hts _ k_758) (fun _ h9 => h9) rfl d_M_write_25 ?_
    refine lv_iload hx hb d_M_write_28 (lv_at hl 0 rfl) ?_
    refine lv_iload_n hx hb d_M_write_30 rfl (lv_at hl 4 rfl) ?_
    refine m_stI hC hw hR hF 24 ((60 * st0) + (nu 23 st0)) rfl (rfl) (by show _ < 480; omega) (by decide) d_M_write_31 (fun M1 H locs sg2 hsg2 esg2 hR hF hw => ?_)
    refine lv_goto (tgt := 101) hx hb d_M_write_32 (by decide) ?_
    refine lv_aload_n hx hb d_M_write_101 rfl (lv_at hl 2 rfl) ?_
    refine x_get hC hw hR.1 rfl 23 (by decide) (hts _ k_757) (fun _ h9 => h9) rfl d_M_write_102 ?_
    refine lv_iload_n hx hb d_M_write_105 rfl (lv_at hl 3 rfl) ?_
    refine lv_aload_n hx hb d_M_write_106 rfl (lv_at hl 2 rfl) ?_
    refine x_get hC hw hR.1 rfl 23 (by decide) (hts _ k_757) (fun _ h9 => h9) rfl d_M_write_107 ?_
    refine lv_iload_n hx hb d_M_write_110 rfl (lv_at hl 3 rfl) ?_
    refine m_ldN hC hw hR 23 st0 rfl (rfl) (by show _ < 8; omega) (by decide) d_M_write_111 ?_
    refine lv_iload_n hx hb d_M_write_112 rfl (lv_at hl 1 rfl) ?_
    refine lv_if_ne (tgt := 120) hx hb d_M_write_113 (by decide) (fun c_113 => ?_) (fun c_113 => ?_)
    · exact absurd c_113 (by decide +kernel)
    · refine lv_iconst (v := nI 1) hx hb d_M_write_116 (by decide) ?_
      refine lv_goto (tgt := 121) hx hb d_M_write_117 (by decide) ?_
      refine lv_iadd hx hb d_M_write_121 ?_
      refine x_vi (y := nI ((nu 23 st0) + 1)) (nI_add _ _) ?_
      refine m_stN hC hw hR hF 23 st0 ((nu 23 st0) + 1) rfl (rfl) rfl (by show _ < 8; omega) (by decide) d_M_write_122 (fun M3 H locs nu4 hnu4 enu4 hR hF hw => ?_)
      exact x_vret hC hr hw (⟨rfl, nu4, sg2, hR, (eqx.trans (L := [23]) (eqx.rf (L := [23])) hnu4 (by decide) (by decide)), (eqx.trans (L := [24]) (eqx.rf (L := [24])) hsg2 (by decide) (by decide)), hF, (show nu4 23 = va_up (nu 23) st0 (nu 23 st0 + 1) from (by rw [enu4])), (show sg2 24 (60 * st0 + nu 23 st0) = nI cn from by rw [esg2, va_up_self]), fun h => absurd rfl h, fun j hj => by have hj : j < 60 * st0 + nu 23 st0 ∨ 60 * st0 + nu 23 st0 + 1 ≤ j := hj; rw [esg2, va_up_ne _ _ (by omega)]⟩) (Nat.le_of_ble_eq_true rfl) (Nat.le_of_ble_eq_true rfl) d_M_write_123

set_option maxHeartbeats 1000000 in
set_option maxRecDepth 100000 in
/-- write, encoding 1 -/
theorem c_M_write1 (l : Launch) (G : xT) (M : xMem) (sz : Nat) (md : Nat) (am : Nat → Nat) (nu : Nat → Nat → Nat) (sg : Nat → Nat → Int32) (hR : mRep G M md am nu sg) (st0 cn : Nat) (hs8 : st0 < 8) (hcn : cn < 256) (henc : sg 22 st0 = nI 1) (hroom : nu 23 st0 + stS 1 ≤ 60) : xMet l G y_M_write (Cond.code y_M_write b_M_write 5 none :: x_tbl) { frames := 1, cells := 0, slots := 0, locals := 20 } [.ref md, .int (nI st0), .int (nI cn)] M sz (fun v M' => v = none ∧ ∃ (nu' : Nat → Nat → Nat) (sg' : Nat → Nat → Int32), mRep G M' md am nu' sg' ∧ eqx [23] nu nu' ∧ eqx [24] sg sg' ∧ xfr M M' (mS md am) ∧ nu' 23 = va_up (nu 23) st0 (nu 23 st0 + stS 1) ∧ sg' 24 (60 * st0 + nu 23 st0) = nI (w0 1 cn) ∧ (1 ≠ 0 → sg' 24 (60 * st0 + nu 23 st0 + 1) = nI (w1 1 cn)) ∧ ∀ j, j < 60 * st0 + nu 23 st0 ∨ 60 * st0 + nu 23 st0 + stS 1 ≤ j → sg' 24 j = sg 24 j) (fun _ _ => False) := by
  refine xMet.of (by decide) (Nat.le_of_ble_eq_true rfl) ?_
  intro p e s m below meth c ls hC hr hnm hno hsz hw hl
  obtain ⟨hx, hb, hown, hts, hK, hml, hlk, hz⟩ := id hC
  have hl : lv_has ls 5 [(0, .ref md), (1, .int (nI st0)), (2, .int (nI cn))] := hl
  have hF : xfr M M (mS md am) := xfr.rf
  have hroom : nu 23 st0 + 2 ≤ 60 := hroom
  refine lv_aload_n hx hb d_M_write_0 rfl (lv_at hl 0 rfl) ?_
  refine x_get hC hw hR.1 rfl 22 (by decide) (hts _ k_756) (fun _ h9 => h9) rfl d_M_write_1 ?_
  refine lv_iload_n hx hb d_M_write_4 rfl (lv_at hl 1 rfl) ?_
  refine m_ldI hC hw hR 22 st0 rfl (rfl) (by show _ < 8; omega) (by decide) d_M_write_5 ?_
  refine x_vi (y := nI 1) henc ?_
  refine lv_istore_n (lv' := [(3, .int (nI 1)), (0, .ref md), (1, .int (nI st0)), (2, .int (nI cn))]) hx hb d_M_write_6 rfl hl (by decide) rfl (fun ls hl => ?_)
  refine lv_bipush (v := nI 60) hx hb d_M_write_7 (by decide) ?_
  refine lv_iload_n hx hb d_M_write_9 rfl (lv_at hl 2 rfl) ?_
  refine lv_imul hx hb d_M_write_10 ?_
  refine x_vi (y := nI (60 * st0)) (pk_mul _ _) ?_
  refine lv_aload_n hx hb d_M_write_11 rfl (lv_at hl 1 rfl) ?_
  refine x_get hC hw hR.1 rfl 23 (by decide) (hts _ k_757) (fun _ h9 => h9) rfl d_M_write_12 ?_
  refine lv_iload_n hx hb d_M_write_15 rfl (lv_at hl 2 rfl) ?_
  refine m_ldN hC hw hR 23 st0 rfl (rfl) (by show _ < 8; omega) (by decide) d_M_write_16 ?_
  refine lv_iadd hx hb d_M_write_17 ?_
  refine x_vi (y := nI ((60 * st0) + (nu 23 st0))) (nI_add _ _) ?_
  refine lv_istore (lv' := [(4, .int (nI ((60 * st0) + (nu 23 st0)))), (3, .int (nI 1)), (0, .ref md), (1, .int (nI st0)), (2, .int (nI cn))]) hx hb d_M_write_18 hl (by decide) rfl (fun ls hl => ?_)
  refine lv_iload_n hx hb d_M_write_20 rfl (lv_at hl 1 rfl) ?_
  refine lv_if_ne (tgt := 35) hx hb d_M_write_21 (by decide) (fun c_21 => ?_) (fun c_21 => ?_)
  · refine lv_aload_n hx hb d_M_write_35 rfl (lv_at hl 2 rfl) ?_
    refine x_get hC hw hR.1 rfl 24 (by decide) (hts _ k_758) (fun _ h9 => h9) rfl d_M_write_36 ?_
    refine lv_iload hx hb d_M_write_39 (lv_at hl 0 rfl) ?_
    refine lv_iload_n hx hb d_M_write_41 rfl (lv_at hl 1 rfl) ?_
    refine lv_iconst (v := nI 1) hx hb d_M_write_42 (by decide) ?_
    refine lv_icmp_ne (tgt := 50) hx hb d_M_write_43 (by decide) (fun c_43 => ?_) (fun c_43 => ?_)
    · exact absurd c_43 (by decide +kernel)
    · refine lv_iconst (v := nI 0) hx hb d_M_write_46 (by decide) ?_
      refine lv_goto (tgt := 66) hx hb d_M_write_47 (by decide) ?_
      refine m_stI hC hw hR hF 24 ((60 * st0) + (nu 23 st0)) rfl (rfl) (by show _ < 480; omega) (by decide) d_M_write_66 (fun M1 H locs sg2 hsg2 esg2 hR hF hw => ?_)
      refine lv_aload_n hx hb d_M_write_67 rfl (lv_at hl 2 rfl) ?_
      refine x_get hC hw hR.1 rfl 24 (by decide) (hts _ k_758) (fun _ h9 => h9) rfl d_M_write_68 ?_
      refine lv_iload hx hb d_M_write_71 (lv_at hl 0 rfl) ?_
      refine lv_iconst (v := nI 1) hx hb d_M_write_73 (by decide) ?_
      refine lv_iadd hx hb d_M_write_74 ?_
      refine x_vi (y := nI (((60 * st0) + (nu 23 st0)) + 1)) (nI_add _ _) ?_
      refine lv_iload_n hx hb d_M_write_75 rfl (lv_at hl 1 rfl) ?_
      refine lv_iconst (v := nI 1) hx hb d_M_write_76 (by decide) ?_
      refine lv_icmp_ne (tgt := 84) hx hb d_M_write_77 (by decide) (fun c_77 => ?_) (fun c_77 => ?_)
      · exact absurd c_77 (by decide +kernel)
      · refine lv_iload_n hx hb d_M_write_80 rfl (lv_at hl 4 rfl) ?_
        refine lv_goto (tgt := 100) hx hb d_M_write_81 (by decide) ?_
        refine m_stI hC hw hR hF 24 (((60 * st0) + (nu 23 st0)) + 1) rfl (rfl) (by show _ < 480; omega) (by decide) d_M_write_100 (fun M3 H locs sg4 hsg4 esg4 hR hF hw => ?_)
        refine lv_aload_n hx hb d_M_write_101 rfl (lv_at hl 2 rfl) ?_
        refine x_get hC hw hR.1 rfl 23 (by decide) (hts _ k_757) (fun _ h9 => h9) rfl d_M_write_102 ?_
        refine lv_iload_n hx hb d_M_write_105 rfl (lv_at hl 3 rfl) ?_
        refine lv_aload_n hx hb d_M_write_106 rfl (lv_at hl 2 rfl) ?_
        refine x_get hC hw hR.1 rfl 23 (by decide) (hts _ k_757) (fun _ h9 => h9) rfl d_M_write_107 ?_
        refine lv_iload_n hx hb d_M_write_110 rfl (lv_at hl 3 rfl) ?_
        refine m_ldN hC hw hR 23 st0 rfl (rfl) (by show _ < 8; omega) (by decide) d_M_write_111 ?_
        refine lv_iload_n hx hb d_M_write_112 rfl (lv_at hl 1 rfl) ?_
        refine lv_if_ne (tgt := 120) hx hb d_M_write_113 (by decide) (fun c_113 => ?_) (fun c_113 => ?_)
        · refine lv_iconst (v := nI 2) hx hb d_M_write_120 (by decide) ?_
          refine lv_iadd hx hb d_M_write_121 ?_
          refine x_vi (y := nI ((nu 23 st0) + 2)) (nI_add _ _) ?_
          refine m_stN hC hw hR hF 23 st0 ((nu 23 st0) + 2) rfl (rfl) rfl (by show _ < 8; omega) (by decide) d_M_write_122 (fun M5 H locs nu6 hnu6 enu6 hR hF hw => ?_)
          exact x_vret hC hr hw (⟨rfl, nu6, sg4, hR, (eqx.trans (L := [23]) (eqx.rf (L := [23])) hnu6 (by decide) (by decide)), (eqx.trans (L := [24]) (eqx.trans (L := [24]) (eqx.rf (L := [24])) hsg2 (by decide) (by decide)) hsg4 (by decide) (by decide)), hF, (show nu6 23 = va_up (nu 23) st0 (nu 23 st0 + 2) from (by rw [enu6])), (show sg4 24 (60 * st0 + nu 23 st0) = nI 0 from by rw [esg4, esg2, va_up_ne _ _ (by omega), va_up_self]), (show _ → sg4 24 (60 * st0 + nu 23 st0 + 1) = nI cn from fun _ => by rw [esg4, va_up_self]), fun j hj => by have hj : j < 60 * st0 + nu 23 st0 ∨ 60 * st0 + nu 23 st0 + 2 ≤ j := hj; rw [esg4, esg2, va_up_ne _ _ (by omega), va_up_ne _ _ (by omega)]⟩) (Nat.le_of_ble_eq_true rfl) (Nat.le_of_ble_eq_true rfl) d_M_write_123
        · exact absurd c_113 (by decide +kernel)
  · exact absurd c_21 (by decide +kernel)

set_option maxHeartbeats 1000000 in
set_option maxRecDepth 100000 in
/-- write, encoding 2 -/
theorem c_M_write2 (l : Launch) (G : xT) (M : xMem) (sz : Nat) (md : Nat) (am : Nat → Nat) (nu : Nat → Nat → Nat) (sg : Nat → Nat → Int32) (hR : mRep G M md am nu sg) (st0 cn : Nat) (hs8 : st0 < 8) (hcn : cn < 256) (henc : sg 22 st0 = nI 2) (hroom : nu 23 st0 + stS 2 ≤ 60) : xMet l G y_M_write (Cond.code y_M_write b_M_write 5 none :: x_tbl) { frames := 1, cells := 0, slots := 0, locals := 20 } [.ref md, .int (nI st0), .int (nI cn)] M sz (fun v M' => v = none ∧ ∃ (nu' : Nat → Nat → Nat) (sg' : Nat → Nat → Int32), mRep G M' md am nu' sg' ∧ eqx [23] nu nu' ∧ eqx [24] sg sg' ∧ xfr M M' (mS md am) ∧ nu' 23 = va_up (nu 23) st0 (nu 23 st0 + stS 2) ∧ sg' 24 (60 * st0 + nu 23 st0) = nI (w0 2 cn) ∧ (2 ≠ 0 → sg' 24 (60 * st0 + nu 23 st0 + 1) = nI (w1 2 cn)) ∧ ∀ j, j < 60 * st0 + nu 23 st0 ∨ 60 * st0 + nu 23 st0 + stS 2 ≤ j → sg' 24 j = sg 24 j) (fun _ _ => False) := by
  refine xMet.of (by decide) (Nat.le_of_ble_eq_true rfl) ?_
  intro p e s m below meth c ls hC hr hnm hno hsz hw hl
  obtain ⟨hx, hb, hown, hts, hK, hml, hlk, hz⟩ := id hC
  have hl : lv_has ls 5 [(0, .ref md), (1, .int (nI st0)), (2, .int (nI cn))] := hl
  have hF : xfr M M (mS md am) := xfr.rf
  have hroom : nu 23 st0 + 2 ≤ 60 := hroom
  refine lv_aload_n hx hb d_M_write_0 rfl (lv_at hl 0 rfl) ?_
  refine x_get hC hw hR.1 rfl 22 (by decide) (hts _ k_756) (fun _ h9 => h9) rfl d_M_write_1 ?_
  refine lv_iload_n hx hb d_M_write_4 rfl (lv_at hl 1 rfl) ?_
  refine m_ldI hC hw hR 22 st0 rfl (rfl) (by show _ < 8; omega) (by decide) d_M_write_5 ?_
  refine x_vi (y := nI 2) henc ?_
  refine lv_istore_n (lv' := [(3, .int (nI 2)), (0, .ref md), (1, .int (nI st0)), (2, .int (nI cn))]) hx hb d_M_write_6 rfl hl (by decide) rfl (fun ls hl => ?_)
  refine lv_bipush (v := nI 60) hx hb d_M_write_7 (by decide) ?_
  refine lv_iload_n hx hb d_M_write_9 rfl (lv_at hl 2 rfl) ?_
  refine lv_imul hx hb d_M_write_10 ?_
  refine x_vi (y := nI (60 * st0)) (pk_mul _ _) ?_
  refine lv_aload_n hx hb d_M_write_11 rfl (lv_at hl 1 rfl) ?_
  refine x_get hC hw hR.1 rfl 23 (by decide) (hts _ k_757) (fun _ h9 => h9) rfl d_M_write_12 ?_
  refine lv_iload_n hx hb d_M_write_15 rfl (lv_at hl 2 rfl) ?_
  refine m_ldN hC hw hR 23 st0 rfl (rfl) (by show _ < 8; omega) (by decide) d_M_write_16 ?_
  refine lv_iadd hx hb d_M_write_17 ?_
  refine x_vi (y := nI ((60 * st0) + (nu 23 st0))) (nI_add _ _) ?_
  refine lv_istore (lv' := [(4, .int (nI ((60 * st0) + (nu 23 st0)))), (3, .int (nI 2)), (0, .ref md), (1, .int (nI st0)), (2, .int (nI cn))]) hx hb d_M_write_18 hl (by decide) rfl (fun ls hl => ?_)
  refine lv_iload_n hx hb d_M_write_20 rfl (lv_at hl 1 rfl) ?_
  refine lv_if_ne (tgt := 35) hx hb d_M_write_21 (by decide) (fun c_21 => ?_) (fun c_21 => ?_)
  · refine lv_aload_n hx hb d_M_write_35 rfl (lv_at hl 2 rfl) ?_
    refine x_get hC hw hR.1 rfl 24 (by decide) (hts _ k_758) (fun _ h9 => h9) rfl d_M_write_36 ?_
    refine lv_iload hx hb d_M_write_39 (lv_at hl 0 rfl) ?_
    refine lv_iload_n hx hb d_M_write_41 rfl (lv_at hl 1 rfl) ?_
    refine lv_iconst (v := nI 1) hx hb d_M_write_42 (by decide) ?_
    refine lv_icmp_ne (tgt := 50) hx hb d_M_write_43 (by decide) (fun c_43 => ?_) (fun c_43 => ?_)
    · refine lv_iload_n hx hb d_M_write_50 rfl (lv_at hl 1 rfl) ?_
      refine lv_iconst (v := nI 2) hx hb d_M_write_51 (by decide) ?_
      refine lv_icmp_ne (tgt := 59) hx hb d_M_write_52 (by decide) (fun c_52 => ?_) (fun c_52 => ?_)
      · exact absurd c_52 (by decide +kernel)
      · refine lv_iload_n hx hb d_M_write_55 rfl (lv_at hl 4 rfl) ?_
        refine lv_goto (tgt := 66) hx hb d_M_write_56 (by decide) ?_
        refine m_stI hC hw hR hF 24 ((60 * st0) + (nu 23 st0)) rfl (rfl) (by show _ < 480; omega) (by decide) d_M_write_66 (fun M1 H locs sg2 hsg2 esg2 hR hF hw => ?_)
        refine lv_aload_n hx hb d_M_write_67 rfl (lv_at hl 2 rfl) ?_
        refine x_get hC hw hR.1 rfl 24 (by decide) (hts _ k_758) (fun _ h9 => h9) rfl d_M_write_68 ?_
        refine lv_iload hx hb d_M_write_71 (lv_at hl 0 rfl) ?_
        refine lv_iconst (v := nI 1) hx hb d_M_write_73 (by decide) ?_
        refine lv_iadd hx hb d_M_write_74 ?_
        refine x_vi (y := nI (((60 * st0) + (nu 23 st0)) + 1)) (nI_add _ _) ?_
        refine lv_iload_n hx hb d_M_write_75 rfl (lv_at hl 1 rfl) ?_
        refine lv_iconst (v := nI 1) hx hb d_M_write_76 (by decide) ?_
        refine lv_icmp_ne (tgt := 84) hx hb d_M_write_77 (by decide) (fun c_77 => ?_) (fun c_77 => ?_)
        · refine lv_iload_n hx hb d_M_write_84 rfl (lv_at hl 1 rfl) ?_
          refine lv_iconst (v := nI 2) hx hb d_M_write_85 (by decide) ?_
          refine lv_icmp_ne (tgt := 93) hx hb d_M_write_86 (by decide) (fun c_86 => ?_) (fun c_86 => ?_)
          · exact absurd c_86 (by decide +kernel)
          · refine lv_iconst (v := nI 0) hx hb d_M_write_89 (by decide) ?_
            refine lv_goto (tgt := 100) hx hb d_M_write_90 (by decide) ?_
            refine m_stI hC hw hR hF 24 (((60 * st0) + (nu 23 st0)) + 1) rfl (rfl) (by show _ < 480; omega) (by decide) d_M_write_100 (fun M3 H locs sg4 hsg4 esg4 hR hF hw => ?_)
            refine lv_aload_n hx hb d_M_write_101 rfl (lv_at hl 2 rfl) ?_
            refine x_get hC hw hR.1 rfl 23 (by decide) (hts _ k_757) (fun _ h9 => h9) rfl d_M_write_102 ?_
            refine lv_iload_n hx hb d_M_write_105 rfl (lv_at hl 3 rfl) ?_
            refine lv_aload_n hx hb d_M_write_106 rfl (lv_at hl 2 rfl) ?_
            refine x_get hC hw hR.1 rfl 23 (by decide) (hts _ k_757) (fun _ h9 => h9) rfl d_M_write_107 ?_
            refine lv_iload_n hx hb d_M_write_110 rfl (lv_at hl 3 rfl) ?_
            refine m_ldN hC hw hR 23 st0 rfl (rfl) (by show _ < 8; omega) (by decide) d_M_write_111 ?_
            refine lv_iload_n hx hb d_M_write_112 rfl (lv_at hl 1 rfl) ?_
            refine lv_if_ne (tgt := 120) hx hb d_M_write_113 (by decide) (fun c_113 => ?_) (fun c_113 => ?_)
            · refine lv_iconst (v := nI 2) hx hb d_M_write_120 (by decide) ?_
              refine lv_iadd hx hb d_M_write_121 ?_
              refine x_vi (y := nI ((nu 23 st0) + 2)) (nI_add _ _) ?_
              refine m_stN hC hw hR hF 23 st0 ((nu 23 st0) + 2) rfl (rfl) rfl (by show _ < 8; omega) (by decide) d_M_write_122 (fun M5 H locs nu6 hnu6 enu6 hR hF hw => ?_)
              exact x_vret hC hr hw (⟨rfl, nu6, sg4, hR, (eqx.trans (L := [23]) (eqx.rf (L := [23])) hnu6 (by decide) (by decide)), (eqx.trans (L := [24]) (eqx.trans (L := [24]) (eqx.rf (L := [24])) hsg2 (by decide) (by decide)) hsg4 (by decide) (by decide)), hF, (show nu6 23 = va_up (nu 23) st0 (nu 23 st0 + 2) from (by rw [enu6])), (show sg4 24 (60 * st0 + nu 23 st0) = nI cn from by rw [esg4, esg2, va_up_ne _ _ (by omega), va_up_self]), (show _ → sg4 24 (60 * st0 + nu 23 st0 + 1) = nI 0 from fun _ => by rw [esg4, va_up_self]), fun j hj => by have hj : j < 60 * st0 + nu 23 st0 ∨ 60 * st0 + nu 23 st0 + 2 ≤ j := hj; rw [esg4, esg2, va_up_ne _ _ (by omega), va_up_ne _ _ (by omega)]⟩) (Nat.le_of_ble_eq_true rfl) (Nat.le_of_ble_eq_true rfl) d_M_write_123
            · exact absurd c_113 (by decide +kernel)
        · exact absurd c_77 (by decide +kernel)
    · exact absurd c_43 (by decide +kernel)
  · exact absurd c_21 (by decide +kernel)

set_option maxHeartbeats 1000000 in
set_option maxRecDepth 100000 in
/-- write, encoding 3 -/
theorem c_M_write3 (l : Launch) (G : xT) (M : xMem) (sz : Nat) (md : Nat) (am : Nat → Nat) (nu : Nat → Nat → Nat) (sg : Nat → Nat → Int32) (hR : mRep G M md am nu sg) (st0 cn : Nat) (hs8 : st0 < 8) (hcn : cn < 256) (henc : sg 22 st0 = nI 3) (hroom : nu 23 st0 + stS 3 ≤ 60) : xMet l G y_M_write (Cond.code y_M_write b_M_write 5 none :: x_tbl) { frames := 1, cells := 0, slots := 0, locals := 20 } [.ref md, .int (nI st0), .int (nI cn)] M sz (fun v M' => v = none ∧ ∃ (nu' : Nat → Nat → Nat) (sg' : Nat → Nat → Int32), mRep G M' md am nu' sg' ∧ eqx [23] nu nu' ∧ eqx [24] sg sg' ∧ xfr M M' (mS md am) ∧ nu' 23 = va_up (nu 23) st0 (nu 23 st0 + stS 3) ∧ sg' 24 (60 * st0 + nu 23 st0) = nI (w0 3 cn) ∧ (3 ≠ 0 → sg' 24 (60 * st0 + nu 23 st0 + 1) = nI (w1 3 cn)) ∧ ∀ j, j < 60 * st0 + nu 23 st0 ∨ 60 * st0 + nu 23 st0 + stS 3 ≤ j → sg' 24 j = sg 24 j) (fun _ _ => False) := by
  refine xMet.of (by decide) (Nat.le_of_ble_eq_true rfl) ?_
  intro p e s m below meth c ls hC hr hnm hno hsz hw hl
  obtain ⟨hx, hb, hown, hts, hK, hml, hlk, hz⟩ := id hC
  have hl : lv_has ls 5 [(0, .ref md), (1, .int (nI st0)), (2, .int (nI cn))] := hl
  have hF : xfr M M (mS md am) := xfr.rf
  have hroom : nu 23 st0 + 2 ≤ 60 := hroom
  refine lv_aload_n hx hb d_M_write_0 rfl (lv_at hl 0 rfl) ?_
  refine x_get hC hw hR.1 rfl 22 (by decide) (hts _ k_756) (fun _ h9 => h9) rfl d_M_write_1 ?_
  refine lv_iload_n hx hb d_M_write_4 rfl (lv_at hl 1 rfl) ?_
  refine m_ldI hC hw hR 22 st0 rfl (rfl) (by show _ < 8; omega) (by decide) d_M_write_5 ?_
  refine x_vi (y := nI 3) henc ?_
  refine lv_istore_n (lv' := [(3, .int (nI 3)), (0, .ref md), (1, .int (nI st0)), (2, .int (nI cn))]) hx hb d_M_write_6 rfl hl (by decide) rfl (fun ls hl => ?_)
  refine lv_bipush (v := nI 60) hx hb d_M_write_7 (by decide) ?_
  refine lv_iload_n hx hb d_M_write_9 rfl (lv_at hl 2 rfl) ?_
  refine lv_imul hx hb d_M_write_10 ?_
  refine x_vi (y := nI (60 * st0)) (pk_mul _ _) ?_
  refine lv_aload_n hx hb d_M_write_11 rfl (lv_at hl 1 rfl) ?_
  refine x_get hC hw hR.1 rfl 23 (by decide) (hts _ k_757) (fun _ h9 => h9) rfl d_M_write_12 ?_
  refine lv_iload_n hx hb d_M_write_15 rfl (lv_at hl 2 rfl) ?_
  refine m_ldN hC hw hR 23 st0 rfl (rfl) (by show _ < 8; omega) (by decide) d_M_write_16 ?_
  refine lv_iadd hx hb d_M_write_17 ?_
  refine x_vi (y := nI ((60 * st0) + (nu 23 st0))) (nI_add _ _) ?_
  refine lv_istore (lv' := [(4, .int (nI ((60 * st0) + (nu 23 st0)))), (3, .int (nI 3)), (0, .ref md), (1, .int (nI st0)), (2, .int (nI cn))]) hx hb d_M_write_18 hl (by decide) rfl (fun ls hl => ?_)
  refine lv_iload_n hx hb d_M_write_20 rfl (lv_at hl 1 rfl) ?_
  refine lv_if_ne (tgt := 35) hx hb d_M_write_21 (by decide) (fun c_21 => ?_) (fun c_21 => ?_)
  · refine lv_aload_n hx hb d_M_write_35 rfl (lv_at hl 2 rfl) ?_
    refine x_get hC hw hR.1 rfl 24 (by decide) (hts _ k_758) (fun _ h9 => h9) rfl d_M_write_36 ?_
    refine lv_iload hx hb d_M_write_39 (lv_at hl 0 rfl) ?_
    refine lv_iload_n hx hb d_M_write_41 rfl (lv_at hl 1 rfl) ?_
    refine lv_iconst (v := nI 1) hx hb d_M_write_42 (by decide) ?_
    refine lv_icmp_ne (tgt := 50) hx hb d_M_write_43 (by decide) (fun c_43 => ?_) (fun c_43 => ?_)
    · refine lv_iload_n hx hb d_M_write_50 rfl (lv_at hl 1 rfl) ?_
      refine lv_iconst (v := nI 2) hx hb d_M_write_51 (by decide) ?_
      refine lv_icmp_ne (tgt := 59) hx hb d_M_write_52 (by decide) (fun c_52 => ?_) (fun c_52 => ?_)
      · refine lv_iload_n hx hb d_M_write_59 rfl (lv_at hl 4 rfl) ?_
        refine lv_bipush (v := nI 16) hx hb d_M_write_60 (by decide) ?_
        refine lv_idiv hx hb d_M_write_62 (by decide +kernel) ?_
        refine x_vi (y := nI (cn / 16)) (x_div (by omega) (by omega)) ?_
        refine x_callG hC (c_M_hex l G M (Array.size s.heap) (cn / 16) (by omega)) k_939 k_13 ⟨Nat.le_of_ble_eq_true rfl, Nat.le_of_ble_eq_true rfl⟩ ⟨Nat.le_of_ble_eq_true rfl, Nat.le_of_ble_eq_true rfl⟩ hw hl.1 (Nat.le_of_ble_eq_true rfl) d_M_write_63 (x_ivS hC k_939 k_937 k_938 k_13 (show _ ∧ _ ∧ _ = some 1 from by decide +kernel) rfl d_M_write_63) (fun rv M1 H locs hq hw => ?_) (fun _ _ _ _ _ h _ _ => h.elim)
        obtain ⟨rfl, hM⟩ := hq
        subst M1
        refine W.eq (g2 := F0 m 66 ls [.int (nI (hxN (cn / 16))), .int (nI ((60 * st0) + (nu 23 st0))), .ref (am 24)]) rfl ?_
        refine m_stI hC hw hR hF 24 ((60 * st0) + (nu 23 st0)) rfl (rfl) (by show _ < 480; omega) (by decide) d_M_write_66 (fun M2 H locs sg3 hsg3 esg3 hR hF hw => ?_)
        refine lv_aload_n hx hb d_M_write_67 rfl (lv_at hl 2 rfl) ?_
        refine x_get hC hw hR.1 rfl 24 (by decide) (hts _ k_758) (fun _ h9 => h9) rfl d_M_write_68 ?_
        refine lv_iload hx hb d_M_write_71 (lv_at hl 0 rfl) ?_
        refine lv_iconst (v := nI 1) hx hb d_M_write_73 (by decide) ?_
        refine lv_iadd hx hb d_M_write_74 ?_
        refine x_vi (y := nI (((60 * st0) + (nu 23 st0)) + 1)) (nI_add _ _) ?_
        refine lv_iload_n hx hb d_M_write_75 rfl (lv_at hl 1 rfl) ?_
        refine lv_iconst (v := nI 1) hx hb d_M_write_76 (by decide) ?_
        refine lv_icmp_ne (tgt := 84) hx hb d_M_write_77 (by decide) (fun c_77 => ?_) (fun c_77 => ?_)
        · refine lv_iload_n hx hb d_M_write_84 rfl (lv_at hl 1 rfl) ?_
          refine lv_iconst (v := nI 2) hx hb d_M_write_85 (by decide) ?_
          refine lv_icmp_ne (tgt := 93) hx hb d_M_write_86 (by decide) (fun c_86 => ?_) (fun c_86 => ?_)
          · refine lv_iload_n hx hb d_M_write_93 rfl (lv_at hl 4 rfl) ?_
            refine lv_bipush (v := nI 16) hx hb d_M_write_94 (by decide) ?_
            refine lv_irem hx hb d_M_write_96 (by decide +kernel) ?_
            refine x_vi (y := nI (cn % 16)) (x_rem (by omega) (by omega)) ?_
            refine x_callG hC (c_M_hex l G M2 (Array.size H) (cn % 16) (by omega)) k_939 k_13 ⟨Nat.le_of_ble_eq_true rfl, Nat.le_of_ble_eq_true rfl⟩ ⟨Nat.le_of_ble_eq_true rfl, Nat.le_of_ble_eq_true rfl⟩ hw hl.1 (Nat.le_of_ble_eq_true rfl) d_M_write_97 (x_ivS hC k_939 k_937 k_938 k_13 (show _ ∧ _ ∧ _ = some 1 from by decide +kernel) rfl d_M_write_97) (fun rv M4 H locs hq hw => ?_) (fun _ _ _ _ _ h _ _ => h.elim)
            obtain ⟨rfl, hM⟩ := hq
            subst M4
            refine W.eq (g2 := F0 m 100 ls [.int (nI (hxN (cn % 16))), .int (nI (((60 * st0) + (nu 23 st0)) + 1)), .ref (am 24)]) rfl ?_
            refine m_stI hC hw hR hF 24 (((60 * st0) + (nu 23 st0)) + 1) rfl (rfl) (by show _ < 480; omega) (by decide) d_M_write_100 (fun M5 H locs sg6 hsg6 esg6 hR hF hw => ?_)
            refine lv_aload_n hx hb d_M_write_101 rfl (lv_at hl 2 rfl) ?_
            refine x_get hC hw hR.1 rfl 23 (by decide) (hts _ k_757) (fun _ h9 => h9) rfl d_M_write_102 ?_
            refine lv_iload_n hx hb d_M_write_105 rfl (lv_at hl 3 rfl) ?_
            refine lv_aload_n hx hb d_M_write_106 rfl (lv_at hl 2 rfl) ?_
            refine x_get hC hw hR.1 rfl 23 (by decide) (hts _ k_757) (fun _ h9 => h9) rfl d_M_write_107 ?_
            refine lv_iload_n hx hb d_M_write_110 rfl (lv_at hl 3 rfl) ?_
            refine m_ldN hC hw hR 23 st0 rfl (rfl) (by show _ < 8; omega) (by decide) d_M_write_111 ?_
            refine lv_iload_n hx hb d_M_write_112 rfl (lv_at hl 1 rfl) ?_
            refine lv_if_ne (tgt := 120) hx hb d_M_write_113 (by decide) (fun c_113 => ?_) (fun c_113 => ?_)
            · refine lv_iconst (v := nI 2) hx hb d_M_write_120 (by decide) ?_
              refine lv_iadd hx hb d_M_write_121 ?_
              refine x_vi (y := nI ((nu 23 st0) + 2)) (nI_add _ _) ?_
              refine m_stN hC hw hR hF 23 st0 ((nu 23 st0) + 2) rfl (rfl) rfl (by show _ < 8; omega) (by decide) d_M_write_122 (fun M7 H locs nu8 hnu8 enu8 hR hF hw => ?_)
              exact x_vret hC hr hw (⟨rfl, nu8, sg6, hR, (eqx.trans (L := [23]) (eqx.rf (L := [23])) hnu8 (by decide) (by decide)), (eqx.trans (L := [24]) (eqx.trans (L := [24]) (eqx.rf (L := [24])) hsg3 (by decide) (by decide)) hsg6 (by decide) (by decide)), hF, (show nu8 23 = va_up (nu 23) st0 (nu 23 st0 + 2) from (by rw [enu8])), (show sg6 24 (60 * st0 + nu 23 st0) = nI (hxN (cn / 16)) from by rw [esg6, esg3, va_up_ne _ _ (by omega), va_up_self]), (show _ → sg6 24 (60 * st0 + nu 23 st0 + 1) = nI (hxN (cn % 16)) from fun _ => by rw [esg6, va_up_self]), fun j hj => by have hj : j < 60 * st0 + nu 23 st0 ∨ 60 * st0 + nu 23 st0 + 2 ≤ j := hj; rw [esg6, esg3, va_up_ne _ _ (by omega), va_up_ne _ _ (by omega)]⟩) (Nat.le_of_ble_eq_true rfl) (Nat.le_of_ble_eq_true rfl) d_M_write_123
            · exact absurd c_113 (by decide +kernel)
          · exact absurd c_86 (by decide +kernel)
        · exact absurd c_77 (by decide +kernel)
      · exact absurd c_52 (by decide +kernel)
    · exact absurd c_43 (by decide +kernel)
  · exact absurd c_21 (by decide +kernel)

theorem c_M_write (l : Launch) (G : xT) (M : xMem) (sz : Nat) (md : Nat) (am : Nat → Nat) (nu : Nat → Nat → Nat) (sg : Nat → Nat → Int32) (hR : mRep G M md am nu sg) (st0 cn en : Nat) (hen : en < 4) (hs8 : st0 < 8) (hcn : cn < 256) (henc : sg 22 st0 = nI en) (hroom : nu 23 st0 + stS en ≤ 60) : xMet l G y_M_write (Cond.code y_M_write b_M_write 5 none :: x_tbl) { frames := 1, cells := 0, slots := 0, locals := 20 } [.ref md, .int (nI st0), .int (nI cn)] M sz (fun v M' => v = none ∧ ∃ (nu' : Nat → Nat → Nat) (sg' : Nat → Nat → Int32), mRep G M' md am nu' sg' ∧ eqx [23] nu nu' ∧ eqx [24] sg sg' ∧ xfr M M' (mS md am) ∧ nu' 23 = va_up (nu 23) st0 (nu 23 st0 + stS en) ∧ sg' 24 (60 * st0 + nu 23 st0) = nI (w0 en cn) ∧ (en ≠ 0 → sg' 24 (60 * st0 + nu 23 st0 + 1) = nI (w1 en cn)) ∧ ∀ j, j < 60 * st0 + nu 23 st0 ∨ 60 * st0 + nu 23 st0 + stS en ≤ j → sg' 24 j = sg 24 j) (fun _ _ => False) := by
  match en, hen, henc, hroom with
  | 0, _, henc, hroom => exact c_M_write0 l G M sz md am nu sg hR st0 cn hs8 hcn henc hroom
  | 1, _, henc, hroom => exact c_M_write1 l G M sz md am nu sg hR st0 cn hs8 hcn henc hroom
  | 2, _, henc, hroom => exact c_M_write2 l G M sz md am nu sg hR st0 cn hs8 hcn henc hroom
  | 3, _, henc, hroom => exact c_M_write3 l G M sz md am nu sg hR st0 cn hs8 hcn henc hroom
set_option maxHeartbeats 1000000 in
set_option maxRecDepth 100000 in
/-- cutStore -/
theorem c_M_cutStore (l : Launch) (G : xT) (M : xMem) (sz : Nat) (md : Nat) (am : Nat → Nat) (nu : Nat → Nat → Nat) (sg : Nat → Nat → Int32) (hR : mRep G M md am nu sg) (st0 en : Nat) (hen : en < 4) (hs8 : st0 < 8) (hs : nu 23 st0 ≤ 60) (henc : sg 22 st0 = nI en) (h4 : nu 12 0 ≤ 4) (h8 : ∀ w, w < nu 12 0 → nu 13 w ≤ 8) (hrow : wellP (sg 24) en (60 * st0) (nu 23 st0) → ∀ i, i < stN en (nu 23 st0) → okB (sRow (sg 24) en (60 * st0) i)) : xMet l G y_M_cutStore (Cond.code y_M_cutStore b_M_cutStore 5 (Option.some Jvm.ClassFile.FieldType.int) :: x_tbl) { frames := 3, cells := 0, slots := 0, locals := 76 } [.ref md, .int (nI st0)] M sz (fun v M' => v = some (.int (nI (csN (wellP (sg 24) en (60 * st0) (nu 23 st0)) (cnt (iwP nu sg (sRow (sg 24) en (60 * st0)) (stN en (nu 23 st0))) (stN en (nu 23 st0)))))) ∧ ∃ (nu' : Nat → Nat → Nat) (sg' : Nat → Nat → Int32), mRep G M' md am nu' sg' ∧ eqx [23, 29] nu nu' ∧ eqx [24, 30, 31] sg sg' ∧ xfr M M' (mS md am) ∧ ((wellP (sg 24) en (60 * st0) (nu 23 st0)) → nu' 23 = va_up (nu 23) st0 (stI en (kp (iwP nu sg (sRow (sg 24) en (60 * st0)) (stN en (nu 23 st0))) (stN en (nu 23 st0)))) ∧ wrI (iwP nu sg (sRow (sg 24) en (60 * st0)) (stN en (nu 23 st0))) en (60 * st0) (stN en (nu 23 st0)) (cV (iwP nu sg (sRow (sg 24) en (60 * st0)) (stN en (nu 23 st0))) (nI 42) (sRow (sg 24) en (60 * st0)) 0) (sg 24) (sg' 24)) ∧ (¬ (wellP (sg 24) en (60 * st0) (nu 23 st0)) → nu' 23 = va_up (nu 23) st0 0 ∧ sg' 24 = sg 24)) (fun _ _ => False) := by
  refine xMet.of (by decide) (Nat.le_of_ble_eq_true rfl) ?_
  intro p e s m below meth c ls hC hr hnm hno hsz hw hl
  obtain ⟨hx, hb, hown, hts, hK, hml, hlk, hz⟩ := id hC
  have hl : lv_has ls 5 [(0, .ref md), (1, .int (nI st0))] := hl
  have hF : xfr M M (mS md am) := xfr.rf
  refine lv_aload_n hx hb d_M_cutStore_0 rfl (lv_at hl 0 rfl) ?_
  refine lv_iload_n hx hb d_M_cutStore_1 rfl (lv_at hl 1 rfl) ?_
  refine lv_aload_n hx hb d_M_cutStore_2 rfl (lv_at hl 0 rfl) ?_
  refine x_get hC hw hR.1 rfl 22 (by decide) (hts _ k_756) (fun _ h9 => h9) rfl d_M_cutStore_3 ?_
  refine lv_iload_n hx hb d_M_cutStore_6 rfl (lv_at hl 1 rfl) ?_
  refine m_ldI hC hw hR 22 st0 rfl (rfl) (by show _ < 8; omega) (by decide) d_M_cutStore_7 ?_
  refine x_vi (y := nI en) henc ?_
  refine x_callG hC (c_M_takeStore l G M (Array.size s.heap) md am nu sg hR st0 en hen hs8 hs) k_929 k_13 ⟨Nat.le_of_ble_eq_true rfl, Nat.le_of_ble_eq_true rfl⟩ ⟨Nat.le_of_ble_eq_true rfl, Nat.le_of_ble_eq_true rfl⟩ hw hl.1 (Nat.le_of_ble_eq_true rfl) d_M_cutStore_8 (x_ivV hC k_929 k_926 k_928 kp_33 (show _ ∧ _ ∧ _ = some 2 from by decide +kernel) (x_recv hC hw hR.1 rfl) rfl d_M_cutStore_8) (fun rv M1 H locs hq hw => ?_) (fun _ _ _ _ _ h _ _ => h.elim)
  obtain ⟨rfl, nu2, sg3, hR, hnu2, hsg3, fr, hts0⟩ := hq
  have hF := hF.trans fr (fun _ h => Or.inl h)
  refine W.eq (g2 := F0 m 11 ls [.int (zI (wellP (sg 24) en (60 * st0) (nu 23 st0)))]) rfl ?_
  refine lv_istore_n (lv' := [(2, .int (zI (wellP (sg 24) en (60 * st0) (nu 23 st0)))), (0, .ref md), (1, .int (nI st0))]) hx hb d_M_cutStore_11 rfl hl (by decide) rfl (fun ls hl => ?_)
  refine lv_aload_n hx hb d_M_cutStore_12 rfl (lv_at hl 1 rfl) ?_
  refine x_get hC hw hR.1 rfl 23 (by decide) (hts _ k_757) (fun _ h9 => h9) rfl d_M_cutStore_13 ?_
  refine lv_iload_n hx hb d_M_cutStore_16 rfl (lv_at hl 2 rfl) ?_
  refine lv_iconst (v := nI 0) hx hb d_M_cutStore_17 (by decide) ?_
  refine m_stN hC hw hR hF 23 st0 0 rfl (rfl) rfl (by show _ < 8; omega) (by decide) d_M_cutStore_18 (fun M4 H locs nu5 hnu5 enu5 hR hF hw => ?_)
  refine lv_iload_n hx hb d_M_cutStore_19 rfl (lv_at hl 0 rfl) ?_
  refine lv_if_ne (tgt := 25) hx hb d_M_cutStore_20 (by decide) (fun c_20 => ?_) (fun c_20 => ?_)
  · have c_20 := zI_1.mp c_20
    obtain ⟨q29, q30⟩ := hts0 c_20
    have hrs := stN_le en (nu 23 st0)
    refine lv_aload_n hx hb d_M_cutStore_25 rfl (lv_at hl 1 rfl) ?_
    refine x_callG hC (c_M_findWords l G M4 (Array.size H) md am nu5 sg3 hR (by rw [hnu5 12 (by decide), hnu2 12 (by decide)]; exact h4) (by rw [hnu5 12 (by decide), hnu2 12 (by decide), hnu5 13 (by decide), hnu2 13 (by decide)]; exact h8) (by rw [hnu5 29 (by decide), q29]; omega)) k_898 k_13 ⟨Nat.le_of_ble_eq_true rfl, Nat.le_of_ble_eq_true rfl⟩ ⟨Nat.le_of_ble_eq_true rfl, Nat.le_of_ble_eq_true rfl⟩ hw hl.1 (Nat.le_of_ble_eq_true rfl) d_M_cutStore_26 (x_ivV hC k_898 k_895 k_897 kp_26 (show _ ∧ _ ∧ _ = some 0 from by decide +kernel) (x_recv hC hw hR.1 rfl) rfl d_M_cutStore_26) (fun rv M6 H locs hq hw => ?_) (fun _ _ _ _ _ h _ _ => h.elim)
    obtain ⟨rfl, nu7, sg8, hR, hnu7, hsg8, fr, q31⟩ := hq
    have hF := hF.trans fr (fun _ h => Or.inl h)
    refine W.eq (g2 := F0 m 29 ls []) rfl ?_
    have q31 : ∀ k, k < stN en (nu 23 st0) → sg8 31 k = zI (iwP nu sg (sRow (sg 24) en (60 * st0)) (stN en (nu 23 st0)) k) := fun k hk => (q31 k (by rw [hnu5 29 (by decide), q29]; exact hk)).trans (zI_c (Iff.trans (iwP_n (nu' := nu5) (sg' := sg3) (nu := nu) (sg := sg) (by rw [hnu5 12 (by decide), hnu2 12 (by decide)]) (by rw [hnu5 13 (by decide), hnu2 13 (by decide)]) (by rw [hsg3 14 (by decide)])) (by rw [hnu5 29 (by decide), q29]; exact iwP_c (fun j hj => q30 j hj))))
    refine lv_iconst (v := nI 0) hx hb d_M_cutStore_29 (by decide) ?_
    refine lv_istore_n (lv' := [(3, .int (nI 0)), (2, .int (zI (wellP (sg 24) en (60 * st0) (nu 23 st0)))), (0, .ref md), (1, .int (nI st0))]) hx hb d_M_cutStore_30 rfl hl (by decide) rfl (fun ls hl => ?_)
    refine lv_iconst (v := nI 0) hx hb d_M_cutStore_31 (by decide) ?_
    refine lv_istore (lv' := [(4, .int (nI 0)), (3, .int (nI 0)), (2, .int (zI (wellP (sg 24) en (60 * st0) (nu 23 st0)))), (0, .ref md), (1, .int (nI st0))]) hx hb d_M_cutStore_32 hl (by decide) rfl (fun ls hl => ?_)
    have HL34 : ∀ (z34 k : Nat) (nuL9 : Nat → Nat → Nat) (sgL10 : Nat → Nat → Int32), k ≤ stN en (nu 23 st0) → stN en (nu 23 st0) + 1 ≤ k + z34 → (nuL9 23 = va_up (nu 23) st0 (stI en (kp (iwP nu sg (sRow (sg 24) en (60 * st0)) (stN en (nu 23 st0))) k))) → (wrI (iwP nu sg (sRow (sg 24) en (60 * st0)) (stN en (nu 23 st0))) en (60 * st0) k (cV (iwP nu sg (sRow (sg 24) en (60 * st0)) (stN en (nu 23 st0))) (nI 42) (sRow (sg 24) en (60 * st0)) 0) (sg 24) (sgL10 24)) → ∀ (M1 : xMem), mRep G M1 md am nuL9 sgL10 → eqx [23] nu7 nuL9 → eqx [24] sg8 sgL10 → xfr M M1 (mS md am) → ∀ (H : Heap) (locs : List Loc) (ls : Array Slot), xWd G (xA M sz) s.heap M1 H locs → lv_has ls 5 [(0, .ref md), (1, .int (nI st0)), (3, .int (nI (cnt (iwP nu sg (sRow (sg 24) en (60 * st0)) (stN en (nu 23 st0))) k))), (4, .int (nI k))] → W p l e { frames := 3, cells := 0, slots := 0, locals := 76 } s m ([.ref md, .int (nI st0)] : List Value).toArray below meth c H locs 0 0 (xMQ below G M sz (fun v M' => v = some (.int (nI (csN (wellP (sg 24) en (60 * st0) (nu 23 st0)) (cnt (iwP nu sg (sRow (sg 24) en (60 * st0)) (stN en (nu 23 st0))) (stN en (nu 23 st0)))))) ∧ ∃ (nu' : Nat → Nat → Nat) (sg' : Nat → Nat → Int32), mRep G M' md am nu' sg' ∧ eqx [23, 29] nu nu' ∧ eqx [24, 30, 31] sg sg' ∧ xfr M M' (mS md am) ∧ ((wellP (sg 24) en (60 * st0) (nu 23 st0)) → nu' 23 = va_up (nu 23) st0 (stI en (kp (iwP nu sg (sRow (sg 24) en (60 * st0)) (stN en (nu 23 st0))) (stN en (nu 23 st0)))) ∧ wrI (iwP nu sg (sRow (sg 24) en (60 * st0)) (stN en (nu 23 st0))) en (60 * st0) (stN en (nu 23 st0)) (cV (iwP nu sg (sRow (sg 24) en (60 * st0)) (stN en (nu 23 st0))) (nI 42) (sRow (sg 24) en (60 * st0)) 0) (sg 24) (sg' 24)) ∧ (¬ (wellP (sg 24) en (60 * st0) (nu 23 st0)) → nu' 23 = va_up (nu 23) st0 0 ∧ sg' 24 = sg 24)) (fun _ _ => False) s 0 0) (F0 m 34 ls []) := by
      intro z34
      induction z34 with
      | zero =>
        intro k  nuL9 sgL10 h1 h2
        omega
      | succ z34 ih34 =>
        intro k  nuL9 sgL10 hi34 hz34 n1 hwr M1 hR hnuL9 hsgL10 hF H locs ls hw hl
        have hkk := kp_le (iwP nu sg (sRow (sg 24) en (60 * st0)) (stN en (nu 23 st0))) k
        have hcc := cnt_le (iwP nu sg (sRow (sg 24) en (60 * st0)) (stN en (nu 23 st0))) k
        refine lv_iload hx hb d_M_cutStore_34 (lv_at hl 3 rfl) ?_
        refine lv_aload_n hx hb d_M_cutStore_36 rfl (lv_at hl 0 rfl) ?_
        refine x_get hC hw hR.1 rfl 29 (by decide) (hts _ k_763) (fun _ h9 => h9) rfl d_M_cutStore_37 ?_
        refine x_vi (y := nI (stN en (nu 23 st0))) (by rw [hnuL9 29 (by decide), hnu7 29 (by decide), hnu5 29 (by decide), q29]) ?_
        refine lv_icmp_ge (tgt := 116) hx hb d_M_cutStore_40 (by decide) (fun c_40 => ?_) (fun c_40 => ?_)
        · have c_40 := (nI_leI (by omega) (by omega)).mp c_40
          refine lv_iload_n hx hb d_M_cutStore_116 rfl (lv_at hl 2 rfl) ?_
          have hke : k = stN en (nu 23 st0) := by omega
          subst hke
          exact x_iret hC hr hw (⟨by rw [csN_t c_20], nuL9, sgL10, hR, (eqx.trans (L := [23, 29]) (eqx.trans (L := [23, 29]) (eqx.trans (L := [23, 29]) (eqx.trans (L := [23, 29]) (eqx.rf (L := [23, 29])) hnu2 (by decide) (by decide)) hnu5 (by decide) (by decide)) hnu7 (by decide) (by decide)) hnuL9 (by decide) (by decide)), (eqx.trans (L := [24, 30, 31]) (eqx.trans (L := [24, 30, 31]) (eqx.trans (L := [24, 30, 31]) (eqx.rf (L := [24, 30, 31])) hsg3 (by decide) (by decide)) hsg8 (by decide) (by decide)) hsgL10 (by decide) (by decide)), hF, fun _ => ⟨n1, hwr⟩, fun h => absurd c_20 h⟩) (Nat.le_of_ble_eq_true rfl) (Nat.le_of_ble_eq_true rfl) d_M_cutStore_117
        · have c_40 := Nat.not_le.mp ((not_congr (nI_leI (by omega) (by omega))).mp c_40)
          refine lv_aload_n hx hb d_M_cutStore_43 rfl (lv_at hl 0 rfl) ?_
          refine x_get hC hw hR.1 rfl 31 (by decide) (hts _ k_765) (fun _ h9 => h9) rfl d_M_cutStore_44 ?_
          refine lv_iload hx hb d_M_cutStore_47 (lv_at hl 3 rfl) ?_
          refine m_ldZ hC hw hR 31 k rfl (rfl) (by show _ < 60; omega) (by decide) d_M_cutStore_49 ?_
          refine x_vi (y := sg8 31 k) (by rw [hsgL10 31 (by decide)]) ?_
          refine x_vi (y := zI (iwP nu sg (sRow (sg 24) en (60 * st0)) (stN en (nu 23 st0)) k)) (q31 k (by omega)) ?_
          refine lv_if_ne (tgt := 68) hx hb d_M_cutStore_50 (by decide) (fun c_50 => ?_) (fun c_50 => ?_)
          · have c_50 := zI_1.mp c_50
            refine lv_iload hx hb d_M_cutStore_68 (lv_at hl 3 rfl) ?_
            refine lv_if_eq (tgt := 85) hx hb d_M_cutStore_70 (by decide) (fun c_70 => ?_) (fun c_70 => ?_)
            · have c_70 := (x_eq0 (by omega)).mp c_70
              refine lv_aload_n hx hb d_M_cutStore_85 rfl (lv_at hl 0 rfl) ?_
              refine lv_iload_n hx hb d_M_cutStore_86 rfl (lv_at hl 1 rfl) ?_
              refine lv_bipush (v := nI 42) hx hb d_M_cutStore_87 (by decide) ?_
              have hrm := stI_room (en := en) (show kp (iwP nu sg (sRow (sg 24) en (60 * st0)) (stN en (nu 23 st0))) k < stN en (nu 23 st0) by omega)
              refine x_callG hC (c_M_write l G M1 (Array.size H) md am nuL9 sgL10 hR st0 (42) en hen hs8 (by decide) (by rw [hsgL10 22 (by decide), hsg8 22 (by decide), hsg3 22 (by decide)]; exact henc) (by rw [n1, va_up_self]; omega)) k_936 k_13 ⟨Nat.le_of_ble_eq_true rfl, Nat.le_of_ble_eq_true rfl⟩ ⟨Nat.le_of_ble_eq_true rfl, Nat.le_of_ble_eq_true rfl⟩ hw hl.1 (Nat.le_of_ble_eq_true rfl) d_M_cutStore_89 (x_ivV hC k_936 k_933 k_935 kp_34 (show _ ∧ _ ∧ _ = some 2 from by decide +kernel) (x_recv hC hw hR.1 rfl) rfl d_M_cutStore_89) (fun rv M11 H locs hq hw => ?_) (fun _ _ _ _ _ h _ _ => h.elim)
              obtain ⟨rfl, nu12, sg13, hR, hnu12, hsg13, fr, f1, f2, f3, f4⟩ := hq
              have hF := hF.trans fr (fun _ h => Or.inl h)
              refine W.eq (g2 := F0 m 92 ls []) rfl ?_
              have J109 : ∀ (H : Heap) (locs : List Loc) (ls : Array Slot), xWd G (xA M sz) s.heap M11 H locs → lv_has ls 5 [(0, .ref md), (1, .int (nI st0)), (3, .int (nI (cnt (iwP nu sg (sRow (sg 24) en (60 * st0)) (stN en (nu 23 st0))) k))), (4, .int (nI k))] → W p l e { frames := 3, cells := 0, slots := 0, locals := 76 } s m ([.ref md, .int (nI st0)] : List Value).toArray below meth c H locs 0 0 (xMQ below G M sz (fun v M' => v = some (.int (nI (csN (wellP (sg 24) en (60 * st0) (nu 23 st0)) (cnt (iwP nu sg (sRow (sg 24) en (60 * st0)) (stN en (nu 23 st0))) (stN en (nu 23 st0)))))) ∧ ∃ (nu' : Nat → Nat → Nat) (sg' : Nat → Nat → Int32), mRep G M' md am nu' sg' ∧ eqx [23, 29] nu nu' ∧ eqx [24, 30, 31] sg sg' ∧ xfr M M' (mS md am) ∧ ((wellP (sg 24) en (60 * st0) (nu 23 st0)) → nu' 23 = va_up (nu 23) st0 (stI en (kp (iwP nu sg (sRow (sg 24) en (60 * st0)) (stN en (nu 23 st0))) (stN en (nu 23 st0)))) ∧ wrI (iwP nu sg (sRow (sg 24) en (60 * st0)) (stN en (nu 23 st0))) en (60 * st0) (stN en (nu 23 st0)) (cV (iwP nu sg (sRow (sg 24) en (60 * st0)) (stN en (nu 23 st0))) (nI 42) (sRow (sg 24) en (60 * st0)) 0) (sg 24) (sg' 24)) ∧ (¬ (wellP (sg 24) en (60 * st0) (nu 23 st0)) → nu' 23 = va_up (nu 23) st0 0 ∧ sg' 24 = sg 24)) (fun _ _ => False) s 0 0) (F0 m 109 ls [.int (nI (cnt (iwP nu sg (sRow (sg 24) en (60 * st0)) (stN en (nu 23 st0))) (k + 1)))]) := by
                intro H locs ls hw hl
                refine lv_istore_n (lv' := [(3, .int (nI (cnt (iwP nu sg (sRow (sg 24) en (60 * st0)) (stN en (nu 23 st0))) (k + 1)))), (0, .ref md), (1, .int (nI st0)), (4, .int (nI k))]) hx hb d_M_cutStore_109 rfl hl (by decide) rfl (fun ls hl => ?_)
                refine lv_iinc (v := nI (k + 1)) (lv' := [(4, .int (nI (k + 1))), (3, .int (nI (cnt (iwP nu sg (sRow (sg 24) en (60 * st0)) (stN en (nu 23 st0))) (k + 1)))), (0, .ref md), (1, .int (nI st0))]) hx hb d_M_cutStore_110 hl (k := 3) rfl (by exact nI_1 _) (by decide) rfl (fun ls hl => ?_)
                refine lv_goto (tgt := 34) hx hb d_M_cutStore_113 (by decide) ?_
                exact ih34 (k + 1)  nu12 sg13 (by omega) (by omega) (by rw [f1, n1, vuu, va_up_self, kp_t (Or.inr (Or.inl c_70)), stI_s]) (hwr.yes (Or.inr (Or.inl c_70)) (by rw [n1, va_up_self] at f2; exact f2) (by rw [n1, va_up_self] at f3; exact f3) (by rw [n1, va_up_self] at f4; exact f4) (by rw [cV_t c_50]; rfl)) _ hR (eqx.trans (L := [23]) (eqx.trans (L := [23]) (eqx.rf (L := [23])) hnuL9 (by decide) (by decide)) hnu12 (by decide) (by decide)) (eqx.trans (L := [24]) (eqx.trans (L := [24]) (eqx.rf (L := [24])) hsgL10 (by decide) (by decide)) hsg13 (by decide) (by decide)) hF _ _ _ hw (lv_sub hl [2, 3, 1, 0] rfl)
              refine lv_aload_n hx hb d_M_cutStore_92 rfl (lv_at hl 0 rfl) ?_
              refine x_get hC hw hR.1 rfl 31 (by decide) (hts _ k_765) (fun _ h9 => h9) rfl d_M_cutStore_93 ?_
              refine lv_iload hx hb d_M_cutStore_96 (lv_at hl 3 rfl) ?_
              refine m_ldZ hC hw hR 31 k rfl (rfl) (by show _ < 60; omega) (by decide) d_M_cutStore_98 ?_
              refine x_vi (y := sg8 31 k) (by rw [hsg13 31 (by decide), hsgL10 31 (by decide)]) ?_
              refine x_vi (y := zI (iwP nu sg (sRow (sg 24) en (60 * st0)) (stN en (nu 23 st0)) k)) (q31 k (by omega)) ?_
              refine lv_if_eq (tgt := 108) hx hb d_M_cutStore_99 (by decide) (fun c_99 => ?_) (fun c_99 => ?_)
              · have c_99 := zI_0.mp c_99
                refine lv_iload_n hx hb d_M_cutStore_108 rfl (lv_at hl 2 rfl) ?_
                refine x_vi (y := nI (cnt (iwP nu sg (sRow (sg 24) en (60 * st0)) (stN en (nu 23 st0))) (k + 1))) (congrArg nI (cnt_f c_99).symm) ?_
                exact J109 _ _ _ hw (lv_sub hl [0, 1, 2, 3] rfl)
              · have c_99 := zI_1.mp c_99
                refine lv_iload_n hx hb d_M_cutStore_102 rfl (lv_at hl 2 rfl) ?_
                refine lv_iconst (v := nI 1) hx hb d_M_cutStore_103 (by decide) ?_
                refine lv_iadd hx hb d_M_cutStore_104 ?_
                refine x_vi (y := nI ((cnt (iwP nu sg (sRow (sg 24) en (60 * st0)) (stN en (nu 23 st0))) k) + 1)) (nI_add _ _) ?_
                refine lv_goto (tgt := 109) hx hb d_M_cutStore_105 (by decide) ?_
                refine x_vi (y := nI (cnt (iwP nu sg (sRow (sg 24) en (60 * st0)) (stN en (nu 23 st0))) (k + 1))) (congrArg nI (cnt_t c_99).symm) ?_
                exact J109 _ _ _ hw (lv_sub hl [0, 1, 2, 3] rfl)
            · have c_70 := (not_congr (x_eq0 (by omega))).mp c_70
              refine lv_aload_n hx hb d_M_cutStore_73 rfl (lv_at hl 0 rfl) ?_
              refine x_get hC hw hR.1 rfl 31 (by decide) (hts _ k_765) (fun _ h9 => h9) rfl d_M_cutStore_74 ?_
              refine lv_iload hx hb d_M_cutStore_77 (lv_at hl 3 rfl) ?_
              refine lv_iconst (v := nI 1) hx hb d_M_cutStore_79 (by decide) ?_
              refine lv_isub hx hb d_M_cutStore_80 ?_
              refine x_vi (y := nI (k - 1)) (x_sub (by omega)) ?_
              refine m_ldZ hC hw hR 31 (k - 1) rfl (rfl) (by show _ < 60; omega) (by decide) d_M_cutStore_81 ?_
              refine x_vi (y := sg8 31 (k - 1)) (by rw [hsgL10 31 (by decide)]) ?_
              refine x_vi (y := zI (iwP nu sg (sRow (sg 24) en (60 * st0)) (stN en (nu 23 st0)) (k - 1))) (q31 (k - 1) (by omega)) ?_
              refine lv_if_ne (tgt := 92) hx hb d_M_cutStore_82 (by decide) (fun c_82 => ?_) (fun c_82 => ?_)
              · have c_82 := zI_1.mp c_82
                have J109 : ∀ (H : Heap) (locs : List Loc) (ls : Array Slot), xWd G (xA M sz) s.heap M1 H locs → lv_has ls 5 [(0, .ref md), (1, .int (nI st0)), (3, .int (nI (cnt (iwP nu sg (sRow (sg 24) en (60 * st0)) (stN en (nu 23 st0))) k))), (4, .int (nI k))] → W p l e { frames := 3, cells := 0, slots := 0, locals := 76 } s m ([.ref md, .int (nI st0)] : List Value).toArray below meth c H locs 0 0 (xMQ below G M sz (fun v M' => v = some (.int (nI (csN (wellP (sg 24) en (60 * st0) (nu 23 st0)) (cnt (iwP nu sg (sRow (sg 24) en (60 * st0)) (stN en (nu 23 st0))) (stN en (nu 23 st0)))))) ∧ ∃ (nu' : Nat → Nat → Nat) (sg' : Nat → Nat → Int32), mRep G M' md am nu' sg' ∧ eqx [23, 29] nu nu' ∧ eqx [24, 30, 31] sg sg' ∧ xfr M M' (mS md am) ∧ ((wellP (sg 24) en (60 * st0) (nu 23 st0)) → nu' 23 = va_up (nu 23) st0 (stI en (kp (iwP nu sg (sRow (sg 24) en (60 * st0)) (stN en (nu 23 st0))) (stN en (nu 23 st0)))) ∧ wrI (iwP nu sg (sRow (sg 24) en (60 * st0)) (stN en (nu 23 st0))) en (60 * st0) (stN en (nu 23 st0)) (cV (iwP nu sg (sRow (sg 24) en (60 * st0)) (stN en (nu 23 st0))) (nI 42) (sRow (sg 24) en (60 * st0)) 0) (sg 24) (sg' 24)) ∧ (¬ (wellP (sg 24) en (60 * st0) (nu 23 st0)) → nu' 23 = va_up (nu 23) st0 0 ∧ sg' 24 = sg 24)) (fun _ _ => False) s 0 0) (F0 m 109 ls [.int (nI (cnt (iwP nu sg (sRow (sg 24) en (60 * st0)) (stN en (nu 23 st0))) (k + 1)))]) := by
                  intro H locs ls hw hl
                  refine lv_istore_n (lv' := [(3, .int (nI (cnt (iwP nu sg (sRow (sg 24) en (60 * st0)) (stN en (nu 23 st0))) (k + 1)))), (0, .ref md), (1, .int (nI st0)), (4, .int (nI k))]) hx hb d_M_cutStore_109 rfl hl (by decide) rfl (fun ls hl => ?_)
                  refine lv_iinc (v := nI (k + 1)) (lv' := [(4, .int (nI (k + 1))), (3, .int (nI (cnt (iwP nu sg (sRow (sg 24) en (60 * st0)) (stN en (nu 23 st0))) (k + 1)))), (0, .ref md), (1, .int (nI st0))]) hx hb d_M_cutStore_110 hl (k := 3) rfl (by exact nI_1 _) (by decide) rfl (fun ls hl => ?_)
                  refine lv_goto (tgt := 34) hx hb d_M_cutStore_113 (by decide) ?_
                  exact ih34 (k + 1)  nuL9 sgL10 (by omega) (by omega) (by rw [kp_f (fun z => z.elim (not_not_intro c_50) (fun z => z.elim c_70 (not_not_intro c_82)))]; exact n1) (hwr.no (fun z => z.elim (not_not_intro c_50) (fun z => z.elim c_70 (not_not_intro c_82)))) _ hR (eqx.trans (L := [23]) (eqx.rf (L := [23])) hnuL9 (by decide) (by decide)) (eqx.trans (L := [24]) (eqx.rf (L := [24])) hsgL10 (by decide) (by decide)) hF _ _ _ hw (lv_sub hl [2, 3, 1, 0] rfl)
                refine lv_aload_n hx hb d_M_cutStore_92 rfl (lv_at hl 0 rfl) ?_
                refine x_get hC hw hR.1 rfl 31 (by decide) (hts _ k_765) (fun _ h9 => h9) rfl d_M_cutStore_93 ?_
                refine lv_iload hx hb d_M_cutStore_96 (lv_at hl 3 rfl) ?_
                refine m_ldZ hC hw hR 31 k rfl (rfl) (by show _ < 60; omega) (by decide) d_M_cutStore_98 ?_
                refine x_vi (y := sg8 31 k) (by rw [hsgL10 31 (by decide)]) ?_
                refine x_vi (y := zI (iwP nu sg (sRow (sg 24) en (60 * st0)) (stN en (nu 23 st0)) k)) (q31 k (by omega)) ?_
                refine lv_if_eq (tgt := 108) hx hb d_M_cutStore_99 (by decide) (fun c_99 => ?_) (fun c_99 => ?_)
                · have c_99 := zI_0.mp c_99
                  refine lv_iload_n hx hb d_M_cutStore_108 rfl (lv_at hl 2 rfl) ?_
                  refine x_vi (y := nI (cnt (iwP nu sg (sRow (sg 24) en (60 * st0)) (stN en (nu 23 st0))) (k + 1))) (congrArg nI (cnt_f c_99).symm) ?_
                  exact J109 _ _ _ hw (lv_sub hl [0, 1, 2, 3] rfl)
                · have c_99 := zI_1.mp c_99
                  refine lv_iload_n hx hb d_M_cutStore_102 rfl (lv_at hl 2 rfl) ?_
                  refine lv_iconst (v := nI 1) hx hb d_M_cutStore_103 (by decide) ?_
                  refine lv_iadd hx hb d_M_cutStore_104 ?_
                  refine x_vi (y := nI ((cnt (iwP nu sg (sRow (sg 24) en (60 * st0)) (stN en (nu 23 st0))) k) + 1)) (nI_add _ _) ?_
                  refine lv_goto (tgt := 109) hx hb d_M_cutStore_105 (by decide) ?_
                  refine x_vi (y := nI (cnt (iwP nu sg (sRow (sg 24) en (60 * st0)) (stN en (nu 23 st0))) (k + 1))) (congrArg nI (cnt_t c_99).symm) ?_
                  exact J109 _ _ _ hw (lv_sub hl [0, 1, 2, 3] rfl)
              · have c_82 := zI_0.mp c_82
                refine lv_aload_n hx hb d_M_cutStore_85 rfl (lv_at hl 0 rfl) ?_
                refine lv_iload_n hx hb d_M_cutStore_86 rfl (lv_at hl 1 rfl) ?_
                refine lv_bipush (v := nI 42) hx hb d_M_cutStore_87 (by decide) ?_
                have hrm := stI_room (en := en) (show kp (iwP nu sg (sRow (sg 24) en (60 * st0)) (stN en (nu 23 st0))) k < stN en (nu 23 st0) by omega)
                refine x_callG hC (c_M_write l G M1 (Array.size H) md am nuL9 sgL10 hR st0 (42) en hen hs8 (by decide) (by rw [hsgL10 22 (by decide), hsg8 22 (by decide), hsg3 22 (by decide)]; exact henc) (by rw [n1, va_up_self]; omega)) k_936 k_13 ⟨Nat.le_of_ble_eq_true rfl, Nat.le_of_ble_eq_true rfl⟩ ⟨Nat.le_of_ble_eq_true rfl, Nat.le_of_ble_eq_true rfl⟩ hw hl.1 (Nat.le_of_ble_eq_true rfl) d_M_cutStore_89 (x_ivV hC k_936 k_933 k_935 kp_34 (show _ ∧ _ ∧ _ = some 2 from by decide +kernel) (x_recv hC hw hR.1 rfl) rfl d_M_cutStore_89) (fun rv M14 H locs hq hw => ?_) (fun _ _ _ _ _ h _ _ => h.elim)
                obtain ⟨rfl, nu15, sg16, hR, hnu15, hsg16, fr, f1, f2, f3, f4⟩ := hq
                have hF := hF.trans fr (fun _ h => Or.inl h)
                refine W.eq (g2 := F0 m 92 ls []) rfl ?_
                have J109 : ∀ (H : Heap) (locs : List Loc) (ls : Array Slot), xWd G (xA M sz) s.heap M14 H locs → lv_has ls 5 [(0, .ref md), (1, .int (nI st0)), (3, .int (nI (cnt (iwP nu sg (sRow (sg 24) en (60 * st0)) (stN en (nu 23 st0))) k))), (4, .int (nI k))] → W p l e { frames := 3, cells := 0, slots := 0, locals := 76 } s m ([.ref md, .int (nI st0)] : List Value).toArray below meth c H locs 0 0 (xMQ below G M sz (fun v M' => v = some (.int (nI (csN (wellP (sg 24) en (60 * st0) (nu 23 st0)) (cnt (iwP nu sg (sRow (sg 24) en (60 * st0)) (stN en (nu 23 st0))) (stN en (nu 23 st0)))))) ∧ ∃ (nu' : Nat → Nat → Nat) (sg' : Nat → Nat → Int32), mRep G M' md am nu' sg' ∧ eqx [23, 29] nu nu' ∧ eqx [24, 30, 31] sg sg' ∧ xfr M M' (mS md am) ∧ ((wellP (sg 24) en (60 * st0) (nu 23 st0)) → nu' 23 = va_up (nu 23) st0 (stI en (kp (iwP nu sg (sRow (sg 24) en (60 * st0)) (stN en (nu 23 st0))) (stN en (nu 23 st0)))) ∧ wrI (iwP nu sg (sRow (sg 24) en (60 * st0)) (stN en (nu 23 st0))) en (60 * st0) (stN en (nu 23 st0)) (cV (iwP nu sg (sRow (sg 24) en (60 * st0)) (stN en (nu 23 st0))) (nI 42) (sRow (sg 24) en (60 * st0)) 0) (sg 24) (sg' 24)) ∧ (¬ (wellP (sg 24) en (60 * st0) (nu 23 st0)) → nu' 23 = va_up (nu 23) st0 0 ∧ sg' 24 = sg 24)) (fun _ _ => False) s 0 0) (F0 m 109 ls [.int (nI (cnt (iwP nu sg (sRow (sg 24) en (60 * st0)) (stN en (nu 23 st0))) (k + 1)))]) := by
                  intro H locs ls hw hl
                  refine lv_istore_n (lv' := [(3, .int (nI (cnt (iwP nu sg (sRow (sg 24) en (60 * st0)) (stN en (nu 23 st0))) (k + 1)))), (0, .ref md), (1, .int (nI st0)), (4, .int (nI k))]) hx hb d_M_cutStore_109 rfl hl (by decide) rfl (fun ls hl => ?_)
                  refine lv_iinc (v := nI (k + 1)) (lv' := [(4, .int (nI (k + 1))), (3, .int (nI (cnt (iwP nu sg (sRow (sg 24) en (60 * st0)) (stN en (nu 23 st0))) (k + 1)))), (0, .ref md), (1, .int (nI st0))]) hx hb d_M_cutStore_110 hl (k := 3) rfl (by exact nI_1 _) (by decide) rfl (fun ls hl => ?_)
                  refine lv_goto (tgt := 34) hx hb d_M_cutStore_113 (by decide) ?_
                  exact ih34 (k + 1)  nu15 sg16 (by omega) (by omega) (by rw [f1, n1, vuu, va_up_self, kp_t (Or.inr (Or.inr c_82)), stI_s]) (hwr.yes (Or.inr (Or.inr c_82)) (by rw [n1, va_up_self] at f2; exact f2) (by rw [n1, va_up_self] at f3; exact f3) (by rw [n1, va_up_self] at f4; exact f4) (by rw [cV_t c_50]; rfl)) _ hR (eqx.trans (L := [23]) (eqx.trans (L := [23]) (eqx.rf (L := [23])) hnuL9 (by decide) (by decide)) hnu15 (by decide) (by decide)) (eqx.trans (L := [24]) (eqx.trans (L := [24]) (eqx.rf (L := [24])) hsgL10 (by decide) (by decide)) hsg16 (by decide) (by decide)) hF _ _ _ hw (lv_sub hl [2, 3, 1, 0] rfl)
                refine lv_aload_n hx hb d_M_cutStore_92 rfl (lv_at hl 0 rfl) ?_
                refine x_get hC hw hR.1 rfl 31 (by decide) (hts _ k_765) (fun _ h9 => h9) rfl d_M_cutStore_93 ?_
                refine lv_iload hx hb d_M_cutStore_96 (lv_at hl 3 rfl) ?_
                refine m_ldZ hC hw hR 31 k rfl (rfl) (by show _ < 60; omega) (by decide) d_M_cutStore_98 ?_
                refine x_vi (y := sg8 31 k) (by rw [hsg16 31 (by decide), hsgL10 31 (by decide)]) ?_
                refine x_vi (y := zI (iwP nu sg (sRow (sg 24) en (60 * st0)) (stN en (nu 23 st0)) k)) (q31 k (by omega)) ?_
                refine lv_if_eq (tgt := 108) hx hb d_M_cutStore_99 (by decide) (fun c_99 => ?_) (fun c_99 => ?_)
                · have c_99 := zI_0.mp c_99
                  refine lv_iload_n hx hb d_M_cutStore_108 rfl (lv_at hl 2 rfl) ?_
                  refine x_vi (y := nI (cnt (iwP nu sg (sRow (sg 24) en (60 * st0)) (stN en (nu 23 st0))) (k + 1))) (congrArg nI (cnt_f c_99).symm) ?_
                  exact J109 _ _ _ hw (lv_sub hl [0, 1, 2, 3] rfl)
                · have c_99 := zI_1.mp c_99
                  refine lv_iload_n hx hb d_M_cutStore_102 rfl (lv_at hl 2 rfl) ?_
                  refine lv_iconst (v := nI 1) hx hb d_M_cutStore_103 (by decide) ?_
                  refine lv_iadd hx hb d_M_cutStore_104 ?_
                  refine x_vi (y := nI ((cnt (iwP nu sg (sRow (sg 24) en (60 * st0)) (stN en (nu 23 st0))) k) + 1)) (nI_add _ _) ?_
                  refine lv_goto (tgt := 109) hx hb d_M_cutStore_105 (by decide) ?_
                  refine x_vi (y := nI (cnt (iwP nu sg (sRow (sg 24) en (60 * st0)) (stN en (nu 23 st0))) (k + 1))) (congrArg nI (cnt_t c_99).symm) ?_
                  exact J109 _ _ _ hw (lv_sub hl [0, 1, 2, 3] rfl)
          · have c_50 := zI_0.mp c_50
            refine lv_aload_n hx hb d_M_cutStore_53 rfl (lv_at hl 0 rfl) ?_
            refine lv_iload_n hx hb d_M_cutStore_54 rfl (lv_at hl 1 rfl) ?_
            refine lv_aload_n hx hb d_M_cutStore_55 rfl (lv_at hl 0 rfl) ?_
            refine x_get hC hw hR.1 rfl 30 (by decide) (hts _ k_764) (fun _ h9 => h9) rfl d_M_cutStore_56 ?_
            refine lv_iload hx hb d_M_cutStore_59 (lv_at hl 3 rfl) ?_
            refine m_ldI hC hw hR 30 k rfl (rfl) (by show _ < 60; omega) (by decide) d_M_cutStore_61 ?_
            refine x_vi (y := sg3 30 k) (by rw [hsgL10 30 (by decide), hsg8 30 (by decide)]) ?_
            have hok := (hrow c_20 k (by omega)).eq
            refine x_vi (y := nI (cN (sRow (sg 24) en (60 * st0) k))) ((q30 k (by omega)).trans hok.1) ?_
            have hrm := stI_room (en := en) (show kp (iwP nu sg (sRow (sg 24) en (60 * st0)) (stN en (nu 23 st0))) k < stN en (nu 23 st0) by omega)
            refine x_callG hC (c_M_write l G M1 (Array.size H) md am nuL9 sgL10 hR st0 (cN (sRow (sg 24) en (60 * st0) k)) en hen hs8 (hok.2) (by rw [hsgL10 22 (by decide), hsg8 22 (by decide), hsg3 22 (by decide)]; exact henc) (by rw [n1, va_up_self]; omega)) k_936 k_13 ⟨Nat.le_of_ble_eq_true rfl, Nat.le_of_ble_eq_true rfl⟩ ⟨Nat.le_of_ble_eq_true rfl, Nat.le_of_ble_eq_true rfl⟩ hw hl.1 (Nat.le_of_ble_eq_true rfl) d_M_cutStore_62 (x_ivV hC k_936 k_933 k_935 kp_34 (show _ ∧ _ ∧ _ = some 2 from by decide +kernel) (x_recv hC hw hR.1 rfl) rfl d_M_cutStore_62) (fun rv M17 H locs hq hw => ?_) (fun _ _ _ _ _ h _ _ => h.elim)
            obtain ⟨rfl, nu18, sg19, hR, hnu18, hsg19, fr, f1, f2, f3, f4⟩ := hq
            have hF := hF.trans fr (fun _ h => Or.inl h)
            refine W.eq (g2 := F0 m 65 ls []) rfl ?_
            refine lv_goto (tgt := 92) hx hb d_M_cutStore_65 (by decide) ?_
            have J109 : ∀ (H : Heap) (locs : List Loc) (ls : Array Slot), xWd G (xA M sz) s.heap M17 H locs → lv_has ls 5 [(0, .ref md), (1, .int (nI st0)), (3, .int (nI (cnt (iwP nu sg (sRow (sg 24) en (60 * st0)) (stN en (nu 23 st0))) k))), (4, .int (nI k))] → W p l e { frames := 3, cells := 0, slots := 0, locals := 76 } s m ([.ref md, .int (nI st0)] : List Value).toArray below meth c H locs 0 0 (xMQ below G M sz (fun v M' => v = some (.int (nI (csN (wellP (sg 24) en (60 * st0) (nu 23 st0)) (cnt (iwP nu sg (sRow (sg 24) en (60 * st0)) (stN en (nu 23 st0))) (stN en (nu 23 st0)))))) ∧ ∃ (nu' : Nat → Nat → Nat) (sg' : Nat → Nat → Int32), mRep G M' md am nu' sg' ∧ eqx [23, 29] nu nu' ∧ eqx [24, 30, 31] sg sg' ∧ xfr M M' (mS md am) ∧ ((wellP (sg 24) en (60 * st0) (nu 23 st0)) → nu' 23 = va_up (nu 23) st0 (stI en (kp (iwP nu sg (sRow (sg 24) en (60 * st0)) (stN en (nu 23 st0))) (stN en (nu 23 st0)))) ∧ wrI (iwP nu sg (sRow (sg 24) en (60 * st0)) (stN en (nu 23 st0))) en (60 * st0) (stN en (nu 23 st0)) (cV (iwP nu sg (sRow (sg 24) en (60 * st0)) (stN en (nu 23 st0))) (nI 42) (sRow (sg 24) en (60 * st0)) 0) (sg 24) (sg' 24)) ∧ (¬ (wellP (sg 24) en (60 * st0) (nu 23 st0)) → nu' 23 = va_up (nu 23) st0 0 ∧ sg' 24 = sg 24)) (fun _ _ => False) s 0 0) (F0 m 109 ls [.int (nI (cnt (iwP nu sg (sRow (sg 24) en (60 * st0)) (stN en (nu 23 st0))) (k + 1)))]) := by
              intro H locs ls hw hl
              refine lv_istore_n (lv' := [(3, .int (nI (cnt (iwP nu sg (sRow (sg 24) en (60 * st0)) (stN en (nu 23 st0))) (k + 1)))), (0, .ref md), (1, .int (nI st0)), (4, .int (nI k))]) hx hb d_M_cutStore_109 rfl hl (by decide) rfl (fun ls hl => ?_)
              refine lv_iinc (v := nI (k + 1)) (lv' := [(4, .int (nI (k + 1))), (3, .int (nI (cnt (iwP nu sg (sRow (sg 24) en (60 * st0)) (stN en (nu 23 st0))) (k + 1)))), (0, .ref md), (1, .int (nI st0))]) hx hb d_M_cutStore_110 hl (k := 3) rfl (by exact nI_1 _) (by decide) rfl (fun ls hl => ?_)
              refine lv_goto (tgt := 34) hx hb d_M_cutStore_113 (by decide) ?_
              exact ih34 (k + 1)  nu18 sg19 (by omega) (by omega) (by rw [f1, n1, vuu, va_up_self, kp_t (Or.inl c_50), stI_s]) (hwr.yes (Or.inl c_50) (by rw [n1, va_up_self] at f2; exact f2) (by rw [n1, va_up_self] at f3; exact f3) (by rw [n1, va_up_self] at f4; exact f4) (by rw [cV_f c_50, Nat.zero_add])) _ hR (eqx.trans (L := [23]) (eqx.trans (L := [23]) (eqx.rf (L := [23])) hnuL9 (by decide) (by decide)) hnu18 (by decide) (by decide)) (eqx.trans (L := [24]) (eqx.trans (L := [24]) (eqx.rf (L := [24])) hsgL10 (by decide) (by decide)) hsg19 (by decide) (by decide)) hF _ _ _ hw (lv_sub hl [2, 3, 1, 0] rfl)
            refine lv_aload_n hx hb d_M_cutStore_92 rfl (lv_at hl 0 rfl) ?_
            refine x_get hC hw hR.1 rfl 31 (by decide) (hts _ k_765) (fun _ h9 => h9) rfl d_M_cutStore_93 ?_
            refine lv_iload hx hb d_M_cutStore_96 (lv_at hl 3 rfl) ?_
            refine m_ldZ hC hw hR 31 k rfl (rfl) (by show _ < 60; omega) (by decide) d_M_cutStore_98 ?_
            refine x_vi (y := sg8 31 k) (by rw [hsg19 31 (by decide), hsgL10 31 (by decide)]) ?_
            refine x_vi (y := zI (iwP nu sg (sRow (sg 24) en (60 * st0)) (stN en (nu 23 st0)) k)) (q31 k (by omega)) ?_
            refine lv_if_eq (tgt := 108) hx hb d_M_cutStore_99 (by decide) (fun c_99 => ?_) (fun c_99 => ?_)
            · have c_99 := zI_0.mp c_99
              refine lv_iload_n hx hb d_M_cutStore_108 rfl (lv_at hl 2 rfl) ?_
              refine x_vi (y := nI (cnt (iwP nu sg (sRow (sg 24) en (60 * st0)) (stN en (nu 23 st0))) (k + 1))) (congrArg nI (cnt_f c_99).symm) ?_
              exact J109 _ _ _ hw (lv_sub hl [0, 1, 2, 3] rfl)
            · have c_99 := zI_1.mp c_99
              refine lv_iload_n hx hb d_M_cutStore_102 rfl (lv_at hl 2 rfl) ?_
              refine lv_iconst (v := nI 1) hx hb d_M_cutStore_103 (by decide) ?_
              refine lv_iadd hx hb d_M_cutStore_104 ?_
              refine x_vi (y := nI ((cnt (iwP nu sg (sRow (sg 24) en (60 * st0)) (stN en (nu 23 st0))) k) + 1)) (nI_add _ _) ?_
              refine lv_goto (tgt := 109) hx hb d_M_cutStore_105 (by decide) ?_
              refine x_vi (y := nI (cnt (iwP nu sg (sRow (sg 24) en (60 * st0)) (stN en (nu 23 st0))) (k + 1))) (congrArg nI (cnt_t c_99).symm) ?_
              exact J109 _ _ _ hw (lv_sub hl [0, 1, 2, 3] rfl)
    exact HL34 (stN en (nu 23 st0) + 1) (0)  nu7 sg8 (by omega) (by omega) ((show _ = va_up (nu 23) st0 (stI en 0) from by rw [hnu7 23 (by decide), enu5, hnu2 23 (by decide)]; unfold stI; split <;> rfl)) (by rw [hsg8 24 (by decide), hsg3 24 (by decide)]; exact wrI.zero) _ hR eqx.rf eqx.rf hF _ _ _ hw (lv_sub hl [3, 4, 1, 0] rfl)
  · have c_20 := zI_0.mp c_20
    refine lv_iconst (v := nI 0) hx hb d_M_cutStore_23 (by decide) ?_
    exact x_iret hC hr hw (⟨congrArg (fun z => some (Value.int (nI z))) (csN_f c_20).symm, nu5, sg3, hR, (eqx.trans (L := [23, 29]) (eqx.trans (L := [23, 29]) (eqx.rf (L := [23, 29])) hnu2 (by decide) (by decide)) hnu5 (by decide) (by decide)), (eqx.trans (L := [24, 30, 31]) (eqx.rf (L := [24, 30, 31])) hsg3 (by decide) (by decide)), hF, fun h => absurd h c_20, fun _ => ⟨(by rw [enu5, hnu2 23 (by decide)]), (by rw [hsg3 24 (by decide)])⟩⟩) (Nat.le_of_ble_eq_true rfl) (Nat.le_of_ble_eq_true rfl) d_M_cutStore_24

theorem x_nt3 {S : Nat → Nat → Prop} {kd no en : Int32} {q w : Nat} {X Y : Nat × (Nat → Int32)} (h : X = ntW S kd no en q w Y) (h1 : 100 ≤ X.1) : ntW S kd no en q (w + 1) Y = X := by
  by_cases hs : S w q
  · rw [ntW_t hs, ← h, fAdd_full h1]
  · rw [ntW_f hs, ← h]
set_option maxHeartbeats 1000000 in
set_option maxRecDepth 100000 in
/-- note -/
theorem c_M_note (l : Launch) (G : xT) (M : xMem) (sz : Nat) (md : Nat) (am : Nat → Nat) (nu : Nat → Nat → Nat) (sg : Nat → Nat → Int32) (hR : mRep G M md am nu sg) (kd no en : Int32) (h4 : nu 12 0 ≤ 4) (h8 : ∀ w, w < nu 12 0 → nu 13 w ≤ 8) (hs : nu 29 0 ≤ 60) (h100 : nu 25 0 ≤ 100) : xMet l G y_M_note (Cond.code y_M_note b_M_note 6 none :: x_tbl) { frames := 1, cells := 0, slots := 0, locals := 25 } [.ref md, .int kd, .int no, .int en] M sz (fun v M' => v = none ∧ ∃ (nu' : Nat → Nat → Nat) (sg' : Nat → Nat → Int32), mRep G M' md am nu' sg' ∧ eqx [25] nu nu' ∧ eqx [26] sg sg' ∧ xfr M M' (mS md am) ∧ nu' 25 0 = (ntP (fun w q => stP nu sg (sg 30) (nu 29 0) w q) kd no en (nu 12 0) (nu 29 0) (nu 25 0, sg 26)).1 ∧ sg' 26 = (ntP (fun w q => stP nu sg (sg 30) (nu 29 0) w q) kd no en (nu 12 0) (nu 29 0) (nu 25 0, sg 26)).2) (fun _ _ => False) := by
  refine xMet.of (by decide) (Nat.le_of_ble_eq_true rfl) ?_
  intro p e s m below meth c ls hC hr hnm hno hsz hw hl
  obtain ⟨hx, hb, hown, hts, hK, hml, hlk, hz⟩ := id hC
  have hl : lv_has ls 6 [(0, .ref md), (1, .int kd), (2, .int no), (3, .int en)] := hl
  have hF : xfr M M (mS md am) := xfr.rf
  refine lv_iconst (v := nI 0) hx hb d_M_note_0 (by decide) ?_
  refine lv_istore (lv' := [(4, .int (nI 0)), (0, .ref md), (1, .int kd), (2, .int no), (3, .int en)]) hx hb d_M_note_1 hl (by decide) rfl (fun ls hl => ?_)
  have HL3 : ∀ (z3 q : Nat) (nuL1 : Nat → Nat → Nat) (sgL2 : Nat → Nat → Int32), q ≤ nu 29 0 → nu 29 0 + 1 ≤ q + z3 → (nuL1 25 0 = (ntP (fun w q => stP nu sg (sg 30) (nu 29 0) w q) kd no en (nu 12 0) q (nu 25 0, sg 26)).1) → (sgL2 26 = (ntP (fun w q => stP nu sg (sg 30) (nu 29 0) w q) kd no en (nu 12 0) q (nu 25 0, sg 26)).2) → ∀ (M1 : xMem), mRep G M1 md am nuL1 sgL2 → eqx [25] nu nuL1 → eqx [26] sg sgL2 → xfr M M1 (mS md am) → ∀ (H : Heap) (locs : List Loc) (ls : Array Slot), xWd G (xA M sz) s.heap M1 H locs → lv_has ls 6 [(0, .ref md), (1, .int kd), (2, .int no), (3, .int en), (4, .int (nI q))] → W p l e { frames := 1, cells := 0, slots := 0, locals := 25 } s m ([.ref md, .int kd, .int no, .int en] : List Value).toArray below meth c H locs 0 0 (xMQ below G M sz (fun v M' => v = none ∧ ∃ (nu' : Nat → Nat → Nat) (sg' : Nat → Nat → Int32), mRep G M' md am nu' sg' ∧ eqx [25] nu nu' ∧ eqx [26] sg sg' ∧ xfr M M' (mS md am) ∧ nu' 25 0 = (ntP (fun w q => stP nu sg (sg 30) (nu 29 0) w q) kd no en (nu 12 0) (nu 29 0) (nu 25 0, sg 26)).1 ∧ sg' 26 = (ntP (fun w q => stP nu sg (sg 30) (nu 29 0) w q) kd no en (nu 12 0) (nu 29 0) (nu 25 0, sg 26)).2) (fun _ _ => False) s 0 0) (F0 m 3 ls []) := by
    intro z3
    induction z3 with
    | zero =>
      intro q  nuL1 sgL2 h1 h2
      omega
    | succ z3 ih3 =>
      intro q  nuL1 sgL2 hi3 hz3 h25 h26 M1 hR hnuL1 hsgL2 hF H locs ls hw hl
      refine lv_iload hx hb d_M_note_3 (lv_at hl 4 rfl) ?_
      refine lv_aload_n hx hb d_M_note_5 rfl (lv_at hl 0 rfl) ?_
      refine x_get hC hw hR.1 rfl 29 (by decide) (hts _ k_763) (fun _ h9 => h9) rfl d_M_note_6 ?_
      refine x_vi (y := nI (nu 29 0)) (by rw [hnuL1 29 (by decide)]) ?_
      refine lv_icmp_ge (tgt := 136) hx hb d_M_note_9 (by decide) (fun c_9 => ?_) (fun c_9 => ?_)
      · have c_9 := (nI_leI (by omega) (by omega)).mp c_9
        have hke : q = nu 29 0 := by omega
        subst hke
        exact x_vret hC hr hw (⟨rfl, nuL1, sgL2, hR, (eqx.trans (L := [25]) (eqx.rf (L := [25])) hnuL1 (by decide) (by decide)), (eqx.trans (L := [26]) (eqx.rf (L := [26])) hsgL2 (by decide) (by decide)), hF, h25, h26⟩) (Nat.le_of_ble_eq_true rfl) (Nat.le_of_ble_eq_true rfl) d_M_note_136
      · have c_9 := Nat.not_le.mp ((not_congr (nI_leI (by omega) (by omega))).mp c_9)
        refine lv_iconst (v := nI 0) hx hb d_M_note_12 (by decide) ?_
        refine lv_istore (lv' := [(5, .int (nI 0)), (0, .ref md), (1, .int kd), (2, .int no), (3, .int en), (4, .int (nI q))]) hx hb d_M_note_13 hl (by decide) rfl (fun ls hl => ?_)
        have HL15 : ∀ (z15 w : Nat) (X : Nat × (Nat → Int32)) (nuL3 : Nat → Nat → Nat) (sgL4 : Nat → Nat → Int32), w ≤ nu 12 0 → nu 12 0 + 1 ≤ w + z15 → (X = ntW (fun w q => stP nu sg (sg 30) (nu 29 0) w q) kd no en q w (ntP (fun w q => stP nu sg (sg 30) (nu 29 0) w q) kd no en (nu 12 0) q (nu 25 0, sg 26))) → (nuL3 25 0 = X.1) → (sgL4 26 = X.2) → ∀ (M1 : xMem), mRep G M1 md am nuL3 sgL4 → eqx [25] nuL1 nuL3 → eqx [26] sgL2 sgL4 → xfr M M1 (mS md am) → ∀ (H : Heap) (locs : List Loc) (ls : Array Slot), xWd G (xA M sz) s.heap M1 H locs → lv_has ls 6 [(0, .ref md), (1, .int kd), (2, .int no), (3, .int en), (4, .int (nI q)), (5, .int (nI w))] → W p l e { frames := 1, cells := 0, slots := 0, locals := 25 } s m ([.ref md, .int kd, .int no, .int en] : List Value).toArray below meth c H locs 0 0 (xMQ below G M sz (fun v M' => v = none ∧ ∃ (nu' : Nat → Nat → Nat) (sg' : Nat → Nat → Int32), mRep G M' md am nu' sg' ∧ eqx [25] nu nu' ∧ eqx [26] sg sg' ∧ xfr M M' (mS md am) ∧ nu' 25 0 = (ntP (fun w q => stP nu sg (sg 30) (nu 29 0) w q) kd no en (nu 12 0) (nu 29 0) (nu 25 0, sg 26)).1 ∧ sg' 26 = (ntP (fun w q => stP nu sg (sg 30) (nu 29 0) w q) kd no en (nu 12 0) (nu 29 0) (nu 25 0, sg 26)).2) (fun _ _ => False) s 0 0) (F0 m 15 ls []) := by
          intro z15
          induction z15 with
          | zero =>
            intro w X nuL3 sgL4 h1 h2
            omega
          | succ z15 ih15 =>
            intro w X nuL3 sgL4 hi15 hz15 hX h25 h26 M1 hR hnuL3 hsgL4 hF H locs ls hw hl
            have hX1 : X.1 ≤ 100 := by rw [hX]; exact ntW_le (ntP_le h100)
            have h8w := h8 w
            refine lv_iload hx hb d_M_note_15 (lv_at hl 5 rfl) ?_
            refine lv_aload_n hx hb d_M_note_17 rfl (lv_at hl 0 rfl) ?_
            refine x_get hC hw hR.1 rfl 12 (by decide) (hts _ k_746) (fun _ h9 => h9) rfl d_M_note_18 ?_
            refine x_vi (y := nI (nu 12 0)) (by rw [hnuL3 12 (by decide), hnuL1 12 (by decide)]) ?_
            refine lv_icmp_ge (tgt := 130) hx hb d_M_note_21 (by decide) (fun c_21 => ?_) (fun c_21 => ?_)
            · have c_21 := (nI_leI (by omega) (by omega)).mp c_21
              refine lv_iinc (v := nI (q + 1)) (lv' := [(4, .int (nI (q + 1))), (0, .ref md), (1, .int kd), (2, .int no), (3, .int en), (5, .int (nI w))]) hx hb d_M_note_130 hl (k := 4) rfl (by exact nI_1 _) (by decide) rfl (fun ls hl => ?_)
              refine lv_goto (tgt := 3) hx hb d_M_note_133 (by decide) ?_
              exact ih3 (q + 1)  nuL3 sgL4 (by omega) (by omega) ((by rw [h25, hX, show w = nu 12 0 by omega]; rfl)) ((by rw [h26, hX, show w = nu 12 0 by omega]; rfl)) _ hR (eqx.trans (L := [25]) (eqx.trans (L := [25]) (eqx.rf (L := [25])) hnuL1 (by decide) (by decide)) hnuL3 (by decide) (by decide)) (eqx.trans (L := [26]) (eqx.trans (L := [26]) (eqx.rf (L := [26])) hsgL2 (by decide) (by decide)) hsgL4 (by decide) (by decide)) hF _ _ _ hw (lv_sub hl [1, 2, 3, 4, 0] rfl)
            · have c_21 := Nat.not_le.mp ((not_congr (nI_leI (by omega) (by omega))).mp c_21)
              refine lv_aload_n hx hb d_M_note_24 rfl (lv_at hl 0 rfl) ?_
              refine x_get hC hw hR.1 rfl 25 (by decide) (hts _ k_759) (fun _ h9 => h9) rfl d_M_note_25 ?_
              refine x_vi (y := nI X.1) (by rw [h25]) ?_
              refine lv_bipush (v := nI 100) hx hb d_M_note_28 (by decide) ?_
              refine lv_icmp_ge (tgt := 124) hx hb d_M_note_30 (by decide) (fun c_30 => ?_) (fun c_30 => ?_)
              · have c_30 := (nI_leI (by omega) (by omega)).mp c_30
                refine lv_iinc (v := nI (w + 1)) (lv' := [(5, .int (nI (w + 1))), (0, .ref md), (1, .int kd), (2, .int no), (3, .int en), (4, .int (nI q))]) hx hb d_M_note_124 hl (k := 5) rfl (by exact nI_1 _) (by decide) rfl (fun ls hl => ?_)
                refine lv_goto (tgt := 15) hx hb d_M_note_127 (by decide) ?_
                exact ih15 (w + 1) (ntW (fun w q => stP nu sg (sg 30) (nu 29 0) w q) kd no en q (w + 1) (ntP (fun w q => stP nu sg (sg 30) (nu 29 0) w q) kd no en (nu 12 0) q (nu 25 0, sg 26))) nuL3 sgL4 (by omega) (by omega) (rfl) (by rw [x_nt3 hX (by omega)]; exact h25) (by rw [x_nt3 hX (by omega)]; exact h26) _ hR (eqx.trans (L := [25]) (eqx.rf (L := [25])) hnuL3 (by decide) (by decide)) (eqx.trans (L := [26]) (eqx.rf (L := [26])) hsgL4 (by decide) (by decide)) hF _ _ _ hw (lv_sub hl [1, 2, 3, 4, 5, 0] rfl)
              · have c_30 := Nat.not_le.mp ((not_congr (nI_leI (by omega) (by omega))).mp c_30)
                refine lv_aload_n hx hb d_M_note_33 rfl (lv_at hl 0 rfl) ?_
                refine lv_iload hx hb d_M_note_34 (lv_at hl 5 rfl) ?_
                refine lv_iload hx hb d_M_note_36 (lv_at hl 4 rfl) ?_
                refine x_callG hC (c_M_stands l G M1 (Array.size H) md am nuL3 sgL4 hR w q (by omega) (by rw [hnuL3 13 (by decide), hnuL1 13 (by decide)]; exact h8w (by omega)) (by omega) (by rw [hnuL3 29 (by decide), hnuL1 29 (by decide)]; exact hs)) k_902 k_13 ⟨Nat.le_of_ble_eq_true rfl, Nat.le_of_ble_eq_true rfl⟩ ⟨Nat.le_of_ble_eq_true rfl, Nat.le_of_ble_eq_true rfl⟩ hw hl.1 (Nat.le_of_ble_eq_true rfl) d_M_note_38 (x_ivV hC k_902 k_899 k_901 kp_27 (show _ ∧ _ ∧ _ = some 2 from by decide +kernel) (x_recv hC hw hR.1 rfl) rfl d_M_note_38) (fun rv M5 H locs hq hw => ?_) (fun _ _ _ _ _ h _ _ => h.elim)
                obtain ⟨rfl, hM⟩ := hq
                subst M5
                refine W.eq (g2 := F0 m 41 ls [.int (zI (stP nuL3 sgL4 (sgL4 30) (nuL3 29 0) w q))]) rfl ?_
                refine x_vi (y := zI (stP nu sg (sg 30) (nu 29 0) w q)) (by unfold stP; rw [hnuL3 13 (by decide), hnuL1 13 (by decide), hnuL3 29 (by decide), hnuL1 29 (by decide), hsgL4 30 (by decide), hsgL2 30 (by decide), hsgL4 14 (by decide), hsgL2 14 (by decide)]) ?_
                refine lv_if_eq (tgt := 124) hx hb d_M_note_41 (by decide) (fun c_41 => ?_) (fun c_41 => ?_)
                · have c_41 := zI_0.mp c_41
                  refine lv_iinc (v := nI (w + 1)) (lv' := [(5, .int (nI (w + 1))), (0, .ref md), (1, .int kd), (2, .int no), (3, .int en), (4, .int (nI q))]) hx hb d_M_note_124 hl (k := 5) rfl (by exact nI_1 _) (by decide) rfl (fun ls hl => ?_)
                  refine lv_goto (tgt := 15) hx hb d_M_note_127 (by decide) ?_
                  exact ih15 (w + 1) (ntW (fun w q => stP nu sg (sg 30) (nu 29 0) w q) kd no en q (w + 1) (ntP (fun w q => stP nu sg (sg 30) (nu 29 0) w q) kd no en (nu 12 0) q (nu 25 0, sg 26))) nuL3 sgL4 (by omega) (by omega) (rfl) (by rw [ntW_f c_41, ← hX]; exact h25) (by rw [ntW_f c_41, ← hX]; exact h26) _ hR (eqx.trans (L := [25]) (eqx.rf (L := [25])) hnuL3 (by decide) (by decide)) (eqx.trans (L := [26]) (eqx.rf (L := [26])) hsgL4 (by decide) (by decide)) hF _ _ _ hw (lv_sub hl [1, 2, 3, 4, 5, 0] rfl)
                · have c_41 := zI_1.mp c_41
                  refine lv_aload_n hx hb d_M_note_44 rfl (lv_at hl 0 rfl) ?_
                  refine x_get hC hw hR.1 rfl 26 (by decide) (hts _ k_760) (fun _ h9 => h9) rfl d_M_note_45 ?_
                  refine lv_iconst (v := nI 5) hx hb d_M_note_48 (by decide) ?_
                  refine lv_aload_n hx hb d_M_note_49 rfl (lv_at hl 0 rfl) ?_
                  refine x_get hC hw hR.1 rfl 25 (by decide) (hts _ k_759) (fun _ h9 => h9) rfl d_M_note_50 ?_
                  refine x_vi (y := nI X.1) (by rw [h25]) ?_
                  refine lv_imul hx hb d_M_note_53 ?_
                  refine x_vi (y := nI (5 * X.1)) (pk_mul _ _) ?_
                  refine lv_iload_n hx hb d_M_note_54 rfl (lv_at hl 1 rfl) ?_
                  refine m_stI hC hw hR hF 26 (5 * X.1) rfl (rfl) (by show _ < 500; omega) (by decide) d_M_note_55 (fun M6 H locs sg7 hsg7 esg7 hR hF hw => ?_)
                  refine lv_aload_n hx hb d_M_note_56 rfl (lv_at hl 0 rfl) ?_
                  refine x_get hC hw hR.1 rfl 26 (by decide) (hts _ k_760) (fun _ h9 => h9) rfl d_M_note_57 ?_
                  refine lv_iconst (v := nI 5) hx hb d_M_note_60 (by decide) ?_
                  refine lv_aload_n hx hb d_M_note_61 rfl (lv_at hl 0 rfl) ?_
                  refine x_get hC hw hR.1 rfl 25 (by decide) (hts _ k_759) (fun _ h9 => h9) rfl d_M_note_62 ?_
                  refine x_vi (y := nI X.1) (by rw [h25]) ?_
                  refine lv_imul hx hb d_M_note_65 ?_
                  refine x_vi (y := nI (5 * X.1)) (pk_mul _ _) ?_
                  refine lv_iconst (v := nI 1) hx hb d_M_note_66 (by decide) ?_
                  refine lv_iadd hx hb d_M_note_67 ?_
                  refine x_vi (y := nI ((5 * X.1) + 1)) (nI_add _ _) ?_
                  refine lv_iload_n hx hb d_M_note_68 rfl (lv_at hl 2 rfl) ?_
                  refine m_stI hC hw hR hF 26 ((5 * X.1) + 1) rfl (rfl) (by show _ < 500; omega) (by decide) d_M_note_69 (fun M8 H locs sg9 hsg9 esg9 hR hF hw => ?_)
                  refine lv_aload_n hx hb d_M_note_70 rfl (lv_at hl 0 rfl) ?_
                  refine x_get hC hw hR.1 rfl 26 (by decide) (hts _ k_760) (fun _ h9 => h9) rfl d_M_note_71 ?_
                  refine lv_iconst (v := nI 5) hx hb d_M_note_74 (by decide) ?_
                  refine lv_aload_n hx hb d_M_note_75 rfl (lv_at hl 0 rfl) ?_
                  refine x_get hC hw hR.1 rfl 25 (by decide) (hts _ k_759) (fun _ h9 => h9) rfl d_M_note_76 ?_
                  refine x_vi (y := nI X.1) (by rw [h25]) ?_
                  refine lv_imul hx hb d_M_note_79 ?_
                  refine x_vi (y := nI (5 * X.1)) (pk_mul _ _) ?_
                  refine lv_iconst (v := nI 2) hx hb d_M_note_80 (by decide) ?_
                  refine lv_iadd hx hb d_M_note_81 ?_
                  refine x_vi (y := nI ((5 * X.1) + 2)) (nI_add _ _) ?_
                  refine lv_iload hx hb d_M_note_82 (lv_at hl 4 rfl) ?_
                  refine m_stI hC hw hR hF 26 ((5 * X.1) + 2) rfl (rfl) (by show _ < 500; omega) (by decide) d_M_note_84 (fun M10 H locs sg11 hsg11 esg11 hR hF hw => ?_)
                  refine lv_aload_n hx hb d_M_note_85 rfl (lv_at hl 0 rfl) ?_
                  refine x_get hC hw hR.1 rfl 26 (by decide) (hts _ k_760) (fun _ h9 => h9) rfl d_M_note_86 ?_
                  refine lv_iconst (v := nI 5) hx hb d_M_note_89 (by decide) ?_
                  refine lv_aload_n hx hb d_M_note_90 rfl (lv_at hl 0 rfl) ?_
                  refine x_get hC hw hR.1 rfl 25 (by decide) (hts _ k_759) (fun _ h9 => h9) rfl d_M_note_91 ?_
                  refine x_vi (y := nI X.1) (by rw [h25]) ?_
                  refine lv_imul hx hb d_M_note_94 ?_
                  refine x_vi (y := nI (5 * X.1)) (pk_mul _ _) ?_
                  refine lv_iconst (v := nI 3) hx hb d_M_note_95 (by decide) ?_
                  refine lv_iadd hx hb d_M_note_96 ?_
                  refine x_vi (y := nI ((5 * X.1) + 3)) (nI_add _ _) ?_
                  refine lv_iload hx hb d_M_note_97 (lv_at hl 5 rfl) ?_
                  refine m_stI hC hw hR hF 26 ((5 * X.1) + 3) rfl (rfl) (by show _ < 500; omega) (by decide) d_M_note_99 (fun M12 H locs sg13 hsg13 esg13 hR hF hw => ?_)
                  refine lv_aload_n hx hb d_M_note_100 rfl (lv_at hl 0 rfl) ?_
                  refine x_get hC hw hR.1 rfl 26 (by decide) (hts _ k_760) (fun _ h9 => h9) rfl d_M_note_101 ?_
                  refine lv_iconst (v := nI 5) hx hb d_M_note_104 (by decide) ?_
                  refine lv_aload_n hx hb d_M_note_105 rfl (lv_at hl 0 rfl) ?_
                  refine x_get hC hw hR.1 rfl 25 (by decide) (hts _ k_759) (fun _ h9 => h9) rfl d_M_note_106 ?_
                  refine x_vi (y := nI X.1) (by rw [h25]) ?_
                  refine lv_imul hx hb d_M_note_109 ?_
                  refine x_vi (y := nI (5 * X.1)) (pk_mul _ _) ?_
                  refine lv_iconst (v := nI 4) hx hb d_M_note_110 (by decide) ?_
                  refine lv_iadd hx hb d_M_note_111 ?_
                  refine x_vi (y := nI ((5 * X.1) + 4)) (nI_add _ _) ?_
                  refine lv_iload_n hx hb d_M_note_112 rfl (lv_at hl 3 rfl) ?_
                  refine m_stI hC hw hR hF 26 ((5 * X.1) + 4) rfl (rfl) (by show _ < 500; omega) (by decide) d_M_note_113 (fun M14 H locs sg15 hsg15 esg15 hR hF hw => ?_)
                  refine lv_aload_n hx hb d_M_note_114 rfl (lv_at hl 0 rfl) ?_
                  refine lv_dup hx hb d_M_note_115 rfl ?_
                  refine x_get hC hw hR.1 rfl 25 (by decide) (hts _ k_759) (fun _ h9 => h9) rfl d_M_note_116 ?_
                  refine x_vi (y := nI X.1) (by rw [h25]) ?_
                  refine lv_iconst (v := nI 1) hx hb d_M_note_119 (by decide) ?_
                  refine lv_iadd hx hb d_M_note_120 ?_
                  refine x_vi (y := nI (X.1 + 1)) (nI_add _ _) ?_
                  refine m_put hC hw hR hF 25 (X.1 + 1) rfl (by decide) (hts _ k_759) (fun _ h9 => h9) rfl (by decide +kernel) rfl rfl d_M_note_121 (fun M17 H locs nu16 hnu16 enu16 hR hF hw => ?_)
                  refine lv_iinc (v := nI (w + 1)) (lv' := [(5, .int (nI (w + 1))), (0, .ref md), (1, .int kd), (2, .int no), (3, .int en), (4, .int (nI q))]) hx hb d_M_note_124 hl (k := 5) rfl (by exact nI_1 _) (by decide) rfl (fun ls hl => ?_)
                  refine lv_goto (tgt := 15) hx hb d_M_note_127 (by decide) ?_
                  exact ih15 (w + 1) (ntW (fun w q => stP nu sg (sg 30) (nu 29 0) w q) kd no en q (w + 1) (ntP (fun w q => stP nu sg (sg 30) (nu 29 0) w q) kd no en (nu 12 0) q (nu 25 0, sg 26))) nu16 sg15 (by omega) (by omega) (rfl) (by rw [ntW_t c_41, ← hX, fAdd, if_pos c_30, enu16]) (by rw [ntW_t c_41, ← hX, fAdd, if_pos c_30, esg15, esg13, esg11, esg9, esg7, h26]) _ hR (eqx.trans (L := [25]) (eqx.trans (L := [25]) (eqx.rf (L := [25])) hnuL3 (by decide) (by decide)) hnu16 (by decide) (by decide)) (eqx.trans (L := [26]) (eqx.trans (L := [26]) (eqx.trans (L := [26]) (eqx.trans (L := [26]) (eqx.trans (L := [26]) (eqx.trans (L := [26]) (eqx.rf (L := [26])) hsgL4 (by decide) (by decide)) hsg7 (by decide) (by decide)) hsg9 (by decide) (by decide)) hsg11 (by decide) (by decide)) hsg13 (by decide) (by decide)) hsg15 (by decide) (by decide)) hF _ _ _ hw (lv_sub hl [1, 2, 3, 4, 5, 0] rfl)
        exact HL15 (nu 12 0 + 1) (0) (ntW (fun w q => stP nu sg (sg 30) (nu 29 0) w q) kd no en q 0 (ntP (fun w q => stP nu sg (sg 30) (nu 29 0) w q) kd no en (nu 12 0) q (nu 25 0, sg 26))) nuL1 sgL2 (by omega) (by omega) (rfl) (h25) (h26) _ hR eqx.rf eqx.rf hF _ _ _ hw (lv_sub hl [1, 2, 3, 4, 5, 0] rfl)
  exact HL3 (nu 29 0 + 1) (0)  nu sg (by omega) (by omega) (rfl) (rfl) _ hR eqx.rf eqx.rf hF _ _ _ hw (lv_sub hl [1, 2, 3, 4, 0] rfl)
