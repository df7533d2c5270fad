set_option maxHeartbeats 1000000 in
set_option maxRecDepth 100000 in
/-- in -/
theorem c_M_in (l : Launch) (G : xT) (M : xMem) (sz : Nat)  (v0 v1 v2 : Int32) : xMet l G y_M_in (Cond.code y_M_in b_M_in 3 (Option.some Jvm.ClassFile.FieldType.boolean) :: x_tbl) { frames := 0, cells := 0, slots := 0, locals := 0 } [.int v0, .int v1, .int v2] M sz (fun v M' => v = some (.int (zI (inP v0 v1 v2))) ∧ M' = M) (fun _ _ => False) := by
  refine xMet.of (by decide) (Nat.le_of_ble_eq_true rfl) ?_
  intro p e s m below meth c ls hC hr hnm hno hsz hw hl
  obtain ⟨hx, hb, hown, hts, hK, hml, hlk, hz⟩ := id hC
  have hl : lv_has ls 3 [(0, .int v0), (1, .int v1), (2, .int v2)] := hl
  have J15 : ∀ (H : Heap) (locs : List Loc) (ls : Array Slot), xWd G (xA M sz) s.heap M H locs → lv_has ls 3 [(0, .int v0), (1, .int v1), (2, .int v2)] → W p l e { frames := 0, cells := 0, slots := 0, locals := 0 } s m ([.int v0, .int v1, .int v2] : List Value).toArray below meth c H locs 0 0 (xMQ below G M sz (fun v M' => v = some (.int (zI (inP v0 v1 v2))) ∧ M' = M) (fun _ _ => False) s 0 0) (F0 m 15 ls [.int (zI (inP v0 v1 v2))]) := by
    intro H locs ls hw hl
    exact x_zret hC hr hw (by first | exact zI_narV _ | rfl | assumption | decide +kernel) (⟨rfl, rfl⟩) (Nat.le_of_ble_eq_true rfl) (Nat.le_of_ble_eq_true rfl) d_M_in_15
  refine lv_iload_n hx hb d_M_in_0 rfl (lv_at hl 0 rfl) ?_
  refine lv_iload_n hx hb d_M_in_1 rfl (lv_at hl 1 rfl) ?_
  refine lv_icmp_lt (tgt := 14) hx hb d_M_in_2 (by decide) (fun c_2 => ?_) (fun c_2 => ?_)
  · refine lv_iconst (v := nI 0) hx hb d_M_in_14 (by decide) ?_
    refine x_vi (y := zI (inP v0 v1 v2)) ((zI_f (fun h => h.1 c_2)).symm) ?_
    exact J15 _ _ _ hw (lv_sub hl [0, 1, 2] rfl)
  · refine lv_iload_n hx hb d_M_in_5 rfl (lv_at hl 0 rfl) ?_
    refine lv_iload_n hx hb d_M_in_6 rfl (lv_at hl 2 rfl) ?_
    refine lv_icmp_gt (tgt := 14) hx hb d_M_in_7 (by decide) (fun c_7 => ?_) (fun c_7 => ?_)
    · refine lv_iconst (v := nI 0) hx hb d_M_in_14 (by decide) ?_
      refine x_vi (y := zI (inP v0 v1 v2)) ((zI_f (fun h => h.2 c_7)).symm) ?_
      exact J15 _ _ _ hw (lv_sub hl [0, 1, 2] rfl)
    · refine lv_iconst (v := nI 1) hx hb d_M_in_10 (by decide) ?_
      refine lv_goto (tgt := 15) hx hb d_M_in_11 (by decide) ?_
      refine x_vi (y := zI (inP v0 v1 v2)) ((zI_t ⟨c_2, c_7⟩).symm) ?_
      exact J15 _ _ _ hw (lv_sub hl [0, 1, 2] rfl)

set_option maxHeartbeats 1000000 in
set_option maxRecDepth 100000 in
/-- markPlace -/
theorem c_M_markPlace (l : Launch) (G : xT) (M : xMem) (sz : Nat)  (u : Nat) : xMet l G y_M_markPlace (Cond.code y_M_markPlace b_M_markPlace 1 (Option.some Jvm.ClassFile.FieldType.int) :: x_tbl) { frames := 0, cells := 0, slots := 0, locals := 0 } [.int (nI u)] M sz (fun v M' => v = some (.int (nI (160 + 40 * u))) ∧ M' = M) (fun _ _ => False) := by
  refine xMet.of (by decide) (Nat.le_of_ble_eq_true rfl) ?_
  intro p e s m below meth c ls hC hr hnm hno hsz hw hl
  obtain ⟨hx, hb, hown, hts, hK, hml, hlk, hz⟩ := id hC
  have hl : lv_has ls 1 [(0, .int (nI u))] := hl
  refine lv_sipush (v := nI 160) hx hb d_M_markPlace_0 (by decide) ?_
  refine lv_bipush (v := nI 40) hx hb d_M_markPlace_3 (by decide) ?_
  refine lv_iload_n hx hb d_M_markPlace_5 rfl (lv_at hl 0 rfl) ?_
  refine lv_imul hx hb d_M_markPlace_6 ?_
  refine x_vi (y := nI (40 * u)) (pk_mul _ _) ?_
  refine lv_iadd hx hb d_M_markPlace_7 ?_
  refine x_vi (y := nI (160 + (40 * u))) (nI_add _ _) ?_
  exact x_iret hC hr hw (⟨rfl, rfl⟩) (Nat.le_of_ble_eq_true rfl) (Nat.le_of_ble_eq_true rfl) d_M_markPlace_8

set_option maxHeartbeats 1000000 in
set_option maxRecDepth 100000 in
/-- lay -/
theorem c_M_lay (l : Launch) (G : xT) (M : xMem) (sz : Nat) (md : Nat) (am : Nat → Nat) (nu : Nat → Nat → Nat) (sg : Nat → Nat → Int32) (hR : mRep G M md am nu sg) (r : Nat) (a0 a1 a2 a3 : Int32) (hr24 : r < 24) (hs : nu 1 r < 40) : xMet l G y_M_lay (Cond.code y_M_lay b_M_lay 7 none :: x_tbl) { frames := 0, cells := 0, slots := 0, locals := 0 } [.ref md, .int (nI r), .int a0, .int a1, .int a2, .int a3] M sz (fun v M' => v = none ∧ ∃ (nu' : Nat → Nat → Nat) (sg' : Nat → Nat → Int32), mRep G M' md am nu' sg' ∧ eqx [1] nu nu' ∧ eqx [2, 3, 4, 5] sg sg' ∧ xfr M M' (mS md am) ∧ nu' 1 = va_up (nu 1) r (nu 1 r + 1) ∧ sg' 2 = va_up (sg 2) (40 * r + nu 1 r) a0 ∧ sg' 3 = va_up (sg 3) (40 * r + nu 1 r) a1 ∧ sg' 4 = va_up (sg 4) (40 * r + nu 1 r) a2 ∧ sg' 5 = va_up (sg 5) (40 * r + nu 1 r) a3) (fun _ _ => False) := by
  refine xMet.of (by decide) (Nat.le_of_ble_eq_true rfl) ?_
  intro p e s m below meth c ls hC hr hnm hno hsz hw hl
  obtain ⟨hx, hb, hown, hts, hK, hml, hlk, hz⟩ := id hC
  have hl : lv_has ls 7 [(0, .ref md), (1, .int (nI r)), (2, .int a0), (3, .int a1), (4, .int a2), (5, .int a3)] := hl
  have hF : xfr M M (mS md am) := xfr.rf
  refine lv_bipush (v := nI 40) hx hb d_M_lay_0 (by decide) ?_
  refine lv_iload_n hx hb d_M_lay_2 rfl (lv_at hl 1 rfl) ?_
  refine lv_imul hx hb d_M_lay_3 ?_
  refine x_vi (y := nI (40 * r)) (pk_mul _ _) ?_
  refine lv_aload_n hx hb d_M_lay_4 rfl (lv_at hl 0 rfl) ?_
  refine x_get hC hw hR.1 rfl 1 (by decide) (hts _ k_735) (fun _ h9 => h9) rfl d_M_lay_5 ?_
  refine lv_iload_n hx hb d_M_lay_8 rfl (lv_at hl 1 rfl) ?_
  refine m_ldN hC hw hR 1 r rfl (rfl) (by show _ < 24; omega) (by decide) d_M_lay_9 ?_
  refine lv_iadd hx hb d_M_lay_10 ?_
  refine x_vi (y := nI ((40 * r) + (nu 1 r))) (nI_add _ _) ?_
  refine lv_istore (lv' := [(6, .int (nI ((40 * r) + (nu 1 r)))), (0, .ref md), (1, .int (nI r)), (2, .int a0), (3, .int a1), (4, .int a2), (5, .int a3)]) hx hb d_M_lay_11 hl (by decide) rfl (fun ls hl => ?_)
  refine lv_aload_n hx hb d_M_lay_13 rfl (lv_at hl 1 rfl) ?_
  refine x_get hC hw hR.1 rfl 2 (by decide) (hts _ k_736) (fun _ h9 => h9) rfl d_M_lay_14 ?_
  refine lv_iload hx hb d_M_lay_17 (lv_at hl 0 rfl) ?_
  refine lv_iload_n hx hb d_M_lay_19 rfl (lv_at hl 3 rfl) ?_
  refine m_stI hC hw hR hF 2 ((40 * r) + (nu 1 r)) rfl (rfl) (by show _ < 960; omega) (by decide) d_M_lay_20 (fun M1 H locs sg2 hsg2 esg2 hR hF hw => ?_)
  refine lv_aload_n hx hb d_M_lay_21 rfl (lv_at hl 1 rfl) ?_
  refine x_get hC hw hR.1 rfl 3 (by decide) (hts _ k_737) (fun _ h9 => h9) rfl d_M_lay_22 ?_
  refine lv_iload hx hb d_M_lay_25 (lv_at hl 0 rfl) ?_
  refine lv_iload_n hx hb d_M_lay_27 rfl (lv_at hl 4 rfl) ?_
  refine m_stI hC hw hR hF 3 ((40 * r) + (nu 1 r)) rfl (rfl) (by show _ < 960; omega) (by decide) d_M_lay_28 (fun M3 H locs sg4 hsg4 esg4 hR hF hw => ?_)
  refine lv_aload_n hx hb d_M_lay_29 rfl (lv_at hl 1 rfl) ?_
  refine x_get hC hw hR.1 rfl 4 (by decide) (hts _ k_738) (fun _ h9 => h9) rfl d_M_lay_30 ?_
  refine lv_iload hx hb d_M_lay_33 (lv_at hl 0 rfl) ?_
  refine lv_iload hx hb d_M_lay_35 (lv_at hl 5 rfl) ?_
  refine m_stI hC hw hR hF 4 ((40 * r) + (nu 1 r)) rfl (rfl) (by show _ < 960; omega) (by decide) d_M_lay_37 (fun M5 H locs sg6 hsg6 esg6 hR hF hw => ?_)
  refine lv_aload_n hx hb d_M_lay_38 rfl (lv_at hl 1 rfl) ?_
  refine x_get hC hw hR.1 rfl 5 (by decide) (hts _ k_739) (fun _ h9 => h9) rfl d_M_lay_39 ?_
  refine lv_iload hx hb d_M_lay_42 (lv_at hl 0 rfl) ?_
  refine lv_iload hx hb d_M_lay_44 (lv_at hl 6 rfl) ?_
  refine m_stI hC hw hR hF 5 ((40 * r) + (nu 1 r)) rfl (rfl) (by show _ < 960; omega) (by decide) d_M_lay_46 (fun M7 H locs sg8 hsg8 esg8 hR hF hw => ?_)
  refine lv_aload_n hx hb d_M_lay_47 rfl (lv_at hl 1 rfl) ?_
  refine x_get hC hw hR.1 rfl 1 (by decide) (hts _ k_735) (fun _ h9 => h9) rfl d_M_lay_48 ?_
  refine lv_iload_n hx hb d_M_lay_51 rfl (lv_at hl 2 rfl) ?_
  refine lv_dup2_11 hx hb d_M_lay_52 rfl rfl ?_
  refine m_ldN hC hw hR 1 r rfl (rfl) (by show _ < 24; omega) (by decide) d_M_lay_53 ?_
  refine lv_iconst (v := nI 1) hx hb d_M_lay_54 (by decide) ?_
  refine lv_iadd hx hb d_M_lay_55 ?_
  refine x_vi (y := nI ((nu 1 r) + 1)) (nI_add _ _) ?_
  refine m_stN hC hw hR hF 1 r ((nu 1 r) + 1) rfl (rfl) rfl (by show _ < 24; omega) (by decide) d_M_lay_56 (fun M9 H locs nu10 hnu10 enu10 hR hF hw => ?_)
  exact x_vret hC hr hw (⟨rfl, nu10, sg8, hR, (eqx.trans (L := [1]) (eqx.rf (L := [1])) hnu10 (by decide) (by decide)), (eqx.trans (L := [2, 3, 4, 5]) (eqx.trans (L := [2, 3, 4, 5]) (eqx.trans (L := [2, 3, 4, 5]) (eqx.trans (L := [2, 3, 4, 5]) (eqx.rf (L := [2, 3, 4, 5])) hsg2 (by decide) (by decide)) hsg4 (by decide) (by decide)) hsg6 (by decide) (by decide)) hsg8 (by decide) (by decide)), hF, (by rw [enu10]), (by rw [hsg8 2 (by decide), hsg6 2 (by decide), hsg4 2 (by decide), esg2]), (by rw [hsg8 3 (by decide), hsg6 3 (by decide), esg4, hsg2 3 (by decide)]), (by rw [hsg8 4 (by decide), esg6, hsg4 4 (by decide), hsg2 4 (by decide)]), (by rw [esg8, hsg6 5 (by decide), hsg4 5 (by decide), hsg2 5 (by decide)])⟩) (Nat.le_of_ble_eq_true rfl) (Nat.le_of_ble_eq_true rfl) d_M_lay_57

set_option maxHeartbeats 1000000 in
set_option maxRecDepth 100000 in
/-- takeRow -/
theorem c_M_takeRow (l : Launch) (G : xT) (M : xMem) (sz : Nat) (md : Nat) (am : Nat → Nat) (nu : Nat → Nat → Nat) (sg : Nat → Nat → Int32) (hR : mRep G M md am nu sg) (r : Nat) (hr24 : r < 24) (hs : nu 1 r ≤ 40) : xMet l G y_M_takeRow (Cond.code y_M_takeRow b_M_takeRow 3 none :: x_tbl) { frames := 0, cells := 0, slots := 0, locals := 0 } [.ref md, .int (nI r)] M sz (fun v M' => v = none ∧ ∃ (nu' : Nat → Nat → Nat) (sg' : Nat → Nat → Int32), mRep G M' md am nu' sg' ∧ eqx [29] nu nu' ∧ eqx [30] sg sg' ∧ xfr M M' (mS md am) ∧ nu' 29 = (fun _ => nu 1 r) ∧ ∀ j, j < nu 1 r → sg' 30 j = sg 2 (40 * r + j)) (fun _ _ => False) := by
  refine xMet.of (by decide) (Nat.le_of_ble_eq_true rfl) ?_
  intro p e s m below meth c ls hC hr hnm hno hsz hw hl
  obtain ⟨hx, hb, hown, hts, hK, hml, hlk, hz⟩ := id hC
  have hl : lv_has ls 3 [(0, .ref md), (1, .int (nI r))] := hl
  have hF : xfr M M (mS md am) := xfr.rf
  refine lv_aload_n hx hb d_M_takeRow_0 rfl (lv_at hl 0 rfl) ?_
  refine lv_aload_n hx hb d_M_takeRow_1 rfl (lv_at hl 0 rfl) ?_
  refine x_get hC hw hR.1 rfl 1 (by decide) (hts _ k_735) (fun _ h9 => h9) rfl d_M_takeRow_2 ?_
  refine lv_iload_n hx hb d_M_takeRow_5 rfl (lv_at hl 1 rfl) ?_
  refine m_ldN hC hw hR 1 r rfl (rfl) (by show _ < 24; omega) (by decide) d_M_takeRow_6 ?_
  refine m_put hC hw hR hF 29 (nu 1 r) rfl (by decide) (hts _ k_763) (fun _ h9 => h9) rfl (by decide +kernel) rfl rfl d_M_takeRow_7 (fun M2 H locs nu1 hnu1 enu1 hR hF hw => ?_)
  refine lv_iconst (v := nI 0) hx hb d_M_takeRow_10 (by decide) ?_
  refine lv_istore_n (lv' := [(2, .int (nI 0)), (0, .ref md), (1, .int (nI r))]) hx hb d_M_takeRow_11 rfl hl (by decide) rfl (fun ls hl => ?_)
  have HL12 : ∀ (z12 k : Nat) (nuL3 : Nat → Nat → Nat) (sgL4 : Nat → Nat → Int32), k ≤ nu 1 r → nu 1 r + 1 ≤ k + z12 → (∀ j, j < k → sgL4 30 j = sg 2 (40 * r + j)) → ∀ (M1 : xMem), mRep G M1 md am nuL3 sgL4 → eqx [] nu1 nuL3 → eqx [30] sg sgL4 → xfr M M1 (mS md am) → ∀ (H : Heap) (locs : List Loc) (ls : Array Slot), xWd G (xA M sz) s.heap M1 H locs → lv_has ls 3 [(0, .ref md), (1, .int (nI r)), (2, .int (nI k))] → W p l e { frames := 0, cells := 0, slots := 0, locals := 0 } s m ([.ref md, .int (nI r)] : List Value).toArray below meth c H locs 0 0 (xMQ below G M sz (fun v M' => v = none ∧ ∃ (nu' : Nat → Nat → Nat) (sg' : Nat → Nat → Int32), mRep G M' md am nu' sg' ∧ eqx [29] nu nu' ∧ eqx [30] sg sg' ∧ xfr M M' (mS md am) ∧ nu' 29 = (fun _ => nu 1 r) ∧ ∀ j, j < nu 1 r → sg' 30 j = sg 2 (40 * r + j)) (fun _ _ => False) s 0 0) (F0 m 12 ls []) := by
    intro z12
    induction z12 with
    | zero =>
      intro k  nuL3 sgL4 h1 h2
      omega
    | succ z12 ih12 =>
      intro k  nuL3 sgL4 hi12 hz12 hg M1 hR hnuL3 hsgL4 hF H locs ls hw hl
      refine lv_iload_n hx hb d_M_takeRow_12 rfl (lv_at hl 2 rfl) ?_
      refine lv_aload_n hx hb d_M_takeRow_13 rfl (lv_at hl 0 rfl) ?_
      refine x_get hC hw hR.1 rfl 29 (by decide) (hts _ k_763) (fun _ h9 => h9) rfl d_M_takeRow_14 ?_
      refine x_vi (y := nI (nu 1 r)) (by rw [hnuL3 29 (by decide), enu1]) ?_
      refine lv_icmp_ge (tgt := 43) hx hb d_M_takeRow_17 (by decide) (fun c_17 => ?_) (fun c_17 => ?_)
      · have c_17 := (nI_leI (by omega) (by omega)).mp c_17
        exact x_vret hC hr hw (⟨rfl, nuL3, sgL4, hR, (eqx.trans (L := [29]) (eqx.trans (L := [29]) (eqx.rf (L := [29])) hnu1 (by decide) (by decide)) hnuL3 (by decide) (by decide)), (eqx.trans (L := [30]) (eqx.rf (L := [30])) hsgL4 (by decide) (by decide)), hF, (by rw [hnuL3 29 (by decide), enu1]), fun j hj => hg j (by omega)⟩) (Nat.le_of_ble_eq_true rfl) (Nat.le_of_ble_eq_true rfl) d_M_takeRow_43
      · have c_17 := Nat.not_le.mp ((not_congr (nI_leI (by omega) (by omega))).mp c_17)
        refine lv_aload_n hx hb d_M_takeRow_20 rfl (lv_at hl 0 rfl) ?_
        refine x_get hC hw hR.1 rfl 30 (by decide) (hts _ k_764) (fun _ h9 => h9) rfl d_M_takeRow_21 ?_
        refine lv_iload_n hx hb d_M_takeRow_24 rfl (lv_at hl 2 rfl) ?_
        refine lv_aload_n hx hb d_M_takeRow_25 rfl (lv_at hl 0 rfl) ?_
        refine x_get hC hw hR.1 rfl 2 (by decide) (hts _ k_736) (fun _ h9 => h9) rfl d_M_takeRow_26 ?_
        refine lv_bipush (v := nI 40) hx hb d_M_takeRow_29 (by decide) ?_
        refine lv_iload_n hx hb d_M_takeRow_31 rfl (lv_at hl 1 rfl) ?_
        refine lv_imul hx hb d_M_takeRow_32 ?_
        refine x_vi (y := nI (40 * r)) (pk_mul _ _) ?_
        refine lv_iload_n hx hb d_M_takeRow_33 rfl (lv_at hl 2 rfl) ?_
        refine lv_iadd hx hb d_M_takeRow_34 ?_
        refine x_vi (y := nI ((40 * r) + k)) (nI_add _ _) ?_
        refine m_ldI hC hw hR 2 ((40 * r) + k) rfl (rfl) (by show _ < 960; omega) (by decide) d_M_takeRow_35 ?_
        refine x_vi (y := sg 2 ((40 * r) + k)) (by rw [hsgL4 2 (by decide)]) ?_
        refine m_stI hC hw hR hF 30 k rfl (rfl) (by show _ < 60; omega) (by decide) d_M_takeRow_36 (fun M5 H locs sg6 hsg6 esg6 hR hF hw => ?_)
        refine lv_iinc (v := nI (k + 1)) (lv' := [(2, .int (nI (k + 1))), (0, .ref md), (1, .int (nI r))]) hx hb d_M_takeRow_37 hl (k := 2) rfl (by exact nI_1 _) (by decide) rfl (fun ls hl => ?_)
        refine lv_goto (tgt := 12) hx hb d_M_takeRow_40 (by decide) ?_
        exact ih12 (k + 1)  nuL3 sg6 (by omega) (by omega) (x_upS hg esg6 rfl) _ hR (eqx.trans (L := []) (eqx.rf (L := [])) hnuL3 (by decide) (by decide)) (eqx.trans (L := [30]) (eqx.trans (L := [30]) (eqx.rf (L := [30])) hsgL4 (by decide) (by decide)) hsg6 (by decide) (by decide)) hF _ _ _ hw (lv_sub hl [1, 2, 0] rfl)
  exact HL12 (nu 1 r + 1) (0)  nu1 sg (by omega) (by omega) (fun j hj => absurd hj (Nat.not_lt_zero j)) _ hR eqx.rf eqx.rf hF _ _ _ hw (lv_sub hl [1, 2, 0] rfl)

set_option maxHeartbeats 1000000 in
set_option maxRecDepth 100000 in
/-- stands -/
theorem c_M_stands (l : Launch) (G : xT) (M : xMem) (sz : Nat) (md : Nat) (am : Nat → Nat) (nu : Nat → Nat → Nat) (sg : Nat → Nat → Int32) (hR : mRep G M md am nu sg) (w q : Nat) (hw4 : w < 4) (h8 : nu 13 w ≤ 8) (hq60 : q < 60) (hs : nu 29 0 ≤ 60) : xMet l G y_M_stands (Cond.code y_M_stands b_M_stands 6 (Option.some Jvm.ClassFile.FieldType.boolean) :: x_tbl) { frames := 0, cells := 0, slots := 0, locals := 0 } [.ref md, .int (nI w), .int (nI q)] M sz (fun v M' => v = some (.int (zI (stP nu sg (sg 30) (nu 29 0) w q))) ∧ M' = M) (fun _ _ => False) := by
  refine xMet.of (by decide) (Nat.le_of_ble_eq_true rfl) ?_
  intro p e s m below meth c ls hC hr hnm hno hsz hw hl
  obtain ⟨hx, hb, hown, hts, hK, hml, hlk, hz⟩ := id hC
  have hl : lv_has ls 6 [(0, .ref md), (1, .int (nI w)), (2, .int (nI q))] := hl
  have hF : xfr M M (mS md am) := xfr.rf
  refine lv_aload_n hx hb d_M_stands_0 rfl (lv_at hl 0 rfl) ?_
  refine x_get hC hw hR.1 rfl 13 (by decide) (hts _ k_747) (fun _ h9 => h9) rfl d_M_stands_1 ?_
  refine lv_iload_n hx hb d_M_stands_4 rfl (lv_at hl 1 rfl) ?_
  refine m_ldN hC hw hR 13 w rfl (rfl) (by show _ < 4; omega) (by decide) d_M_stands_5 ?_
  refine lv_istore_n (lv' := [(3, .int (nI (nu 13 w))), (0, .ref md), (1, .int (nI w)), (2, .int (nI q))]) hx hb d_M_stands_6 rfl hl (by decide) rfl (fun ls hl => ?_)
  have J26 : ∀ (H : Heap) (locs : List Loc) (ls : Array Slot), xWd G (xA M sz) s.heap M H locs → lv_has ls 6 [(3, .int (nI (nu 13 w))), (0, .ref md), (1, .int (nI w)), (2, .int (nI q))] → W p l e { frames := 0, cells := 0, slots := 0, locals := 0 } s m ([.ref md, .int (nI w), .int (nI q)] : List Value).toArray below meth c H locs 0 0 (xMQ below G M sz (fun v M' => v = some (.int (zI (stP nu sg (sg 30) (nu 29 0) w q))) ∧ M' = M) (fun _ _ => False) s 0 0) (F0 m 26 ls [.int (zI (0 < nu 13 w ∧ q + nu 13 w ≤ nu 29 0 ∧ ∀ j, j < 0 → sg 30 (q + j) = sg 14 (8 * w + j)))]) := by
    intro H locs ls hw hl
    refine lv_istore (lv' := [(4, .int (zI (0 < nu 13 w ∧ q + nu 13 w ≤ nu 29 0 ∧ ∀ j, j < 0 → sg 30 (q + j) = sg 14 (8 * w + j)))), (3, .int (nI (nu 13 w))), (0, .ref md), (1, .int (nI w)), (2, .int (nI q))]) hx hb d_M_stands_26 hl (by decide) rfl (fun ls hl => ?_)
    refine lv_iconst (v := nI 0) hx hb d_M_stands_28 (by decide) ?_
    refine lv_istore (lv' := [(5, .int (nI 0)), (4, .int (zI (0 < nu 13 w ∧ q + nu 13 w ≤ nu 29 0 ∧ ∀ j, j < 0 → sg 30 (q + j) = sg 14 (8 * w + j)))), (3, .int (nI (nu 13 w))), (0, .ref md), (1, .int (nI w)), (2, .int (nI q))]) hx hb d_M_stands_29 hl (by decide) rfl (fun ls hl => ?_)
    have HL31 : ∀ (z31 k : Nat), k ≤ nu 13 w → nu 13 w + 1 ≤ k + z31 → ∀ (H : Heap) (locs : List Loc) (ls : Array Slot), xWd G (xA M sz) s.heap M H locs → lv_has ls 6 [(0, .ref md), (1, .int (nI w)), (2, .int (nI q)), (3, .int (nI (nu 13 w))), (4, .int (zI (0 < nu 13 w ∧ q + nu 13 w ≤ nu 29 0 ∧ ∀ j, j < k → sg 30 (q + j) = sg 14 (8 * w + j)))), (5, .int (nI k))] → W p l e { frames := 0, cells := 0, slots := 0, locals := 0 } s m ([.ref md, .int (nI w), .int (nI q)] : List Value).toArray below meth c H locs 0 0 (xMQ below G M sz (fun v M' => v = some (.int (zI (stP nu sg (sg 30) (nu 29 0) w q))) ∧ M' = M) (fun _ _ => False) s 0 0) (F0 m 31 ls []) := by
      intro z31
      induction z31 with
      | zero =>
        intro k  h1 h2
        omega
      | succ z31 ih31 =>
        intro k  hi31 hz31  H locs ls hw hl
        refine lv_iload hx hb d_M_stands_31 (lv_at hl 4 rfl) ?_
        refine lv_if_eq (tgt := 79) hx hb d_M_stands_33 (by decide) (fun c_33 => ?_) (fun c_33 => ?_)
        · have c_33 := zI_0.mp c_33
          refine lv_iload hx hb d_M_stands_79 (lv_at hl 4 rfl) ?_
          exact x_zret hC hr hw (by first | exact zI_narV _ | rfl | assumption | decide +kernel) (⟨congrArg (fun z => some (Value.int z)) (zI_c ⟨fun h => absurd h c_33, fun h => absurd (show _ from ⟨h.1, h.2.1, fun j hj => h.2.2 j (by omega)⟩) c_33⟩), rfl⟩) (Nat.le_of_ble_eq_true rfl) (Nat.le_of_ble_eq_true rfl) d_M_stands_81
        · have c_33 := zI_1.mp c_33
          have b1 := c_33.2.1
          refine lv_iload hx hb d_M_stands_36 (lv_at hl 5 rfl) ?_
          refine lv_iload_n hx hb d_M_stands_38 rfl (lv_at hl 3 rfl) ?_
          refine lv_icmp_ge (tgt := 79) hx hb d_M_stands_39 (by decide) (fun c_39 => ?_) (fun c_39 => ?_)
          · have c_39 := (nI_leI (by omega) (by omega)).mp c_39
            refine lv_iload hx hb d_M_stands_79 (lv_at hl 4 rfl) ?_
            exact x_zret hC hr hw (by first | exact zI_narV _ | rfl | assumption | decide +kernel) (⟨congrArg (fun z => some (Value.int z)) (zI_c ⟨fun h => ⟨h.1, h.2.1, fun j hj => h.2.2 j (by omega)⟩, fun h => ⟨h.1, h.2.1, fun j hj => h.2.2 j (by omega)⟩⟩), rfl⟩) (Nat.le_of_ble_eq_true rfl) (Nat.le_of_ble_eq_true rfl) d_M_stands_81
          · have c_39 := Nat.not_le.mp ((not_congr (nI_leI (by omega) (by omega))).mp c_39)
            have J71 : ∀ (H : Heap) (locs : List Loc) (ls : Array Slot), xWd G (xA M sz) s.heap M H locs → lv_has ls 6 [(0, .ref md), (1, .int (nI w)), (2, .int (nI q)), (3, .int (nI (nu 13 w))), (4, .int (zI (0 < nu 13 w ∧ q + nu 13 w ≤ nu 29 0 ∧ ∀ j, j < k → sg 30 (q + j) = sg 14 (8 * w + j)))), (5, .int (nI k))] → W p l e { frames := 0, cells := 0, slots := 0, locals := 0 } s m ([.ref md, .int (nI w), .int (nI q)] : List Value).toArray below meth c H locs 0 0 (xMQ below G M sz (fun v M' => v = some (.int (zI (stP nu sg (sg 30) (nu 29 0) w q))) ∧ M' = M) (fun _ _ => False) s 0 0) (F0 m 71 ls [.int (zI (0 < nu 13 w ∧ q + nu 13 w ≤ nu 29 0 ∧ ∀ j, j < (k + 1) → sg 30 (q + j) = sg 14 (8 * w + j)))]) := by
              intro H locs ls hw hl
              refine lv_istore (lv' := [(4, .int (zI (0 < nu 13 w ∧ q + nu 13 w ≤ nu 29 0 ∧ ∀ j, j < (k + 1) → sg 30 (q + j) = sg 14 (8 * w + j)))), (0, .ref md), (1, .int (nI w)), (2, .int (nI q)), (3, .int (nI (nu 13 w))), (5, .int (nI k))]) hx hb d_M_stands_71 hl (by decide) rfl (fun ls hl => ?_)
              refine lv_iinc (v := nI (k + 1)) (lv' := [(5, .int (nI (k + 1))), (4, .int (zI (0 < nu 13 w ∧ q + nu 13 w ≤ nu 29 0 ∧ ∀ j, j < (k + 1) → sg 30 (q + j) = sg 14 (8 * w + j)))), (0, .ref md), (1, .int (nI w)), (2, .int (nI q)), (3, .int (nI (nu 13 w)))]) hx hb d_M_stands_73 hl (k := 5) rfl (by exact nI_1 _) (by decide) rfl (fun ls hl => ?_)
              refine lv_goto (tgt := 31) hx hb d_M_stands_76 (by decide) ?_
              exact ih31 (k + 1)  (by omega) (by omega)  _ _ _ hw (lv_sub hl [2, 3, 4, 5, 1, 0] rfl)
            refine lv_aload_n hx hb d_M_stands_42 rfl (lv_at hl 0 rfl) ?_
            refine x_get hC hw hR.1 rfl 30 (by decide) (hts _ k_764) (fun _ h9 => h9) rfl d_M_stands_43 ?_
            refine lv_iload_n hx hb d_M_stands_46 rfl (lv_at hl 2 rfl) ?_
            refine lv_iload hx hb d_M_stands_47 (lv_at hl 5 rfl) ?_
            refine lv_iadd hx hb d_M_stands_49 ?_
            refine x_vi (y := nI (q + k)) (nI_add _ _) ?_
            refine m_ldI hC hw hR 30 (q + k) rfl (rfl) (by show _ < 60; omega) (by decide) d_M_stands_50 ?_
            refine lv_aload_n hx hb d_M_stands_51 rfl (lv_at hl 0 rfl) ?_
            refine x_get hC hw hR.1 rfl 14 (by decide) (hts _ k_748) (fun _ h9 => h9) rfl d_M_stands_52 ?_
            refine lv_bipush (v := nI 8) hx hb d_M_stands_55 (by decide) ?_
            refine lv_iload_n hx hb d_M_stands_57 rfl (lv_at hl 1 rfl) ?_
            refine lv_imul hx hb d_M_stands_58 ?_
            refine x_vi (y := nI (8 * w)) (pk_mul _ _) ?_
            refine lv_iload hx hb d_M_stands_59 (lv_at hl 5 rfl) ?_
            refine lv_iadd hx hb d_M_stands_61 ?_
            refine x_vi (y := nI ((8 * w) + k)) (nI_add _ _) ?_
            refine m_ldI hC hw hR 14 ((8 * w) + k) rfl (rfl) (by show _ < 32; omega) (by decide) d_M_stands_62 ?_
            refine lv_icmp_ne (tgt := 70) hx hb d_M_stands_63 (by decide) (fun c_63 => ?_) (fun c_63 => ?_)
            · refine lv_iconst (v := nI 0) hx hb d_M_stands_70 (by decide) ?_
              refine x_vi (y := zI (0 < nu 13 w ∧ q + nu 13 w ≤ nu 29 0 ∧ ∀ j, j < (k + 1) → sg 30 (q + j) = sg 14 (8 * w + j))) ((zI_f (fun h => c_63 (h.2.2 k (by omega)))).symm) ?_
              exact J71 _ _ _ hw (lv_sub hl [0, 1, 2, 3, 4, 5] rfl)
            · refine lv_iconst (v := nI 1) hx hb d_M_stands_66 (by decide) ?_
              refine lv_goto (tgt := 71) hx hb d_M_stands_67 (by decide) ?_
              refine x_vi (y := zI (0 < nu 13 w ∧ q + nu 13 w ≤ nu 29 0 ∧ ∀ j, j < (k + 1) → sg 30 (q + j) = sg 14 (8 * w + j))) ((zI_t ⟨c_33.1, c_33.2.1, x_all1 c_33.2.2 c_63⟩).symm) ?_
              exact J71 _ _ _ hw (lv_sub hl [0, 1, 2, 3, 4, 5] rfl)
    exact HL31 (nu 13 w + 1) (0)  (by omega) (by omega)  _ _ _ hw (lv_sub hl [3, 4, 5, 2, 1, 0] rfl)
  refine lv_iload_n hx hb d_M_stands_7 rfl (lv_at hl 0 rfl) ?_
  refine lv_if_le (tgt := 25) hx hb d_M_stands_8 (by decide) (fun c_8 => ?_) (fun c_8 => ?_)
  · have c_8 := (x_le0 (by omega)).mp c_8
    refine lv_iconst (v := nI 0) hx hb d_M_stands_25 (by decide) ?_
    refine x_vi (y := zI (0 < nu 13 w ∧ q + nu 13 w ≤ nu 29 0 ∧ ∀ j, j < 0 → sg 30 (q + j) = sg 14 (8 * w + j))) ((zI_f (fun h => by omega)).symm) ?_
    exact J26 _ _ _ hw (lv_sub hl [0, 1, 2, 3] rfl)
  · have c_8 := (not_congr (x_le0 (by omega))).mp c_8
    refine lv_iload_n hx hb d_M_stands_11 rfl (lv_at hl 3 rfl) ?_
    refine lv_iload_n hx hb d_M_stands_12 rfl (lv_at hl 0 rfl) ?_
    refine lv_iadd hx hb d_M_stands_13 ?_
    refine x_vi (y := nI (q + (nu 13 w))) (nI_add _ _) ?_
    refine lv_aload_n hx hb d_M_stands_14 rfl (lv_at hl 1 rfl) ?_
    refine x_get hC hw hR.1 rfl 29 (by decide) (hts _ k_763) (fun _ h9 => h9) rfl d_M_stands_15 ?_
    refine lv_icmp_gt (tgt := 25) hx hb d_M_stands_18 (by decide) (fun c_18 => ?_) (fun c_18 => ?_)
    · have c_18 := (nI_ltI (by omega) (by omega)).mp c_18
      refine lv_iconst (v := nI 0) hx hb d_M_stands_25 (by decide) ?_
      refine x_vi (y := zI (0 < nu 13 w ∧ q + nu 13 w ≤ nu 29 0 ∧ ∀ j, j < 0 → sg 30 (q + j) = sg 14 (8 * w + j))) ((zI_f (fun h => by omega)).symm) ?_
      exact J26 _ _ _ hw (lv_sub hl [0, 1, 2, 3] rfl)
    · have c_18 := Nat.not_lt.mp ((not_congr (nI_ltI (by omega) (by omega))).mp c_18)
      refine lv_iconst (v := nI 1) hx hb d_M_stands_21 (by decide) ?_
      refine lv_goto (tgt := 26) hx hb d_M_stands_22 (by decide) ?_
      refine x_vi (y := zI (0 < nu 13 w ∧ q + nu 13 w ≤ nu 29 0 ∧ ∀ j, j < 0 → sg 30 (q + j) = sg 14 (8 * w + j))) ((zI_t ⟨by omega, by omega, fun j hj => absurd hj (Nat.not_lt_zero j)⟩).symm) ?_
      exact J26 _ _ _ hw (lv_sub hl [0, 1, 2, 3] rfl)
