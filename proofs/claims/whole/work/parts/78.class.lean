theorem own_add {G : xT} {M : xMem} {fz : Nat} {ad : Nat → Nat → Nat} {nu : Nat → Nat → Nat} {sg : Nat → Nat → Int32} {k0 el : Nat} (h : cRep G M fz ad nu sg) (hk : k0 < 6) (hel : el = ad 1 k0 ∨ M el = none) : ∀ a ∈ [ad 0 k0, el], own ad nu a ∨ M a = none := by
  intro a ha
  rcases List.mem_cons.mp ha with rfl | ha
  · exact Or.inl ⟨0, k0, hk, rfl⟩
  · rw [List.mem_singleton.mp ha]
    rcases hel with z | z
    · exact Or.inl ⟨1, k0, hk, z⟩
    · exact Or.inr z
theorem eqx0 {α : Type} {f : Nat → α} : eqx [] f f := fun _ _ => rfl
set_option maxHeartbeats 400000 in
set_option maxRecDepth 100000 in
/-- form -/
theorem c_R_form (l : Launch) (hfl : l.flags = flags0) (G : xT) (M : xMem) (sz : Nat) (fz : Nat) (ad : Nat → Nat → Nat) (nu : Nat → Nat → Nat) (sg : Nat → Nat → Int32) (hR : cRep G M fz ad nu sg) (h20 : nu 6 0 ≤ 20) (hf0 : ∀ f, nu 6 0 ≤ f → nu 1 (4 + f) = 0) (hfm : ∀ u, u < nu 7 0 → nu 9 u < nu 6 0) : xMet l G y_R_form (Cond.code y_R_form b_R_form 1 (Option.some Jvm.ClassFile.FieldType.int) :: x_tbl) { frames := 7, cells := 4, slots := 191, locals := 172 } [.ref (ad 14 0)] M sz (fun u M' => u = some (.int (nI (nu 6 0))) ∧ formK nu = 0 ∧ ∃ (ad' : Nat → Nat → Nat) (nu' : Nat → Nat → Nat) (sg' : Nat → Nat → Int32), cRep G M' fz ad' nu' sg' ∧ eqx [6] nu nu' ∧ eqx [] sg sg' ∧ (nu' 6 0 = nu 6 0 + 1) ∧ cFr M M' ad nu ∧ (∀ a, own ad' nu' a → own ad nu a ∨ M a = none) ∧ ad' 14 0 = ad 14 0) (fun X M' => M' = M ∧ (formK nu = 1 ∧ X = "java/lang/UnsupportedOperationException")) := by
  refine xMet.of (by decide) (Nat.le_of_ble_eq_true rfl) ?_
  intro p e s m below meth c ls hC hr hnm hno hsz hw hl
  obtain ⟨hx, hb, hown, hts, hK, hml, hlk, hz⟩ := id hC
  have hl : lv_has ls 1 [(0, .ref (ad 14 0))] := hl
  have hF : xfr M M [] := xfr.rf
  have hV := hF
  have hSL := vlP.nil (ad := ad) (nu := nu)
  refine lv_aload_n hx hb d_R_form_0 rfl (lv_at hl 0 rfl) ?_
  have hc1 := hR.rc
  have hc1 := hV.get hc1 (hR.ninS hSL (show 0 < 1 by omega) (by decide))
  refine x_get hC hw hc1 rfl 1 (by decide) (hts _ k_177) (fun _ h9 => h9) rfl d_R_form_1 ?_
  obtain ⟨mc2, hc2⟩ := hR.la (k := 1) (by decide)
  have hc2 := hV.get hc2 (hR.ninS hSL (show 1 < 6 by omega) (by decide))
  refine x_callG hC (c_sizeV l G M (Array.size s.heap) fz ad nu sg M hR _ hV hSL 1 (by decide)) k_212 k_4 ⟨Nat.le_of_ble_eq_true rfl, Nat.le_of_ble_eq_true rfl⟩ ⟨Nat.le_of_ble_eq_true rfl, Nat.le_of_ble_eq_true rfl⟩ hw hl.1 (Nat.le_of_ble_eq_true rfl) d_R_form_4 (x_ivV hC k_212 k_209 k_210 k_211 (show _ ∧ _ ∧ _ = some 0 from by decide +kernel) (x_recv hC hw hc2 rfl) rfl d_R_form_4) (fun rv M3 H locs hq hw => ?_) (fun _ _ _ _ _ h _ _ => h.elim)
  obtain ⟨rfl, hM⟩ := hq
  subst M3
  refine W.eq (g2 := F0 m 7 ls [.int (nI (nu 6 0))]) rfl ?_
  refine lv_bipush (v := nI 20) hx hb d_R_form_7 (by decide) ?_
  refine x_callG hC (c_R_checkRoom l hfl G M (Array.size H) (nu 6 0) 20 (by omega) (by decide)) k_391 k_1 ⟨Nat.le_of_ble_eq_true rfl, Nat.le_of_ble_eq_true rfl⟩ ⟨Nat.le_of_ble_eq_true rfl, Nat.le_of_ble_eq_true rfl⟩ hw hl.1 (Nat.le_of_ble_eq_true rfl) d_R_form_9 (x_ivS hC k_391 k_389 k_390 k_1 (show _ ∧ _ ∧ _ = some 2 from by decide +kernel) rfl d_R_form_9) (fun rv M4 H locs hq hw => ?_) (fun x X M9 H locs hth hxT hw => x_out hC hno hw hxT (by obtain ⟨rfl, hno9, rfl⟩ := hth; exact ⟨rfl, ⟨by unfold formK; rw [kt_t (by omega)], rfl⟩⟩) (Nat.le_of_ble_eq_true rfl) (Nat.le_of_ble_eq_true rfl))
  obtain ⟨rfl, hroom, hM⟩ := hq
  subst M4
  refine W.eq (g2 := F0 m 12 ls []) rfl ?_
  refine lv_aload_n hx hb d_R_form_12 rfl (lv_at hl 0 rfl) ?_
  refine x_get hC hw hc1 rfl 1 (by decide) (hts _ k_177) (fun _ h9 => h9) rfl d_R_form_13 ?_
  refine x_new (fs := [.int (nI 0), .null, .int (nI 0)]) hC hw rfl (hts _ k_101) (hts _ k_102) (hts _ k_8) nf_1 (Nat.le_of_ble_eq_true rfl) (Nat.le_of_ble_eq_true rfl) d_R_form_16 (fun qn M5 H hn em fr hw => ?_)
  have ne_hc1_qn : ad 14 0 ≠ qn := x_neN hc1 hn
  have hc1 := (fr _ ne_hc1_qn).trans hc1
  have ne_hc2_qn : ad 0 1 ≠ qn := x_neN hc2 hn
  have hc2 := (fr _ ne_hc2_qn).trans hc2
  have h_qn := em
  have hn_qn := hF.none hn
  have hF := hF.put em fr (Or.inr hn)
  have hV := hF
  refine lv_dup hx hb d_R_form_19 rfl ?_
  refine lv_aload_n hx hb d_R_form_20 rfl (lv_at hl 0 rfl) ?_
  refine x_get hC hw hc1 rfl 1 (by decide) (hts _ k_177) (fun _ h9 => h9) rfl d_R_form_21 ?_
  refine x_callG hC (c_sizeV l G M5 (Array.size H) fz ad nu sg M hR _ hV hSL 1 (by decide)) k_212 k_4 ⟨Nat.le_of_ble_eq_true rfl, Nat.le_of_ble_eq_true rfl⟩ ⟨Nat.le_of_ble_eq_true rfl, Nat.le_of_ble_eq_true rfl⟩ hw hl.1 (Nat.le_of_ble_eq_true rfl) d_R_form_24 (x_ivV hC k_212 k_209 k_210 k_211 (show _ ∧ _ ∧ _ = some 0 from by decide +kernel) (x_recv hC hw hc2 rfl) rfl d_R_form_24) (fun rv M6 H locs hq hw => ?_) (fun _ _ _ _ _ h _ _ => h.elim)
  obtain ⟨rfl, hM⟩ := hq
  subst M6
  refine W.eq (g2 := F0 m 27 ls [.int (nI (nu 6 0)), .ref qn, .ref qn, .ref (ad 0 1)]) rfl ?_
  refine x_callG hC (c_S_init l G M5 (Array.size H) qn (nI (nu 6 0)) h_qn) k_105 k_8 ⟨Nat.le_of_ble_eq_true rfl, Nat.le_of_ble_eq_true rfl⟩ ⟨Nat.le_of_ble_eq_true rfl, Nat.le_of_ble_eq_true rfl⟩ hw hl.1 (Nat.le_of_ble_eq_true rfl) d_R_form_27 (x_ivI hC k_105 k_103 k_104 rfl (show _ ∧ _ ∧ _ = some 1 from by decide +kernel) rfl d_R_form_27) (fun rv M7 H locs hq hw => ?_) (fun _ _ _ _ _ h _ _ => h.elim)
  obtain ⟨rfl, pa, hnp, h_qn, h_pa, fr⟩ := hq
  have hn_pa := hF.none hnp
  have ne_pa : ad 14 0 ≠ pa := x_neN (hF.get hR.rc (by simp)) hnp
  have hF := hF.trans fr (by intro z hz; rw [List.mem_singleton.mp hz]; exact Or.inr hn_qn)
  have hV := hF
  have hc1 := fr.get hc1 (by simp [ne_hc1_qn])
  have hc2 := fr.get hc2 (by simp [ne_hc2_qn])
  refine W.eq (g2 := F0 m 30 ls [.ref qn, .ref (ad 0 1)]) rfl ?_
  refine x_callG hC (c_add l G M7 (Array.size H) fz ad nu sg M hR hF 1 (by decide) (show nu 6 0 < 22 by omega) _ _ _ rfl k_985 qn _ h_qn) k_119 k_4 ⟨Nat.le_of_ble_eq_true rfl, Nat.le_of_ble_eq_true rfl⟩ ⟨Nat.le_of_ble_eq_true rfl, Nat.le_of_ble_eq_true rfl⟩ hw hl.1 (Nat.le_of_ble_eq_true rfl) d_R_form_30 (x_ivV hC k_119 k_116 k_117 k_118 (show _ ∧ _ ∧ _ = some 1 from by decide +kernel) (x_recv hC hw hc2 rfl) rfl d_R_form_30) (fun rv M8 H locs hq hw => ?_) (fun _ _ _ _ _ h _ _ => h.elim)
  obtain ⟨rfl, el', cap', f', mc', a1, a2, a3, a4, a5, a6, a7, a8, fr, a9, a10, a11⟩ := hq
  have h_rc := (a9 14 0 Nat.zero_lt_one (by decide) (by decide)).trans hR.rc
  have h_qn := a10 _ _ h_qn hn_qn
  have h_pa := a10 _ _ h_pa hn_pa
  refine W.eq (g2 := F0 m 33 ls [.int (nI 1)]) rfl ?_
  refine lv_pop hx hb d_R_form_33 rfl ?_
  refine lv_aload_n hx hb d_R_form_34 rfl (lv_at hl 0 rfl) ?_
  refine x_get hC hw h_rc rfl 1 (by decide) (hts _ k_177) (fun _ h9 => h9) rfl d_R_form_35 ?_
  refine x_callG hC (c_AL_size l G M8 (Array.size H) (ad 0 1) el' (nu 6 0 + 1) mc' a1) k_212 k_4 ⟨Nat.le_of_ble_eq_true rfl, Nat.le_of_ble_eq_true rfl⟩ ⟨Nat.le_of_ble_eq_true rfl, Nat.le_of_ble_eq_true rfl⟩ hw hl.1 (Nat.le_of_ble_eq_true rfl) d_R_form_38 (x_ivV hC k_212 k_209 k_210 k_211 (show _ ∧ _ ∧ _ = some 0 from by decide +kernel) (x_recv hC hw a1 rfl) rfl d_R_form_38) (fun rv M9 H locs hq hw => ?_) (fun _ _ _ _ _ h _ _ => h.elim)
  obtain ⟨rfl, hM⟩ := hq
  subst M9
  refine W.eq (g2 := F0 m 41 ls [.int (nI (nu 6 0 + 1))]) rfl ?_
  refine lv_iconst (v := nI 1) hx hb d_R_form_41 (by decide) ?_
  refine lv_isub hx hb d_R_form_42 ?_
  refine x_vi (y := nI ((nu 6 0 + 1) - 1)) (x_sub (by omega)) ?_
  obtain ⟨q1, q2⟩ := form_ok hR (x_fz0 hC hw hR.2.1.1) hfm a11 hn_qn hn_pa a7 a8 a1 a2 a3 a4 a5 a6 ((eqx.up nu 6 (fun _ => nu 6 0 + 1)).wide (by decide)) eqx0 (by rw [va_up_self]) (hf0 _ (Nat.le_refl _)) h_qn h_pa
  exact x_iret hC hr hw (⟨congrArg (fun z => some (Value.int z)) (congrArg nI (Nat.add_sub_cancel _ _)), by unfold formK; rw [kt_f (by omega)], _, _, _, q1, eqx.up nu 6 (fun _ => nu 6 0 + 1), eqx0, by rw [va_up_self], cFr.of a11 (own_add hR (by decide) a7), q2, adN_o (by omega) (by omega) (by omega)⟩) (Nat.le_of_ble_eq_true rfl) (Nat.le_of_ble_eq_true rfl) d_R_form_43

set_option maxHeartbeats 400000 in
set_option maxRecDepth 100000 in
/-- word -/
theorem c_R_word (l : Launch) (hfl : l.flags = flags0) (G : xT) (M : xMem) (sz : Nat) (fz : Nat) (ad : Nat → Nat → Nat) (nu : Nat → Nat → Nat) (sg : Nat → Nat → Int32) (hR : cRep G M fz ad nu sg) (h4 : nu 12 0 ≤ 4) (hw0 : ∀ w, nu 12 0 ≤ w → nu 13 w = 0) (hfm : ∀ u, u < nu 7 0 → nu 9 u < nu 6 0) : xMet l G y_R_word (Cond.code y_R_word b_R_word 1 (Option.some Jvm.ClassFile.FieldType.int) :: x_tbl) { frames := 7, cells := 4, slots := 38, locals := 172 } [.ref (ad 14 0)] M sz (fun u M' => u = some (.int (nI (nu 12 0))) ∧ wordK nu = 0 ∧ ∃ (ad' : Nat → Nat → Nat) (nu' : Nat → Nat → Nat) (sg' : Nat → Nat → Int32), cRep G M' fz ad' nu' sg' ∧ eqx [12] nu nu' ∧ eqx [] sg sg' ∧ (nu' 12 0 = nu 12 0 + 1) ∧ cFr M M' ad nu ∧ (∀ a, own ad' nu' a → own ad nu a ∨ M a = none) ∧ ad' 14 0 = ad 14 0) (fun X M' => M' = M ∧ (wordK nu = 1 ∧ X = "java/lang/UnsupportedOperationException")) := by
  refine xMet.of (by decide) (Nat.le_of_ble_eq_true rfl) ?_
  intro p e s m below meth c ls hC hr hnm hno hsz hw hl
  obtain ⟨hx, hb, hown, hts, hK, hml, hlk, hz⟩ := id hC
  have hl : lv_has ls 1 [(0, .ref (ad 14 0))] := hl
  have hF : xfr M M [] := xfr.rf
  have hV := hF
  have hSL := vlP.nil (ad := ad) (nu := nu)
  refine lv_aload_n hx hb d_R_word_0 rfl (lv_at hl 0 rfl) ?_
  have hc1 := hR.rc
  have hc1 := hV.get hc1 (hR.ninS hSL (show 0 < 1 by omega) (by decide))
  refine x_get hC hw hc1 rfl 3 (by decide) (hts _ k_179) (fun _ h9 => h9) rfl d_R_word_1 ?_
  obtain ⟨mc2, hc2⟩ := hR.la (k := 3) (by decide)
  have hc2 := hV.get hc2 (hR.ninS hSL (show 3 < 6 by omega) (by decide))
  refine x_callG hC (c_sizeV l G M (Array.size s.heap) fz ad nu sg M hR _ hV hSL 3 (by decide)) k_212 k_4 ⟨Nat.le_of_ble_eq_true rfl, Nat.le_of_ble_eq_true rfl⟩ ⟨Nat.le_of_ble_eq_true rfl, Nat.le_of_ble_eq_true rfl⟩ hw hl.1 (Nat.le_of_ble_eq_true rfl) d_R_word_4 (x_ivV hC k_212 k_209 k_210 k_211 (show _ ∧ _ ∧ _ = some 0 from by decide +kernel) (x_recv hC hw hc2 rfl) rfl d_R_word_4) (fun rv M3 H locs hq hw => ?_) (fun _ _ _ _ _ h _ _ => h.elim)
  obtain ⟨rfl, hM⟩ := hq
  subst M3
  refine W.eq (g2 := F0 m 7 ls [.int (nI (nu 12 0))]) rfl ?_
  refine lv_iconst (v := nI 4) hx hb d_R_word_7 (by decide) ?_
  refine x_callG hC (c_R_checkRoom l hfl G M (Array.size H) (nu 12 0) 4 (by omega) (by decide)) k_391 k_1 ⟨Nat.le_of_ble_eq_true rfl, Nat.le_of_ble_eq_true rfl⟩ ⟨Nat.le_of_ble_eq_true rfl, Nat.le_of_ble_eq_true rfl⟩ hw hl.1 (Nat.le_of_ble_eq_true rfl) d_R_word_8 (x_ivS hC k_391 k_389 k_390 k_1 (show _ ∧ _ ∧ _ = some 2 from by decide +kernel) rfl d_R_word_8) (fun rv M4 H locs hq hw => ?_) (fun x X M9 H locs hth hxT hw => x_out hC hno hw hxT (by obtain ⟨rfl, hno9, rfl⟩ := hth; exact ⟨rfl, ⟨by unfold wordK; rw [kt_t (by omega)], rfl⟩⟩) (Nat.le_of_ble_eq_true rfl) (Nat.le_of_ble_eq_true rfl))
  obtain ⟨rfl, hroom, hM⟩ := hq
  subst M4
  refine W.eq (g2 := F0 m 11 ls []) rfl ?_
  refine lv_aload_n hx hb d_R_word_11 rfl (lv_at hl 0 rfl) ?_
  refine x_get hC hw hc1 rfl 3 (by decide) (hts _ k_179) (fun _ h9 => h9) rfl d_R_word_12 ?_
  refine x_new (fs := [.int (nI 0), .null]) hC hw rfl (hts _ k_243) (hts _ k_476) (hts _ k_23) nf_3 (Nat.le_of_ble_eq_true rfl) (Nat.le_of_ble_eq_true rfl) d_R_word_15 (fun qn M5 H hn em fr hw => ?_)
  have ne_hc1_qn : ad 14 0 ≠ qn := x_neN hc1 hn
  have hc1 := (fr _ ne_hc1_qn).trans hc1
  have ne_hc2_qn : ad 0 3 ≠ qn := x_neN hc2 hn
  have hc2 := (fr _ ne_hc2_qn).trans hc2
  have h_qn := em
  have hn_qn := hF.none hn
  have hF := hF.put em fr (Or.inr hn)
  have hV := hF
  refine lv_dup hx hb d_R_word_18 rfl ?_
  refine x_callG hC (c_D_init l G M5 (Array.size H) qn h_qn) k_479 k_23 ⟨Nat.le_of_ble_eq_true rfl, Nat.le_of_ble_eq_true rfl⟩ ⟨Nat.le_of_ble_eq_true rfl, Nat.le_of_ble_eq_true rfl⟩ hw hl.1 (Nat.le_of_ble_eq_true rfl) d_R_word_19 (x_ivN hC k_479 k_477 k_478 rfl (show _ ∧ _ ∧ _ = some 0 from by decide +kernel) rfl d_R_word_19) (fun rv M6 H locs hq hw => ?_) (fun _ _ _ _ _ h _ _ => h.elim)
  obtain ⟨rfl, pa, hnp, h_qn, h_pa, fr⟩ := hq
  have hn_pa := hF.none hnp
  have ne_pa : ad 14 0 ≠ pa := x_neN (hF.get hR.rc (by simp)) hnp
  have hF := hF.trans fr (by intro z hz; rw [List.mem_singleton.mp hz]; exact Or.inr hn_qn)
  have hV := hF
  have hc1 := fr.get hc1 (by simp [ne_hc1_qn])
  have hc2 := fr.get hc2 (by simp [ne_hc2_qn])
  refine W.eq (g2 := F0 m 22 ls [.ref qn, .ref (ad 0 3)]) rfl ?_
  refine x_callG hC (c_add l G M6 (Array.size H) fz ad nu sg M hR hF 3 (by decide) (show nu 12 0 < 22 by omega) _ _ _ rfl k_988 qn _ h_qn) k_119 k_4 ⟨Nat.le_of_ble_eq_true rfl, Nat.le_of_ble_eq_true rfl⟩ ⟨Nat.le_of_ble_eq_true rfl, Nat.le_of_ble_eq_true rfl⟩ hw hl.1 (Nat.le_of_ble_eq_true rfl) d_R_word_22 (x_ivV hC k_119 k_116 k_117 k_118 (show _ ∧ _ ∧ _ = some 1 from by decide +kernel) (x_recv hC hw hc2 rfl) rfl d_R_word_22) (fun rv M7 H locs hq hw => ?_) (fun _ _ _ _ _ h _ _ => h.elim)
  obtain ⟨rfl, el', cap', f', mc', a1, a2, a3, a4, a5, a6, a7, a8, fr, a9, a10, a11⟩ := hq
  have h_rc := (a9 14 0 Nat.zero_lt_one (by decide) (by decide)).trans hR.rc
  have h_qn := a10 _ _ h_qn hn_qn
  have h_pa := a10 _ _ h_pa hn_pa
  refine W.eq (g2 := F0 m 25 ls [.int (nI 1)]) rfl ?_
  refine lv_pop hx hb d_R_word_25 rfl ?_
  refine lv_aload_n hx hb d_R_word_26 rfl (lv_at hl 0 rfl) ?_
  refine x_get hC hw h_rc rfl 3 (by decide) (hts _ k_179) (fun _ h9 => h9) rfl d_R_word_27 ?_
  refine x_callG hC (c_AL_size l G M7 (Array.size H) (ad 0 3) el' (nu 12 0 + 1) mc' a1) k_212 k_4 ⟨Nat.le_of_ble_eq_true rfl, Nat.le_of_ble_eq_true rfl⟩ ⟨Nat.le_of_ble_eq_true rfl, Nat.le_of_ble_eq_true rfl⟩ hw hl.1 (Nat.le_of_ble_eq_true rfl) d_R_word_30 (x_ivV hC k_212 k_209 k_210 k_211 (show _ ∧ _ ∧ _ = some 0 from by decide +kernel) (x_recv hC hw a1 rfl) rfl d_R_word_30) (fun rv M8 H locs hq hw => ?_) (fun _ _ _ _ _ h _ _ => h.elim)
  obtain ⟨rfl, hM⟩ := hq
  subst M8
  refine W.eq (g2 := F0 m 33 ls [.int (nI (nu 12 0 + 1))]) rfl ?_
  refine lv_iconst (v := nI 1) hx hb d_R_word_33 (by decide) ?_
  refine lv_isub hx hb d_R_word_34 ?_
  refine x_vi (y := nI ((nu 12 0 + 1) - 1)) (x_sub (by omega)) ?_
  obtain ⟨q1, q2⟩ := word_ok hR (x_fz0 hC hw hR.2.1.1) hfm a11 hn_qn hn_pa a7 a8 a1 a2 a3 a4 a5 a6 ((eqx.up nu 12 (fun _ => nu 12 0 + 1)).wide (by decide)) eqx0 (by rw [va_up_self]) (hw0 _ (Nat.le_refl _)) h_qn h_pa
  exact x_iret hC hr hw (⟨congrArg (fun z => some (Value.int z)) (congrArg nI (Nat.add_sub_cancel _ _)), by unfold wordK; rw [kt_f (by omega)], _, _, _, q1, eqx.up nu 12 (fun _ => nu 12 0 + 1), eqx0, by rw [va_up_self], cFr.of a11 (own_add hR (by decide) a7), q2, adN_o (by omega) (by omega) (by omega)⟩) (Nat.le_of_ble_eq_true rfl) (Nat.le_of_ble_eq_true rfl) d_R_word_35

set_option maxHeartbeats 400000 in
set_option maxRecDepth 100000 in
/-- store -/
theorem c_R_store (l : Launch) (hfl : l.flags = flags0) (G : xT) (M : xMem) (sz : Nat) (fz : Nat) (ad : Nat → Nat → Nat) (nu : Nat → Nat → Nat) (sg : Nat → Nat → Int32) (hR : cRep G M fz ad nu sg) (en : Int32) (h8 : nu 21 0 ≤ 8) (ht0 : ∀ t, nu 21 0 ≤ t → nu 23 t = 0) (hfm : ∀ u, u < nu 7 0 → nu 9 u < nu 6 0) : xMet l G y_R_store (Cond.code y_R_store b_R_store 2 (Option.some Jvm.ClassFile.FieldType.int) :: x_tbl) { frames := 7, cells := 5, slots := 97, locals := 172 } [.ref (ad 14 0), .int en] M sz (fun u M' => u = some (.int (nI (nu 21 0))) ∧ storeK nu en = 0 ∧ ∃ (ad' : Nat → Nat → Nat) (nu' : Nat → Nat → Nat) (sg' : Nat → Nat → Int32), cRep G M' fz ad' nu' sg' ∧ eqx [21] nu nu' ∧ eqx [22] sg sg' ∧ (nu' 21 0 = nu 21 0 + 1 ∧ sg' 22 = va_up (sg 22) (nu 21 0) en) ∧ cFr M M' ad nu ∧ (∀ a, own ad' nu' a → own ad nu a ∨ M a = none) ∧ ad' 14 0 = ad 14 0) (fun X M' => M' = M ∧ (storeK nu en = 1 ∧ X = "java/lang/IllegalArgumentException" ∨ storeK nu en = 2 ∧ X = "java/lang/UnsupportedOperationException")) := by
  refine xMet.of (by decide) (Nat.le_of_ble_eq_true rfl) ?_
  intro p e s m below meth c ls hC hr hnm hno hsz hw hl
  obtain ⟨hx, hb, hown, hts, hK, hml, hlk, hz⟩ := id hC
  have hl : lv_has ls 2 [(0, .ref (ad 14 0)), (1, .int en)] := hl
  have hF : xfr M M [] := xfr.rf
  have hV := hF
  have hSL := vlP.nil (ad := ad) (nu := nu)
  refine lv_iload_n hx hb d_R_store_0 rfl (lv_at hl 1 rfl) ?_
  refine lv_iconst (v := nI 0) hx hb d_R_store_1 (by decide) ?_
  refine lv_iconst (v := nI 3) hx hb d_R_store_2 (by decide) ?_
  refine x_callG hC (c_R_checkWithin l hfl G M (Array.size s.heap) (en) (nI 0) (nI 3)) k_372 k_1 ⟨Nat.le_of_ble_eq_true rfl, Nat.le_of_ble_eq_true rfl⟩ ⟨Nat.le_of_ble_eq_true rfl, Nat.le_of_ble_eq_true rfl⟩ hw hl.1 (Nat.le_of_ble_eq_true rfl) d_R_store_3 (x_ivS hC k_372 k_370 k_371 k_1 (show _ ∧ _ ∧ _ = some 3 from by decide +kernel) rfl d_R_store_3) (fun rv M1 H locs hq hw => ?_) (fun x X M9 H locs hth hxT hw => x_out hC hno hw hxT (by obtain ⟨rfl, hno9, rfl⟩ := hth; exact ⟨rfl, Or.inl ⟨by unfold storeK; rw [kt_t (fun z => hno9 (num_3.mpr z))], rfl⟩⟩) (Nat.le_of_ble_eq_true rfl) (Nat.le_of_ble_eq_true rfl))
  obtain ⟨rfl, i1, hM⟩ := hq
  subst M1
  refine W.eq (g2 := F0 m 6 ls []) rfl ?_
  refine lv_aload_n hx hb d_R_store_6 rfl (lv_at hl 0 rfl) ?_
  have hc2 := hR.rc
  have hc2 := hV.get hc2 (hR.ninS hSL (show 0 < 1 by omega) (by decide))
  refine x_get hC hw hc2 rfl 5 (by decide) (hts _ k_181) (fun _ h9 => h9) rfl d_R_store_7 ?_
  obtain ⟨mc3, hc3⟩ := hR.la (k := 5) (by decide)
  have hc3 := hV.get hc3 (hR.ninS hSL (show 5 < 6 by omega) (by decide))
  refine x_callG hC (c_sizeV l G M (Array.size H) fz ad nu sg M hR _ hV hSL 5 (by decide)) k_212 k_4 ⟨Nat.le_of_ble_eq_true rfl, Nat.le_of_ble_eq_true rfl⟩ ⟨Nat.le_of_ble_eq_true rfl, Nat.le_of_ble_eq_true rfl⟩ hw hl.1 (Nat.le_of_ble_eq_true rfl) d_R_store_10 (x_ivV hC k_212 k_209 k_210 k_211 (show _ ∧ _ ∧ _ = some 0 from by decide +kernel) (x_recv hC hw hc3 rfl) rfl d_R_store_10) (fun rv M4 H locs hq hw => ?_) (fun _ _ _ _ _ h _ _ => h.elim)
  obtain ⟨rfl, hM⟩ := hq
  subst M4
  refine W.eq (g2 := F0 m 13 ls [.int (nI (nu 21 0))]) rfl ?_
  refine lv_bipush (v := nI 8) hx hb d_R_store_13 (by decide) ?_
  refine x_callG hC (c_R_checkRoom l hfl G M (Array.size H) (nu 21 0) 8 (by omega) (by decide)) k_391 k_1 ⟨Nat.le_of_ble_eq_true rfl, Nat.le_of_ble_eq_true rfl⟩ ⟨Nat.le_of_ble_eq_true rfl, Nat.le_of_ble_eq_true rfl⟩ hw hl.1 (Nat.le_of_ble_eq_true rfl) d_R_store_15 (x_ivS hC k_391 k_389 k_390 k_1 (show _ ∧ _ ∧ _ = some 2 from by decide +kernel) rfl d_R_store_15) (fun rv M5 H locs hq hw => ?_) (fun x X M9 H locs hth hxT hw => x_out hC hno hw hxT (by obtain ⟨rfl, hno9, rfl⟩ := hth; exact ⟨rfl, Or.inr ⟨by unfold storeK; rw [kt_f (not_not_intro (num_3.mp i1)), kt_t (by omega)], rfl⟩⟩) (Nat.le_of_ble_eq_true rfl) (Nat.le_of_ble_eq_true rfl))
  obtain ⟨rfl, hroom, hM⟩ := hq
  subst M5
  refine W.eq (g2 := F0 m 18 ls []) rfl ?_
  refine lv_aload_n hx hb d_R_store_18 rfl (lv_at hl 0 rfl) ?_
  refine x_get hC hw hc2 rfl 5 (by decide) (hts _ k_181) (fun _ h9 => h9) rfl d_R_store_19 ?_
  refine x_new (fs := [.int (nI 0), .int (nI 0), .null]) hC hw rfl (hts _ k_261) (hts _ k_269) (hts _ k_25) nf_6 (Nat.le_of_ble_eq_true rfl) (Nat.le_of_ble_eq_true rfl) d_R_store_22 (fun qn M6 H hn em fr hw => ?_)
  have ne_hc2_qn : ad 14 0 ≠ qn := x_neN hc2 hn
  have hc2 := (fr _ ne_hc2_qn).trans hc2
  have ne_hc3_qn : ad 0 5 ≠ qn := x_neN hc3 hn
  have hc3 := (fr _ ne_hc3_qn).trans hc3
  have h_qn := em
  have hn_qn := hF.none hn
  have hF := hF.put em fr (Or.inr hn)
  have hV := hF
  refine lv_dup hx hb d_R_store_25 rfl ?_
  refine lv_iload_n hx hb d_R_store_26 rfl (lv_at hl 1 rfl) ?_
  refine x_callG hC (c_T_init l G M6 (Array.size H) qn en h_qn) k_545 k_25 ⟨Nat.le_of_ble_eq_true rfl, Nat.le_of_ble_eq_true rfl⟩ ⟨Nat.le_of_ble_eq_true rfl, Nat.le_of_ble_eq_true rfl⟩ hw hl.1 (Nat.le_of_ble_eq_true rfl) d_R_store_27 (x_ivI hC k_545 k_543 k_544 rfl (show _ ∧ _ ∧ _ = some 1 from by decide +kernel) rfl d_R_store_27) (fun rv M7 H locs hq hw => ?_) (fun _ _ _ _ _ h _ _ => h.elim)
  obtain ⟨rfl, pa, hnp, h_qn, h_pa, fr⟩ := hq
  have hn_pa := hF.none hnp
  have ne_pa : ad 14 0 ≠ pa := x_neN (hF.get hR.rc (by simp)) hnp
  have hF := hF.trans fr (by intro z hz; rw [List.mem_singleton.mp hz]; exact Or.inr hn_qn)
  have hV := hF
  have hc2 := fr.get hc2 (by simp [ne_hc2_qn])
  have hc3 := fr.get hc3 (by simp [ne_hc3_qn])
  refine W.eq (g2 := F0 m 30 ls [.ref qn, .ref (ad 0 5)]) rfl ?_
  refine x_callG hC (c_add l G M7 (Array.size H) fz ad nu sg M hR hF 5 (by decide) (show nu 21 0 < 22 by omega) _ _ _ rfl k_990 qn _ h_qn) k_119 k_4 ⟨Nat.le_of_ble_eq_true rfl, Nat.le_of_ble_eq_true rfl⟩ ⟨Nat.le_of_ble_eq_true rfl, Nat.le_of_ble_eq_true rfl⟩ hw hl.1 (Nat.le_of_ble_eq_true rfl) d_R_store_30 (x_ivV hC k_119 k_116 k_117 k_118 (show _ ∧ _ ∧ _ = some 1 from by decide +kernel) (x_recv hC hw hc3 rfl) rfl d_R_store_30) (fun rv M8 H locs hq hw => ?_) (fun _ _ _ _ _ h _ _ => h.elim)
  obtain ⟨rfl, el', cap', f', mc', a1, a2, a3, a4, a5, a6, a7, a8, fr, a9, a10, a11⟩ := hq
  have h_rc := (a9 14 0 Nat.zero_lt_one (by decide) (by decide)).trans hR.rc
  have h_qn := a10 _ _ h_qn hn_qn
  have h_pa := a10 _ _ h_pa hn_pa
  refine W.eq (g2 := F0 m 33 ls [.int (nI 1)]) rfl ?_
  refine lv_pop hx hb d_R_store_33 rfl ?_
  refine lv_aload_n hx hb d_R_store_34 rfl (lv_at hl 0 rfl) ?_
  refine x_get hC hw h_rc rfl 5 (by decide) (hts _ k_181) (fun _ h9 => h9) rfl d_R_store_35 ?_
  refine x_callG hC (c_AL_size l G M8 (Array.size H) (ad 0 5) el' (nu 21 0 + 1) mc' a1) k_212 k_4 ⟨Nat.le_of_ble_eq_true rfl, Nat.le_of_ble_eq_true rfl⟩ ⟨Nat.le_of_ble_eq_true rfl, Nat.le_of_ble_eq_true rfl⟩ hw hl.1 (Nat.le_of_ble_eq_true rfl) d_R_store_38 (x_ivV hC k_212 k_209 k_210 k_211 (show _ ∧ _ ∧ _ = some 0 from by decide +kernel) (x_recv hC hw a1 rfl) rfl d_R_store_38) (fun rv M9 H locs hq hw => ?_) (fun _ _ _ _ _ h _ _ => h.elim)
  obtain ⟨rfl, hM⟩ := hq
  subst M9
  refine W.eq (g2 := F0 m 41 ls [.int (nI (nu 21 0 + 1))]) rfl ?_
  refine lv_iconst (v := nI 1) hx hb d_R_store_41 (by decide) ?_
  refine lv_isub hx hb d_R_store_42 ?_
  refine x_vi (y := nI ((nu 21 0 + 1) - 1)) (x_sub (by omega)) ?_
  obtain ⟨q1, q2⟩ := store_ok hR (x_fz0 hC hw hR.2.1.1) hfm a11 hn_qn hn_pa a7 a8 a1 a2 a3 a4 a5 a6 ((eqx.up nu 21 (fun _ => nu 21 0 + 1)).wide (by decide)) (eqx.up sg 22 (va_up (sg 22) (nu 21 0) en)) (by rw [va_up_self]) (by rw [va_up_self]) (ht0 _ (Nat.le_refl _)) h_qn h_pa
  exact x_iret hC hr hw (⟨congrArg (fun z => some (Value.int z)) (congrArg nI (Nat.add_sub_cancel _ _)), by unfold storeK; rw [kt_f (not_not_intro (num_3.mp i1)), kt_f (by omega)], _, _, _, q1, eqx.up nu 21 (fun _ => nu 21 0 + 1), eqx.up sg 22 (va_up (sg 22) (nu 21 0) en), ⟨by rw [va_up_self], by rw [va_up_self]⟩, cFr.of a11 (own_add hR (by decide) a7), q2, adN_o (by omega) (by omega) (by omega)⟩) (Nat.le_of_ble_eq_true rfl) (Nat.le_of_ble_eq_true rfl) d_R_store_43

theorem arW_S {sg : Nat → Nat → Int32} {ix : Nat} {pg x y wd hg : Int32} : eqx [16, 17, 18, 19, 20] sg (va_up (va_up (va_up (va_up (va_up (sg) 16 (va_up (sg 16) (ix) pg)) 17 (va_up (sg 17) (ix) x)) 18 (va_up (sg 18) (ix) y)) 19 (va_up (sg 19) (ix) wd)) 20 (va_up (sg 20) (ix) hg)) := by
  intro k hk
  simp only [List.mem_cons, List.not_mem_nil, or_false, not_or] at hk
  rw [va_up_ne _ _ (by omega), va_up_ne _ _ (by omega), va_up_ne _ _ (by omega), va_up_ne _ _ (by omega), va_up_ne _ _ (by omega)]
theorem arW_16 {sg : Nat → Nat → Int32} {ix : Nat} {pg x y wd hg : Int32} : (va_up (va_up (va_up (va_up (va_up (sg) 16 (va_up (sg 16) (ix) pg)) 17 (va_up (sg 17) (ix) x)) 18 (va_up (sg 18) (ix) y)) 19 (va_up (sg 19) (ix) wd)) 20 (va_up (sg 20) (ix) hg)) 16 = va_up (sg 16) ix pg := by rw [va_up_ne _ _ (by decide), va_up_ne _ _ (by decide), va_up_ne _ _ (by decide), va_up_ne _ _ (by decide), va_up_self]
theorem arW_17 {sg : Nat → Nat → Int32} {ix : Nat} {pg x y wd hg : Int32} : (va_up (va_up (va_up (va_up (va_up (sg) 16 (va_up (sg 16) (ix) pg)) 17 (va_up (sg 17) (ix) x)) 18 (va_up (sg 18) (ix) y)) 19 (va_up (sg 19) (ix) wd)) 20 (va_up (sg 20) (ix) hg)) 17 = va_up (sg 17) ix x := by rw [va_up_ne _ _ (by decide), va_up_ne _ _ (by decide), va_up_ne _ _ (by decide), va_up_self]
theorem arW_18 {sg : Nat → Nat → Int32} {ix : Nat} {pg x y wd hg : Int32} : (va_up (va_up (va_up (va_up (va_up (sg) 16 (va_up (sg 16) (ix) pg)) 17 (va_up (sg 17) (ix) x)) 18 (va_up (sg 18) (ix) y)) 19 (va_up (sg 19) (ix) wd)) 20 (va_up (sg 20) (ix) hg)) 18 = va_up (sg 18) ix y := by rw [va_up_ne _ _ (by decide), va_up_ne _ _ (by decide), va_up_self]
theorem arW_19 {sg : Nat → Nat → Int32} {ix : Nat} {pg x y wd hg : Int32} : (va_up (va_up (va_up (va_up (va_up (sg) 16 (va_up (sg 16) (ix) pg)) 17 (va_up (sg 17) (ix) x)) 18 (va_up (sg 18) (ix) y)) 19 (va_up (sg 19) (ix) wd)) 20 (va_up (sg 20) (ix) hg)) 19 = va_up (sg 19) ix wd := by rw [va_up_ne _ _ (by decide), va_up_self]
theorem arW_20 {sg : Nat → Nat → Int32} {ix : Nat} {pg x y wd hg : Int32} : (va_up (va_up (va_up (va_up (va_up (sg) 16 (va_up (sg 16) (ix) pg)) 17 (va_up (sg 17) (ix) x)) 18 (va_up (sg 18) (ix) y)) 19 (va_up (sg 19) (ix) wd)) 20 (va_up (sg 20) (ix) hg)) 20 = va_up (sg 20) ix hg := by rw [va_up_self]
set_option maxHeartbeats 400000 in
set_option maxRecDepth 100000 in
/-- area -/
theorem c_R_area (l : Launch) (hfl : l.flags = flags0) (G : xT) (M : xMem) (sz : Nat) (fz : Nat) (ad : Nat → Nat → Nat) (nu : Nat → Nat → Nat) (sg : Nat → Nat → Int32) (hR : cRep G M fz ad nu sg) (pg x y wd hg : Int32) (h8 : nu 15 0 ≤ 8) (hfm : ∀ u, u < nu 7 0 → nu 9 u < nu 6 0) : xMet l G y_R_area (Cond.code y_R_area b_R_area 6 (Option.some Jvm.ClassFile.FieldType.int) :: x_tbl) { frames := 7, cells := 8, slots := 63, locals := 172 } [.ref (ad 14 0), .int pg, .int x, .int y, .int wd, .int hg] M sz (fun u M' => u = some (.int (nI (nu 15 0 + 1))) ∧ areaK nu pg x y wd hg = 0 ∧ ∃ (ad' : Nat → Nat → Nat) (nu' : Nat → Nat → Nat) (sg' : Nat → Nat → Int32), cRep G M' fz ad' nu' sg' ∧ eqx [15] nu nu' ∧ eqx [16, 17, 18, 19, 20] sg sg' ∧ (nu' 15 0 = nu 15 0 + 1 ∧ sg' 16 = va_up (sg 16) (nu 15 0) pg ∧ sg' 17 = va_up (sg 17) (nu 15 0) x ∧ sg' 18 = va_up (sg 18) (nu 15 0) y ∧ sg' 19 = va_up (sg 19) (nu 15 0) wd ∧ sg' 20 = va_up (sg 20) (nu 15 0) hg) ∧ cFr M M' ad nu ∧ (∀ a, own ad' nu' a → own ad nu a ∨ M a = none) ∧ ad' 14 0 = ad 14 0) (fun X M' => M' = M ∧ (areaK nu pg x y wd hg = 1 ∧ X = "java/lang/IndexOutOfBoundsException" ∨ areaK nu pg x y wd hg = 2 ∧ X = "java/lang/IllegalArgumentException" ∨ areaK nu pg x y wd hg = 3 ∧ X = "java/lang/UnsupportedOperationException")) := by
  refine xMet.of (by decide) (Nat.le_of_ble_eq_true rfl) ?_
  intro p e s m below meth c ls hC hr hnm hno hsz hw hl
  obtain ⟨hx, hb, hown, hts, hK, hml, hlk, hz⟩ := id hC
  have hl : lv_has ls 6 [(0, .ref (ad 14 0)), (1, .int pg), (2, .int x), (3, .int y), (4, .int wd), (5, .int hg)] := hl
  have hF : xfr M M [] := xfr.rf
  have hV := hF
  have hSL := vlP.nil (ad := ad) (nu := nu)
  refine lv_iload_n hx hb d_R_area_0 rfl (lv_at hl 1 rfl) ?_
  refine lv_iconst (v := nI 4) hx hb d_R_area_1 (by decide) ?_
  refine x_callG hC (c_R_checkNumber l hfl G M (Array.size s.heap) (pg) (4) (by omega)) k_439 k_1 ⟨Nat.le_of_ble_eq_true rfl, Nat.le_of_ble_eq_true rfl⟩ ⟨Nat.le_of_ble_eq_true rfl, Nat.le_of_ble_eq_true rfl⟩ hw hl.1 (Nat.le_of_ble_eq_true rfl) d_R_area_2 (x_ivS hC k_439 k_437 k_438 k_1 (show _ ∧ _ ∧ _ = some 2 from by decide +kernel) rfl d_R_area_2) (fun rv M1 H locs hq hw => ?_) (fun x X M9 H locs hth hxT hw => x_out hC hno hw hxT (by obtain ⟨rfl, hno9, rfl⟩ := hth; exact ⟨rfl, Or.inl ⟨by unfold areaK; rw [kt_t hno9], rfl⟩⟩) (Nat.le_of_ble_eq_true rfl) (Nat.le_of_ble_eq_true rfl))
  obtain ⟨rfl, hn1, hM⟩ := hq
  subst M1
  refine W.eq (g2 := F0 m 5 ls []) rfl ?_
  refine lv_iload_n hx hb d_R_area_5 rfl (lv_at hl 2 rfl) ?_
  refine lv_sipush (v := (-999)) hx hb d_R_area_6 (by decide) ?_
  refine lv_sipush (v := nI 999) hx hb d_R_area_9 (by decide) ?_
  refine x_callG hC (c_R_checkWithin l hfl G M (Array.size H) (x) ((-999)) (nI 999)) k_372 k_1 ⟨Nat.le_of_ble_eq_true rfl, Nat.le_of_ble_eq_true rfl⟩ ⟨Nat.le_of_ble_eq_true rfl, Nat.le_of_ble_eq_true rfl⟩ hw hl.1 (Nat.le_of_ble_eq_true rfl) d_R_area_12 (x_ivS hC k_372 k_370 k_371 k_1 (show _ ∧ _ ∧ _ = some 3 from by decide +kernel) rfl d_R_area_12) (fun rv M2 H locs hq hw => ?_) (fun x X M9 H locs hth hxT hw => x_out hC hno hw hxT (by obtain ⟨rfl, hno9, rfl⟩ := hth; exact ⟨rfl, Or.inr (Or.inl ⟨by unfold areaK; rw [kt_f (not_not_intro hn1), kt_t (fun z => hno9 z.1)], rfl⟩)⟩) (Nat.le_of_ble_eq_true rfl) (Nat.le_of_ble_eq_true rfl))
  obtain ⟨rfl, i1, hM⟩ := hq
  subst M2
  refine W.eq (g2 := F0 m 15 ls []) rfl ?_
  refine lv_iload_n hx hb d_R_area_15 rfl (lv_at hl 3 rfl) ?_
  refine lv_sipush (v := (-999)) hx hb d_R_area_16 (by decide) ?_
  refine lv_sipush (v := nI 999) hx hb d_R_area_19 (by decide) ?_
  refine x_callG hC (c_R_checkWithin l hfl G M (Array.size H) (y) ((-999)) (nI 999)) k_372 k_1 ⟨Nat.le_of_ble_eq_true rfl, Nat.le_of_ble_eq_true rfl⟩ ⟨Nat.le_of_ble_eq_true rfl, Nat.le_of_ble_eq_true rfl⟩ hw hl.1 (Nat.le_of_ble_eq_true rfl) d_R_area_22 (x_ivS hC k_372 k_370 k_371 k_1 (show _ ∧ _ ∧ _ = some 3 from by decide +kernel) rfl d_R_area_22) (fun rv M3 H locs hq hw => ?_) (fun x X M9 H locs hth hxT hw => x_out hC hno hw hxT (by obtain ⟨rfl, hno9, rfl⟩ := hth; exact ⟨rfl, Or.inr (Or.inl ⟨by unfold areaK; rw [kt_f (not_not_intro hn1), kt_t (fun z => hno9 z.2.1)], rfl⟩)⟩) (Nat.le_of_ble_eq_true rfl) (Nat.le_of_ble_eq_true rfl))
  obtain ⟨rfl, i2, hM⟩ := hq
  subst M3
  refine W.eq (g2 := F0 m 25 ls []) rfl ?_
  refine lv_iload hx hb d_R_area_25 (lv_at hl 4 rfl) ?_
  refine lv_iconst (v := nI 0) hx hb d_R_area_27 (by decide) ?_
  refine lv_sipush (v := nI 1999) hx hb d_R_area_28 (by decide) ?_
  refine x_callG hC (c_R_checkWithin l hfl G M (Array.size H) (wd) (nI 0) (nI 1999)) k_372 k_1 ⟨Nat.le_of_ble_eq_true rfl, Nat.le_of_ble_eq_true rfl⟩ ⟨Nat.le_of_ble_eq_true rfl, Nat.le_of_ble_eq_true rfl⟩ hw hl.1 (Nat.le_of_ble_eq_true rfl) d_R_area_31 (x_ivS hC k_372 k_370 k_371 k_1 (show _ ∧ _ ∧ _ = some 3 from by decide +kernel) rfl d_R_area_31) (fun rv M4 H locs hq hw => ?_) (fun x X M9 H locs hth hxT hw => x_out hC hno hw hxT (by obtain ⟨rfl, hno9, rfl⟩ := hth; exact ⟨rfl, Or.inr (Or.inl ⟨by unfold areaK; rw [kt_f (not_not_intro hn1), kt_t (fun z => hno9 z.2.2.1)], rfl⟩)⟩) (Nat.le_of_ble_eq_true rfl) (Nat.le_of_ble_eq_true rfl))
  obtain ⟨rfl, i3, hM⟩ := hq
  subst M4
  refine W.eq (g2 := F0 m 34 ls []) rfl ?_
  refine lv_iload hx hb d_R_area_34 (lv_at hl 5 rfl) ?_
  refine lv_iconst (v := nI 0) hx hb d_R_area_36 (by decide) ?_
  refine lv_sipush (v := nI 1999) hx hb d_R_area_37 (by decide) ?_
  refine x_callG hC (c_R_checkWithin l hfl G M (Array.size H) (hg) (nI 0) (nI 1999)) k_372 k_1 ⟨Nat.le_of_ble_eq_true rfl, Nat.le_of_ble_eq_true rfl⟩ ⟨Nat.le_of_ble_eq_true rfl, Nat.le_of_ble_eq_true rfl⟩ hw hl.1 (Nat.le_of_ble_eq_true rfl) d_R_area_40 (x_ivS hC k_372 k_370 k_371 k_1 (show _ ∧ _ ∧ _ = some 3 from by decide +kernel) rfl d_R_area_40) (fun rv M5 H locs hq hw => ?_) (fun x X M9 H locs hth hxT hw => x_out hC hno hw hxT (by obtain ⟨rfl, hno9, rfl⟩ := hth; exact ⟨rfl, Or.inr (Or.inl ⟨by unfold areaK; rw [kt_f (not_not_intro hn1), kt_t (fun z => hno9 z.2.2.2)], rfl⟩)⟩) (Nat.le_of_ble_eq_true rfl) (Nat.le_of_ble_eq_true rfl))
  obtain ⟨rfl, i4, hM⟩ := hq
  subst M5
  refine W.eq (g2 := F0 m 43 ls []) rfl ?_
  refine lv_aload_n hx hb d_R_area_43 rfl (lv_at hl 0 rfl) ?_
  have hc6 := hR.rc
  have hc6 := hV.get hc6 (hR.ninS hSL (show 0 < 1 by omega) (by decide))
  refine x_get hC hw hc6 rfl 4 (by decide) (hts _ k_180) (fun _ h9 => h9) rfl d_R_area_44 ?_
  obtain ⟨mc7, hc7⟩ := hR.la (k := 4) (by decide)
  have hc7 := hV.get hc7 (hR.ninS hSL (show 4 < 6 by omega) (by decide))
  refine x_callG hC (c_sizeV l G M (Array.size H) fz ad nu sg M hR _ hV hSL 4 (by decide)) k_212 k_4 ⟨Nat.le_of_ble_eq_true rfl, Nat.le_of_ble_eq_true rfl⟩ ⟨Nat.le_of_ble_eq_true rfl, Nat.le_of_ble_eq_true rfl⟩ hw hl.1 (Nat.le_of_ble_eq_true rfl) d_R_area_47 (x_ivV hC k_212 k_209 k_210 k_211 (show _ ∧ _ ∧ _ = some 0 from by decide +kernel) (x_recv hC hw hc7 rfl) rfl d_R_area_47) (fun rv M8 H locs hq hw => ?_) (fun _ _ _ _ _ h _ _ => h.elim)
  obtain ⟨rfl, hM⟩ := hq
  subst M8
  refine W.eq (g2 := F0 m 50 ls [.int (nI (nu 15 0))]) rfl ?_
  refine lv_bipush (v := nI 8) hx hb d_R_area_50 (by decide) ?_
  refine x_callG hC (c_R_checkRoom l hfl G M (Array.size H) (nu 15 0) 8 (by omega) (by decide)) k_391 k_1 ⟨Nat.le_of_ble_eq_true rfl, Nat.le_of_ble_eq_true rfl⟩ ⟨Nat.le_of_ble_eq_true rfl, Nat.le_of_ble_eq_true rfl⟩ hw hl.1 (Nat.le_of_ble_eq_true rfl) d_R_area_52 (x_ivS hC k_391 k_389 k_390 k_1 (show _ ∧ _ ∧ _ = some 2 from by decide +kernel) rfl d_R_area_52) (fun rv M9 H locs hq hw => ?_) (fun x X M9 H locs hth hxT hw => x_out hC hno hw hxT (by obtain ⟨rfl, hno9, rfl⟩ := hth; exact ⟨rfl, Or.inr (Or.inr ⟨by unfold areaK; rw [kt_f (not_not_intro hn1), kt_f (not_not_intro ⟨i1, i2, i3, i4⟩), kt_t (by omega)], rfl⟩)⟩) (Nat.le_of_ble_eq_true rfl) (Nat.le_of_ble_eq_true rfl))
  obtain ⟨rfl, hroom, hM⟩ := hq
  subst M9
  refine W.eq (g2 := F0 m 55 ls []) rfl ?_
  refine lv_aload_n hx hb d_R_area_55 rfl (lv_at hl 0 rfl) ?_
  refine x_get hC hw hc6 rfl 4 (by decide) (hts _ k_180) (fun _ h9 => h9) rfl d_R_area_56 ?_
  refine x_new (fs := [.int (nI 0), .int (nI 0), .int (nI 0), .int (nI 0), .int (nI 0)]) hC hw rfl (hts _ k_513) (hts _ k_514) (hts _ k_24) nf_4 (Nat.le_of_ble_eq_true rfl) (Nat.le_of_ble_eq_true rfl) d_R_area_59 (fun qn M10 H hn em fr hw => ?_)
  have ne_hc6_qn : ad 14 0 ≠ qn := x_neN hc6 hn
  have hc6 := (fr _ ne_hc6_qn).trans hc6
  have ne_hc7_qn : ad 0 4 ≠ qn := x_neN hc7 hn
  have hc7 := (fr _ ne_hc7_qn).trans hc7
  have h_qn := em
  have hn_qn := hF.none hn
  have hF := hF.put em fr (Or.inr hn)
  have hV := hF
  refine lv_dup hx hb d_R_area_62 rfl ?_
  refine lv_iload_n hx hb d_R_area_63 rfl (lv_at hl 1 rfl) ?_
  refine lv_iload_n hx hb d_R_area_64 rfl (lv_at hl 2 rfl) ?_
  refine lv_iload_n hx hb d_R_area_65 rfl (lv_at hl 3 rfl) ?_
  refine lv_iload hx hb d_R_area_66 (lv_at hl 4 rfl) ?_
  refine lv_iload hx hb d_R_area_68 (lv_at hl 5 rfl) ?_
  refine x_callG hC (c_A_init l G M10 (Array.size H) qn pg x y wd hg h_qn) k_517 k_24 ⟨Nat.le_of_ble_eq_true rfl, Nat.le_of_ble_eq_true rfl⟩ ⟨Nat.le_of_ble_eq_true rfl, Nat.le_of_ble_eq_true rfl⟩ hw hl.1 (Nat.le_of_ble_eq_true rfl) d_R_area_70 (x_ivI hC k_517 k_515 k_516 rfl (show _ ∧ _ ∧ _ = some 5 from by decide +kernel) rfl d_R_area_70) (fun rv M11 H locs hq hw => ?_) (fun _ _ _ _ _ h _ _ => h.elim)
  obtain ⟨rfl, h_qn, fr⟩ := hq
  have hF := hF.trans fr (by intro z hz; rw [List.mem_singleton.mp hz]; exact Or.inr hn_qn)
  have hV := hF
  have hc6 := fr.get hc6 (by simp [ne_hc6_qn])
  have hc7 := fr.get hc7 (by simp [ne_hc7_qn])
  refine W.eq (g2 := F0 m 73 ls [.ref qn, .ref (ad 0 4)]) rfl ?_
  refine x_callG hC (c_add l G M11 (Array.size H) fz ad nu sg M hR hF 4 (by decide) (show nu 15 0 < 22 by omega) _ _ _ rfl k_989 qn _ h_qn) k_119 k_4 ⟨Nat.le_of_ble_eq_true rfl, Nat.le_of_ble_eq_true rfl⟩ ⟨Nat.le_of_ble_eq_true rfl, Nat.le_of_ble_eq_true rfl⟩ hw hl.1 (Nat.le_of_ble_eq_true rfl) d_R_area_73 (x_ivV hC k_119 k_116 k_117 k_118 (show _ ∧ _ ∧ _ = some 1 from by decide +kernel) (x_recv hC hw hc7 rfl) rfl d_R_area_73) (fun rv M12 H locs hq hw => ?_) (fun _ _ _ _ _ h _ _ => h.elim)
  obtain ⟨rfl, el', cap', f', mc', a1, a2, a3, a4, a5, a6, a7, a8, fr, a9, a10, a11⟩ := hq
  have h_rc := (a9 14 0 Nat.zero_lt_one (by decide) (by decide)).trans hR.rc
  have h_qn := a10 _ _ h_qn hn_qn
  refine W.eq (g2 := F0 m 76 ls [.int (nI 1)]) rfl ?_
  refine lv_pop hx hb d_R_area_76 rfl ?_
  refine lv_aload_n hx hb d_R_area_77 rfl (lv_at hl 0 rfl) ?_
  refine x_get hC hw h_rc rfl 4 (by decide) (hts _ k_180) (fun _ h9 => h9) rfl d_R_area_78 ?_
  refine x_callG hC (c_AL_size l G M12 (Array.size H) (ad 0 4) el' (nu 15 0 + 1) mc' a1) k_212 k_4 ⟨Nat.le_of_ble_eq_true rfl, Nat.le_of_ble_eq_true rfl⟩ ⟨Nat.le_of_ble_eq_true rfl, Nat.le_of_ble_eq_true rfl⟩ hw hl.1 (Nat.le_of_ble_eq_true rfl) d_R_area_81 (x_ivV hC k_212 k_209 k_210 k_211 (show _ ∧ _ ∧ _ = some 0 from by decide +kernel) (x_recv hC hw a1 rfl) rfl d_R_area_81) (fun rv M13 H locs hq hw => ?_) (fun _ _ _ _ _ h _ _ => h.elim)
  obtain ⟨rfl, hM⟩ := hq
  subst M13
  refine W.eq (g2 := F0 m 84 ls [.int (nI (nu 15 0 + 1))]) rfl ?_
  obtain ⟨q1, q2⟩ := area_ok hR (x_fz0 hC hw hR.2.1.1) hfm a11 hn_qn hn_qn a7 a8 a1 a2 a3 a4 a5 a6 ((eqx.up nu 15 (fun _ => nu 15 0 + 1)).wide (by decide)) arW_S (by rw [va_up_self]) arW_16 arW_17 arW_18 arW_19 arW_20 h_qn
  exact x_iret hC hr hw (⟨rfl, by unfold areaK; rw [kt_f (not_not_intro hn1), kt_f (not_not_intro ⟨i1, i2, i3, i4⟩), kt_f (by omega)], _, _, _, q1, eqx.up nu 15 (fun _ => nu 15 0 + 1), arW_S, ⟨by rw [va_up_self], arW_16, arW_17, arW_18, arW_19, arW_20⟩, cFr.of a11 (own_add hR (by decide) a7), q2, adN_o (by omega) (by omega) (by omega)⟩) (Nat.le_of_ble_eq_true rfl) (Nat.le_of_ble_eq_true rfl) d_R_area_84

theorem usW_S {sg : Nat → Nat → Int32} {ix : Nat} {pg dx dy : Int32} : eqx [8, 10, 11] sg (va_up (va_up (va_up (sg) 8 (va_up (sg 8) (ix) pg)) 10 (va_up (sg 10) (ix) dx)) 11 (va_up (sg 11) (ix) dy)) := by
  intro k hk
  simp only [List.mem_cons, List.not_mem_nil, or_false, not_or] at hk
  rw [va_up_ne _ _ (by omega), va_up_ne _ _ (by omega), va_up_ne _ _ (by omega)]
theorem usW_8 {sg : Nat → Nat → Int32} {ix : Nat} {pg dx dy : Int32} : (va_up (va_up (va_up (sg) 8 (va_up (sg 8) (ix) pg)) 10 (va_up (sg 10) (ix) dx)) 11 (va_up (sg 11) (ix) dy)) 8 = va_up (sg 8) ix pg := by rw [va_up_ne _ _ (by decide), va_up_ne _ _ (by decide), va_up_self]
theorem usW_10 {sg : Nat → Nat → Int32} {ix : Nat} {pg dx dy : Int32} : (va_up (va_up (va_up (sg) 8 (va_up (sg 8) (ix) pg)) 10 (va_up (sg 10) (ix) dx)) 11 (va_up (sg 11) (ix) dy)) 10 = va_up (sg 10) ix dx := by rw [va_up_ne _ _ (by decide), va_up_self]
theorem usW_11 {sg : Nat → Nat → Int32} {ix : Nat} {pg dx dy : Int32} : (va_up (va_up (va_up (sg) 8 (va_up (sg 8) (ix) pg)) 10 (va_up (sg 10) (ix) dx)) 11 (va_up (sg 11) (ix) dy)) 11 = va_up (sg 11) ix dy := by rw [va_up_self]
theorem usW_N {nu : Nat → Nat → Nat} {a b : Nat → Nat} : eqx [7, 9] nu (va_up (va_up nu 7 a) 9 b) := by
  intro k hk
  simp only [List.mem_cons, List.not_mem_nil, or_false, not_or] at hk
  rw [va_up_ne _ _ hk.2, va_up_ne _ _ hk.1]
theorem usW_7 {nu : Nat → Nat → Nat} {a b : Nat → Nat} : va_up (va_up nu 7 a) 9 b 7 = a := by rw [va_up_ne _ _ (by decide), va_up_self]
set_option maxHeartbeats 400000 in
set_option maxRecDepth 100000 in
/-- use -/
theorem c_R_use (l : Launch) (hfl : l.flags = flags0) (G : xT) (M : xMem) (sz : Nat) (fz : Nat) (ad : Nat → Nat → Nat) (nu : Nat → Nat → Nat) (sg : Nat → Nat → Int32) (hR : cRep G M fz ad nu sg) (pg fo dx dy : Int32) (h20 : nu 6 0 ≤ 20) (h12 : nu 7 0 ≤ 12) (hfm : ∀ u, u < nu 7 0 → nu 9 u < nu 6 0) : xMet l G y_R_use (Cond.code y_R_use b_R_use 6 (Option.some Jvm.ClassFile.FieldType.int) :: x_tbl) { frames := 7, cells := 7, slots := 58, locals := 172 } [.ref (ad 14 0), .int pg, .int fo, .int dx, .int dy] M sz (fun u M' => u = some (.int (nI (nu 7 0))) ∧ useK nu pg fo dx dy = 0 ∧ ∃ (ad' : Nat → Nat → Nat) (nu' : Nat → Nat → Nat) (sg' : Nat → Nat → Int32), cRep G M' fz ad' nu' sg' ∧ eqx [7, 9] nu nu' ∧ eqx [8, 10, 11] sg sg' ∧ (nu' 7 0 = nu 7 0 + 1 ∧ nu' 9 = va_up (nu 9) (nu 7 0) (cN fo) ∧ sg' 8 = va_up (sg 8) (nu 7 0) pg ∧ sg' 10 = va_up (sg 10) (nu 7 0) dx ∧ sg' 11 = va_up (sg 11) (nu 7 0) dy) ∧ cFr M M' ad nu ∧ (∀ a, own ad' nu' a → own ad nu a ∨ M a = none) ∧ ad' 14 0 = ad 14 0) (fun X M' => M' = M ∧ (useK nu pg fo dx dy = 1 ∧ X = "java/lang/IndexOutOfBoundsException" ∨ useK nu pg fo dx dy = 2 ∧ X = "java/lang/IllegalArgumentException" ∨ useK nu pg fo dx dy = 3 ∧ X = "java/lang/UnsupportedOperationException")) := by
  refine xMet.of (by decide) (Nat.le_of_ble_eq_true rfl) ?_
  intro p e s m below meth c ls hC hr hnm hno hsz hw hl
  obtain ⟨hx, hb, hown, hts, hK, hml, hlk, hz⟩ := id hC
  have hl : lv_has ls 6 [(0, .ref (ad 14 0)), (1, .int pg), (2, .int fo), (3, .int dx), (4, .int dy)] := hl
  have hF : xfr M M [] := xfr.rf
  have hV := hF
  have hSL := vlP.nil (ad := ad) (nu := nu)
  refine lv_iload_n hx hb d_R_use_0 rfl (lv_at hl 1 rfl) ?_
  refine lv_iconst (v := nI 4) hx hb d_R_use_1 (by decide) ?_
  refine x_callG hC (c_R_checkNumber l hfl G M (Array.size s.heap) (pg) (4) (by omega)) k_439 k_1 ⟨Nat.le_of_ble_eq_true rfl, Nat.le_of_ble_eq_true rfl⟩ ⟨Nat.le_of_ble_eq_true rfl, Nat.le_of_ble_eq_true rfl⟩ hw hl.1 (Nat.le_of_ble_eq_true rfl) d_R_use_2 (x_ivS hC k_439 k_437 k_438 k_1 (show _ ∧ _ ∧ _ = some 2 from by decide +kernel) rfl d_R_use_2) (fun rv M1 H locs hq hw => ?_) (fun x X M9 H locs hth hxT hw => x_out hC hno hw hxT (by obtain ⟨rfl, hno9, rfl⟩ := hth; exact ⟨rfl, Or.inl ⟨by unfold useK; rw [kt_t (fun z => hno9 z.1)], rfl⟩⟩) (Nat.le_of_ble_eq_true rfl) (Nat.le_of_ble_eq_true rfl))
  obtain ⟨rfl, hn1, hM⟩ := hq
  subst M1
  refine W.eq (g2 := F0 m 5 ls []) rfl ?_
  refine lv_aload_n hx hb d_R_use_5 rfl (lv_at hl 0 rfl) ?_
  have hc2 := hR.rc
  have hc2 := hV.get hc2 (hR.ninS hSL (show 0 < 1 by omega) (by decide))
  refine x_get hC hw hc2 rfl 1 (by decide) (hts _ k_177) (fun _ h9 => h9) rfl d_R_use_6 ?_
  refine lv_iload_n hx hb d_R_use_9 rfl (lv_at hl 2 rfl) ?_
  obtain ⟨mc3, hc3⟩ := hR.la (k := 1) (by decide)
  have hc3 := hV.get hc3 (hR.ninS hSL (show 1 < 6 by omega) (by decide))
  refine x_callG hC (c_R_rowOf1 l hfl G M (Array.size H) fz ad nu sg hR fo h20) k_298 k_1 ⟨Nat.le_of_ble_eq_true rfl, Nat.le_of_ble_eq_true rfl⟩ ⟨Nat.le_of_ble_eq_true rfl, Nat.le_of_ble_eq_true rfl⟩ hw hl.1 (Nat.le_of_ble_eq_true rfl) d_R_use_10 (x_ivS hC k_298 k_296 k_297 k_1 (show _ ∧ _ ∧ _ = some 2 from by decide +kernel) rfl d_R_use_10) (fun rv M4 H locs hq hw => ?_) (fun x X M9 H locs hth hxT hw => x_out hC hno hw hxT (by obtain ⟨rfl, hno9, rfl⟩ := hth; exact ⟨rfl, Or.inl ⟨by unfold useK; rw [kt_t (fun z => hno9 z.2)], rfl⟩⟩) (Nat.le_of_ble_eq_true rfl) (Nat.le_of_ble_eq_true rfl))
  obtain ⟨rfl, hn2, hM⟩ := hq
  subst M4
  refine W.eq (g2 := F0 m 13 ls [.ref (ad 2 (4 + cN fo))]) rfl ?_
  have hfo : cN fo < nu 6 0 := hn2.2
  refine lv_astore (lv' := [(5, .ref (ad 2 (4 + cN fo))), (0, .ref (ad 14 0)), (1, .int pg), (2, .int fo), (3, .int dx), (4, .int dy)]) hx hb d_R_use_13 hl (by decide) rfl (fun ls hl => ?_)
  refine lv_iload_n hx hb d_R_use_15 rfl (lv_at hl 4 rfl) ?_
  refine lv_sipush (v := (-999)) hx hb d_R_use_16 (by decide) ?_
  refine lv_sipush (v := nI 999) hx hb d_R_use_19 (by decide) ?_
  refine x_callG hC (c_R_checkWithin l hfl G M (Array.size H) (dx) ((-999)) (nI 999)) k_372 k_1 ⟨Nat.le_of_ble_eq_true rfl, Nat.le_of_ble_eq_true rfl⟩ ⟨Nat.le_of_ble_eq_true rfl, Nat.le_of_ble_eq_true rfl⟩ hw hl.1 (Nat.le_of_ble_eq_true rfl) d_R_use_22 (x_ivS hC k_372 k_370 k_371 k_1 (show _ ∧ _ ∧ _ = some 3 from by decide +kernel) rfl d_R_use_22) (fun rv M5 H locs hq hw => ?_) (fun x X M9 H locs hth hxT hw => x_out hC hno hw hxT (by obtain ⟨rfl, hno9, rfl⟩ := hth; exact ⟨rfl, Or.inr (Or.inl ⟨by unfold useK; rw [kt_f (not_not_intro ⟨hn1, hn2⟩), kt_t (fun z => hno9 z.1)], rfl⟩)⟩) (Nat.le_of_ble_eq_true rfl) (Nat.le_of_ble_eq_true rfl))
  obtain ⟨rfl, i1, hM⟩ := hq
  subst M5
  refine W.eq (g2 := F0 m 25 ls []) rfl ?_
  refine lv_iload hx hb d_R_use_25 (lv_at hl 5 rfl) ?_
  refine lv_sipush (v := (-999)) hx hb d_R_use_27 (by decide) ?_
  refine lv_sipush (v := nI 999) hx hb d_R_use_30 (by decide) ?_
  refine x_callG hC (c_R_checkWithin l hfl G M (Array.size H) (dy) ((-999)) (nI 999)) k_372 k_1 ⟨Nat.le_of_ble_eq_true rfl, Nat.le_of_ble_eq_true rfl⟩ ⟨Nat.le_of_ble_eq_true rfl, Nat.le_of_ble_eq_true rfl⟩ hw hl.1 (Nat.le_of_ble_eq_true rfl) d_R_use_33 (x_ivS hC k_372 k_370 k_371 k_1 (show _ ∧ _ ∧ _ = some 3 from by decide +kernel) rfl d_R_use_33) (fun rv M6 H locs hq hw => ?_) (fun x X M9 H locs hth hxT hw => x_out hC hno hw hxT (by obtain ⟨rfl, hno9, rfl⟩ := hth; exact ⟨rfl, Or.inr (Or.inl ⟨by unfold useK; rw [kt_f (not_not_intro ⟨hn1, hn2⟩), kt_t (fun z => hno9 z.2)], rfl⟩)⟩) (Nat.le_of_ble_eq_true rfl) (Nat.le_of_ble_eq_true rfl))
  obtain ⟨rfl, i2, hM⟩ := hq
  subst M6
  refine W.eq (g2 := F0 m 36 ls []) rfl ?_
  refine lv_aload_n hx hb d_R_use_36 rfl (lv_at hl 1 rfl) ?_
  refine x_get hC hw hc2 rfl 2 (by decide) (hts _ k_178) (fun _ h9 => h9) rfl d_R_use_37 ?_
  obtain ⟨mc7, hc7⟩ := hR.la (k := 2) (by decide)
  have hc7 := hV.get hc7 (hR.ninS hSL (show 2 < 6 by omega) (by decide))
  refine x_callG hC (c_sizeV l G M (Array.size H) fz ad nu sg M hR _ hV hSL 2 (by decide)) k_212 k_4 ⟨Nat.le_of_ble_eq_true rfl, Nat.le_of_ble_eq_true rfl⟩ ⟨Nat.le_of_ble_eq_true rfl, Nat.le_of_ble_eq_true rfl⟩ hw hl.1 (Nat.le_of_ble_eq_true rfl) d_R_use_40 (x_ivV hC k_212 k_209 k_210 k_211 (show _ ∧ _ ∧ _ = some 0 from by decide +kernel) (x_recv hC hw hc7 rfl) rfl d_R_use_40) (fun rv M8 H locs hq hw => ?_) (fun _ _ _ _ _ h _ _ => h.elim)
  obtain ⟨rfl, hM⟩ := hq
  subst M8
  refine W.eq (g2 := F0 m 43 ls [.int (nI (nu 7 0))]) rfl ?_
  refine lv_bipush (v := nI 12) hx hb d_R_use_43 (by decide) ?_
  refine x_callG hC (c_R_checkRoom l hfl G M (Array.size H) (nu 7 0) 12 (by omega) (by decide)) k_391 k_1 ⟨Nat.le_of_ble_eq_true rfl, Nat.le_of_ble_eq_true rfl⟩ ⟨Nat.le_of_ble_eq_true rfl, Nat.le_of_ble_eq_true rfl⟩ hw hl.1 (Nat.le_of_ble_eq_true rfl) d_R_use_45 (x_ivS hC k_391 k_389 k_390 k_1 (show _ ∧ _ ∧ _ = some 2 from by decide +kernel) rfl d_R_use_45) (fun rv M9 H locs hq hw => ?_) (fun x X M9 H locs hth hxT hw => x_out hC hno hw hxT (by obtain ⟨rfl, hno9, rfl⟩ := hth; exact ⟨rfl, Or.inr (Or.inr ⟨by unfold useK; rw [kt_f (not_not_intro ⟨hn1, hn2⟩), kt_f (not_not_intro ⟨i1, i2⟩), kt_t (by omega)], rfl⟩)⟩) (Nat.le_of_ble_eq_true rfl) (Nat.le_of_ble_eq_true rfl))
  obtain ⟨rfl, hroom, hM⟩ := hq
  subst M9
  refine W.eq (g2 := F0 m 48 ls []) rfl ?_
  refine lv_aload_n hx hb d_R_use_48 rfl (lv_at hl 1 rfl) ?_
  refine x_get hC hw hc2 rfl 2 (by decide) (hts _ k_178) (fun _ h9 => h9) rfl d_R_use_49 ?_
  refine x_new (fs := [.int (nI 0), .int (nI 0), .int (nI 0), .null, .long 0, .null]) hC hw rfl (hts _ k_256) (hts _ k_441) (hts _ k_22) nf_5 (Nat.le_of_ble_eq_true rfl) (Nat.le_of_ble_eq_true rfl) d_R_use_52 (fun qn M10 H hn em fr hw => ?_)
  have ne_hc2_qn : ad 14 0 ≠ qn := x_neN hc2 hn
  have hc2 := (fr _ ne_hc2_qn).trans hc2
  have ne_hc3_qn : ad 0 1 ≠ qn := x_neN hc3 hn
  have hc3 := (fr _ ne_hc3_qn).trans hc3
  have ne_hc7_qn : ad 0 2 ≠ qn := x_neN hc7 hn
  have hc7 := (fr _ ne_hc7_qn).trans hc7
  have h_qn := em
  have hn_qn := hF.none hn
  have hF := hF.put em fr (Or.inr hn)
  have hV := hF
  refine lv_dup hx hb d_R_use_55 rfl ?_
  refine lv_iload_n hx hb d_R_use_56 rfl (lv_at hl 2 rfl) ?_
  refine lv_aload hx hb d_R_use_57 (lv_at hl 0 rfl) ?_
  refine lv_iload_n hx hb d_R_use_59 rfl (lv_at hl 4 rfl) ?_
  refine lv_iload hx hb d_R_use_60 (lv_at hl 5 rfl) ?_
  refine x_callG hC (c_U_init l G M10 (Array.size H) qn pg dx dy (ad 2 (4 + cN fo)) h_qn) k_444 k_22 ⟨Nat.le_of_ble_eq_true rfl, Nat.le_of_ble_eq_true rfl⟩ ⟨Nat.le_of_ble_eq_true rfl, Nat.le_of_ble_eq_true rfl⟩ hw hl.1 (Nat.le_of_ble_eq_true rfl) d_R_use_62 (x_ivI hC k_444 k_442 k_443 rfl (show _ ∧ _ ∧ _ = some 4 from by decide +kernel) rfl d_R_use_62) (fun rv M11 H locs hq hw => ?_) (fun _ _ _ _ _ h _ _ => h.elim)
  obtain ⟨rfl, h_qn, fr⟩ := hq
  have hF := hF.trans fr (by intro z hz; rw [List.mem_singleton.mp hz]; exact Or.inr hn_qn)
  have hV := hF
  have hc2 := fr.get hc2 (by simp [ne_hc2_qn])
  have hc3 := fr.get hc3 (by simp [ne_hc3_qn])
  have hc7 := fr.get hc7 (by simp [ne_hc7_qn])
  refine W.eq (g2 := F0 m 65 ls [.ref qn, .ref (ad 0 2)]) rfl ?_
  refine x_callG hC (c_add l G M11 (Array.size H) fz ad nu sg M hR hF 2 (by decide) (show nu 7 0 < 22 by omega) _ _ _ rfl k_987 qn _ h_qn) k_119 k_4 ⟨Nat.le_of_ble_eq_true rfl, Nat.le_of_ble_eq_true rfl⟩ ⟨Nat.le_of_ble_eq_true rfl, Nat.le_of_ble_eq_true rfl⟩ hw hl.1 (Nat.le_of_ble_eq_true rfl) d_R_use_65 (x_ivV hC k_119 k_116 k_117 k_118 (show _ ∧ _ ∧ _ = some 1 from by decide +kernel) (x_recv hC hw hc7 rfl) rfl d_R_use_65) (fun rv M12 H locs hq hw => ?_) (fun _ _ _ _ _ h _ _ => h.elim)
  obtain ⟨rfl, el', cap', f', mc', a1, a2, a3, a4, a5, a6, a7, a8, fr, a9, a10, a11⟩ := hq
  have h_rc := (a9 14 0 Nat.zero_lt_one (by decide) (by decide)).trans hR.rc
  have h_qn := a10 _ _ h_qn hn_qn
  refine W.eq (g2 := F0 m 68 ls [.int (nI 1)]) rfl ?_
  refine lv_pop hx hb d_R_use_68 rfl ?_
  refine lv_aload_n hx hb d_R_use_69 rfl (lv_at hl 1 rfl) ?_
  refine x_get hC hw h_rc rfl 2 (by decide) (hts _ k_178) (fun _ h9 => h9) rfl d_R_use_70 ?_
  refine x_callG hC (c_AL_size l G M12 (Array.size H) (ad 0 2) el' (nu 7 0 + 1) mc' a1) k_212 k_4 ⟨Nat.le_of_ble_eq_true rfl, Nat.le_of_ble_eq_true rfl⟩ ⟨Nat.le_of_ble_eq_true rfl, Nat.le_of_ble_eq_true rfl⟩ hw hl.1 (Nat.le_of_ble_eq_true rfl) d_R_use_73 (x_ivV hC k_212 k_209 k_210 k_211 (show _ ∧ _ ∧ _ = some 0 from by decide +kernel) (x_recv hC hw a1 rfl) rfl d_R_use_73) (fun rv M13 H locs hq hw => ?_) (fun _ _ _ _ _ h _ _ => h.elim)
  obtain ⟨rfl, hM⟩ := hq
  subst M13
  refine W.eq (g2 := F0 m 76 ls [.int (nI (nu 7 0 + 1))]) rfl ?_
  refine lv_iconst (v := nI 1) hx hb d_R_use_76 (by decide) ?_
  refine lv_isub hx hb d_R_use_77 ?_
  refine x_vi (y := nI ((nu 7 0 + 1) - 1)) (x_sub (by omega)) ?_
  obtain ⟨q1, q2⟩ := use_ok hR (x_fz0 hC hw hR.2.1.1) hfm a11 hn_qn hn_qn a7 a8 a1 a2 a3 a4 a5 a6 ((usW_N (a := fun _ => nu 7 0 + 1) (b := va_up (nu 9) (nu 7 0) (cN fo))).wide (by decide)) usW_S (by rw [usW_7]) hfo (va_up_self _ _ _) usW_8 usW_10 usW_11 h_qn
  exact x_iret hC hr hw (⟨congrArg (fun z => some (Value.int z)) (congrArg nI (Nat.add_sub_cancel _ _)), by unfold useK; rw [kt_f (not_not_intro ⟨hn1, hn2⟩), kt_f (not_not_intro ⟨i1, i2⟩), kt_f (by omega)], _, _, _, q1, usW_N, usW_S, ⟨by rw [usW_7], va_up_self _ _ _, usW_8, usW_10, usW_11⟩, cFr.of a11 (own_add hR (by decide) a7), q2, adN_o (by omega) (by omega) (by omega)⟩) (Nat.le_of_ble_eq_true rfl) (Nat.le_of_ble_eq_true rfl) d_R_use_78
