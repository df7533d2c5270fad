theorem usC_c {ad : Nat → Nat → Nat} {nu nu1 : Nat → Nat → Nat} {sg sg1 : Nat → Nat → Int32} {j : Nat} {mk : Int64} {tw : Option Nat} (hN : eqx [1] nu nu1) (hS : eqx [2, 3, 4, 5] sg sg1) : usC ad nu1 sg1 j mk tw = usC ad nu sg j mk tw := by
  unfold usC
  rw [hN 9 (by decide), hS 8 (by decide), hS 10 (by decide), hS 11 (by decide)]
theorem black_P {nu nuA nuB : Nat → Nat → Nat} {sg sgA sgB : Nat → Nat → Int32} (hN : eqx [1, 6, 9] nu nuA) (hS : eqx [2, 3, 4, 5] sg sgA) (h6 : nuA 6 0 = nu 6 0 + cnt (newU nu sg) (nu 7 0)) (hE : usP nu sg nuA sgA (nu 7 0)) (hUf : ufP nu sg (nuA 9) (nu 7 0)) (hN2 : eqx [23] nuA nuB) (hS2 : eqx [24] sgA sgB) (hQ : stQ nu sg nuB sgB (nu 21 0)) : blackP nu sg nuB sgB := by
  have z1 := hN2 1 (by decide)
  have z9 := hN2 9 (by decide)
  have z6 : nuB 6 0 = nu 6 0 + cnt (newU nu sg) (nu 7 0) := by rw [hN2 6 (by decide)]; exact h6
  have hE : usP nu sg nuB sgB (nu 7 0) := by
    unfold usP rowCut rowSame at hE ⊢
    rw [z1, hS2 2 (by decide), hS2 3 (by decide), hS2 4 (by decide), hS2 5 (by decide)]
    exact hE
  rw [← z9] at hUf
  exact ⟨hN.trans hN2 (by decide) (by decide), hS.trans hS2 (by decide) (by decide), z6, hE.1, hE.2.1, hE.2.2.1, fun z hz => hE.2.2.2 z (by omega), hUf.1, hUf.2, hQ.1, hQ.2.1⟩
set_option maxHeartbeats 400000 in
set_option maxRecDepth 100000 in
/-- black -/
theorem c_R_black (l : Launch) (hfl : l.flags = flags0) (G : xT) (M : xMem) (sz : Nat) (fz : Nat) (ad : Nat → Nat → Nat) (nu : Nat → Nat → Nat) (sg : Nat → Nat → Int32) (hR : cRep G M fz ad nu sg) (h20 : nu 6 0 ≤ 20) (h12 : nu 7 0 ≤ 12) (h4 : nu 12 0 ≤ 4) (h8a : nu 15 0 ≤ 8) (h40 : ∀ r, nu 1 r ≤ 40) (h8 : ∀ w, nu 13 w ≤ 8) (hfm : ∀ u, u < nu 7 0 → nu 9 u < nu 6 0) (hlt : ∀ w, w < nu 12 0 → ∀ j, j < nu 13 w → ¬ sg 14 (8 * w + j) = 0) (hst8 : nu 21 0 ≤ 8) (h60 : ∀ t, nu 23 t ≤ 60) (hen : ∀ t, t < nu 21 0 → ∃ en, en < 4 ∧ sg 22 t = nI en) (hok : ∀ j, okB (sg 24 j)) : xMet l G y_R_black (Cond.code y_R_black b_R_black 1 (Option.some Jvm.ClassFile.FieldType.int) :: x_tbl) { frames := 9, cells := 36, slots := 2220, locals := 219 } [.ref (ad 14 0)] M sz (fun u M' => u = some (.int (nI (blackN nu sg))) ∧ blackK nu sg = 0 ∧ ∃ (ad' : Nat → Nat → Nat) (nu' : Nat → Nat → Nat) (sg' : Nat → Nat → Int32), cRep G M' fz ad' nu' sg' ∧ blackP nu sg nu' sg' ∧ cFr M M' ad nu ∧ (∀ a, own ad' nu' a → own ad nu a ∨ M a = none) ∧ ad' 14 0 = ad 14 0 ∧ (∀ r, nu' 1 r ≤ 40) ∧ (∀ u, u < nu' 7 0 → nu' 9 u < nu' 6 0) ∧ (∀ x, nu' 23 x ≤ 60)) (fun X M' => blackK nu sg = 1 ∧ X = "java/lang/UnsupportedOperationException" ∧ cRep G M' fz ad nu sg ∧ cFr M M' ad nu) := by
  refine xMet.of (by decide) (Nat.le_of_ble_eq_true rfl) ?_
  intro p e s m below meth c ls hC hr hnm hno hsz hw hl
  obtain ⟨hx, hb, hown, hts, hK, hml, hlk, hz⟩ := id hC
  have hl : lv_has ls 1 [(0, .ref (ad 14 0))] := hl
  refine lv_aload_n hx hb d_R_black_0 rfl (lv_at hl 0 rfl) ?_
  have hc1 := hR.rc
  refine x_get hC hw hc1 rfl 1 (by decide) (hts _ k_177) (fun _ h9 => h9) rfl d_R_black_1 ?_
  obtain ⟨mc2, hc2⟩ := hR.la (k := 1) (by decide)
  refine x_callG hC (c_size l G M (Array.size s.heap) fz ad nu sg hR 1 (by decide)) k_212 k_4 ⟨Nat.le_of_ble_eq_true rfl, Nat.le_of_ble_eq_true rfl⟩ ⟨Nat.le_of_ble_eq_true rfl, Nat.le_of_ble_eq_true rfl⟩ hw hl.1 (Nat.le_of_ble_eq_true rfl) d_R_black_4 (x_ivV hC k_212 k_209 k_210 k_211 (show _ ∧ _ ∧ _ = some 0 from by decide +kernel) (x_recv hC hw hc2 rfl) rfl d_R_black_4) (fun rv M3 H locs hq hw => ?_) (fun _ _ _ _ _ h _ _ => h.elim)
  obtain ⟨rfl, hM⟩ := hq
  subst M3
  refine W.eq (g2 := F0 m 7 ls [.int (nI (nu 6 0))]) rfl ?_
  refine lv_aload_n hx hb d_R_black_7 rfl (lv_at hl 0 rfl) ?_
  refine x_callG hC (c_R_markUses l G M (Array.size H) fz ad nu sg hR h20 h12 h4 h8a h40 h8 hfm hlt) k_585 k_1 ⟨Nat.le_of_ble_eq_true rfl, Nat.le_of_ble_eq_true rfl⟩ ⟨Nat.le_of_ble_eq_true rfl, Nat.le_of_ble_eq_true rfl⟩ hw hl.1 (Nat.le_of_ble_eq_true rfl) d_R_black_8 (x_ivV hC k_585 k_582 k_584 kp_10 (show _ ∧ _ ∧ _ = some 0 from by decide +kernel) (x_recv hC hw hc1 rfl) rfl d_R_black_8) (fun rv M4 H locs hq hw => ?_) (fun _ _ _ _ _ h _ _ => h.elim)
  obtain ⟨rfl, mks, tws, hR1, hU, hB, hT, hC1⟩ := hq
  have hcn := cnt_le (newU nu sg) (nu 7 0)
  refine W.eq (g2 := F0 m 11 ls [.int (nI (cnt (newU nu sg) (nu 7 0))), .int (nI (nu 6 0))]) rfl ?_
  refine lv_iadd hx hb d_R_black_11 ?_
  refine x_vi (y := nI ((nu 6 0) + (cnt (newU nu sg) (nu 7 0)))) (nI_add _ _) ?_
  refine lv_bipush (v := nI 20) hx hb d_R_black_12 (by decide) ?_
  refine lv_icmp_le (tgt := 27) hx hb d_R_black_14 (by decide) (fun c_14 => ?_) (fun c_14 => ?_)
  · have c_14 := (nI_leI (by omega) (by omega)).mp c_14
    refine lv_aload_n hx hb d_R_black_27 rfl (lv_at hl 0 rfl) ?_
    have hc5 := hR1.rc
    refine x_callG hC (c_R_cutPages l G M4 (Array.size H) fz ad nu sg hR1 h20 h12 h4 h8a h40 h8 hfm hlt) k_615 k_1 ⟨Nat.le_of_ble_eq_true rfl, Nat.le_of_ble_eq_true rfl⟩ ⟨Nat.le_of_ble_eq_true rfl, Nat.le_of_ble_eq_true rfl⟩ hw hl.1 (Nat.le_of_ble_eq_true rfl) d_R_black_28 (x_ivV hC k_615 k_612 k_614 kp_16 (show _ ∧ _ ∧ _ = some 0 from by decide +kernel) (x_recv hC hw hc5 rfl) rfl d_R_black_28) (fun rv M6 H locs hq hw => ?_) (fun _ _ _ _ _ h _ _ => h.elim)
    obtain ⟨rfl, nuc, sgc, hR2, hN0, hS0, hP, h40c, hUs, hC2⟩ := hq
    have hU2 := fun j (hj : j < nu 7 0) => ((hUs j hj).trans (hU j hj)).trans (congrArg some (usC_c hN0 hS0).symm)
    refine W.eq (g2 := F0 m 31 ls [.int (nI (sm (fun p => cnt (mkG nu sg p) 40) 4))]) rfl ?_
    refine lv_aload_n hx hb d_R_black_31 rfl (lv_at hl 0 rfl) ?_
    have hc7 := hR2.rc
    refine x_callG hC (c_R_cutUses l G M6 (Array.size H) fz ad nu nuc sg sgc hR2 hN0 hS0 hP h40c mks tws hU2 hB hT (by omega) h20 h12 h4 h8a h40 h8 hfm hlt) k_654 k_1 ⟨Nat.le_of_ble_eq_true rfl, Nat.le_of_ble_eq_true rfl⟩ ⟨Nat.le_of_ble_eq_true rfl, Nat.le_of_ble_eq_true rfl⟩ hw hl.1 (Nat.le_of_ble_eq_true rfl) d_R_black_32 (x_ivV hC k_654 k_651 k_653 kp_18 (show _ ∧ _ ∧ _ = some 0 from by decide +kernel) (x_recv hC hw hc7 rfl) rfl d_R_black_32) (fun rv M8 H locs hq hw => ?_) (fun _ _ _ _ _ h _ _ => h.elim)
    obtain ⟨rfl, ad3, nu3, sg3, hR3, hN3, hS3, h63, hE3, hUf3, h403, hA3, hO3, hC3⟩ := hq
    have e14 : ad3 14 0 = ad 14 0 := hA3 14 0 Nat.zero_lt_one (by decide)
    have hfm3 : ∀ u, u < nu3 7 0 → nu3 9 u < nu3 6 0 := by rw [congrFun (hN3 7 (by decide)) 0]; exact uf_fm hUf3 (Nat.le_refl _) h63 hfm
    refine W.eq (g2 := F0 m 35 ls [.int (nI (sm (fun u => cnt (mkU nu sg u) 40) (nu 7 0))), .int (nI (sm (fun p => cnt (mkG nu sg p) 40) 4))]) rfl ?_
    refine lv_iadd hx hb d_R_black_35 ?_
    refine x_vi (y := nI ((sm (fun p => cnt (mkG nu sg p) 40) 4) + (sm (fun u => cnt (mkU nu sg u) 40) (nu 7 0)))) (nI_add _ _) ?_
    refine lv_aload_n hx hb d_R_black_36 rfl (lv_at hl 0 rfl) ?_
    refine x_vq (x := .ref (ad 14 0)) (y := .ref (ad3 14 0)) (by rw [e14]) ?_
    have hc9 := hR3.rc
    refine x_callG hC (c_R_cutStores l G M8 (Array.size H) fz ad3 nu nu3 sg sg3 hR3 hN3 hS3 hfm3 h4 h8 hst8 h60 hen hok) k_669 k_1 ⟨Nat.le_of_ble_eq_true rfl, Nat.le_of_ble_eq_true rfl⟩ ⟨Nat.le_of_ble_eq_true rfl, Nat.le_of_ble_eq_true rfl⟩ hw hl.1 (Nat.le_of_ble_eq_true rfl) d_R_black_37 (x_ivV hC k_669 k_666 k_668 kp_20 (show _ ∧ _ ∧ _ = some 0 from by decide +kernel) (x_recv hC hw hc9 rfl) rfl d_R_black_37) (fun rv M10 H locs hq hw => ?_) (fun _ _ _ _ _ h _ _ => h.elim)
    obtain ⟨rfl, nu4, sg4, hR4, hN4, hS4, hQ4, hok4, h604, hC4⟩ := hq
    refine W.eq (g2 := F0 m 40 ls [.int (nI (sm (stoN nu sg) (nu 21 0))), .int (nI ((sm (fun p => cnt (mkG nu sg p) 40) 4) + (sm (fun u => cnt (mkU nu sg u) 40) (nu 7 0))))]) rfl ?_
    refine lv_iadd hx hb d_R_black_40 ?_
    refine x_vi (y := nI (((sm (fun p => cnt (mkG nu sg p) 40) 4) + (sm (fun u => cnt (mkU nu sg u) 40) (nu 7 0))) + (sm (stoN nu sg) (nu 21 0)))) (nI_add _ _) ?_
    have hk : blackK nu sg = 0 := by rw [blackK, kt_f (by omega)]
    have hrB : ∀ k, rng nu4 k = rng nu3 k := rng_eqx hN4 (by decide)
    have hC12 := hC1.trans hC2 (fun a ha => Or.inl ha)
    have hC123 := hC12.trans hC3 (fun a ha => Or.inl ha)
    have hO3b : ∀ a, own ad3 nu3 a → own ad nu a ∨ M a = none := fun a ha => (hO3 a ha).elim Or.inl (fun z => Or.inr (hC12.none z))
    exact x_iret hC hr hw (⟨rfl, hk, ad3, nu4, sg4, hR4, black_P hN3 hS3 h63 hE3 hUf3 hN4 hS4 hQ4, hC123.trans hC4 hO3b, fun a ha => hO3b a (own_eq hrB ha), e14, (by rw [hN4 1 (by decide)]; exact h403), (by rw [hN4 7 (by decide), hN4 9 (by decide), hN4 6 (by decide)]; exact hfm3), h604⟩) (Nat.le_of_ble_eq_true rfl) (Nat.le_of_ble_eq_true rfl) d_R_black_41
  · have c_14 := Nat.not_le.mp ((not_congr (nI_leI (by omega) (by omega))).mp c_14)
    have hk : blackK nu sg = 1 := by rw [blackK, kt_t (by omega)]
    exact x_throw hfl hC hno hw k_392 k_393 k_21 x_str_123 (by decide +kernel) hat_UO d_R_black_17 d_R_black_20 d_R_black_21 d_R_black_23 d_R_black_26 hl.1 (Nat.le_of_ble_eq_true rfl) (Nat.le_of_ble_eq_true rfl) (Nat.le_of_ble_eq_true rfl) (Nat.le_of_ble_eq_true rfl) (⟨hk, rfl, hR1, hC1⟩) (Nat.le_of_ble_eq_true rfl) (Nat.le_of_ble_eq_true rfl)
