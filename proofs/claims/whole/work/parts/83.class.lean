section UF
variable {nu nu1 nu2 nu3 : Nat → Nat → Nat} {sg sg1 sg2 : Nat → Nat → Int32} {ad ad1 ad2 : Nat → Nat → Nat}
theorem uf_fm {f : Nat → Nat} {u n6 : Nat} (hUf : ufP nu sg f u) (hu : u ≤ nu 7 0) (h6 : n6 = nu 6 0 + cnt (newU nu sg) u) (hfm : ∀ v, v < nu 7 0 → nu 9 v < nu 6 0) : ∀ v, v < nu 7 0 → f v < n6 := by
  intro v hv
  by_cases hz : v < u
  · by_cases hh : hasU nu sg v
    · have := (((hUf.1 v hz).1 hh).lt hz).2
      omega
    · rw [(hUf.1 v hz).2 hh]
      have := hfm v hv
      omega
  · rw [hUf.2 v (by omega)]
    have := hfm v hv
    omega
theorem rng_le (h6 : nu 6 0 ≤ nu1 6 0) (hN : eqx [1, 6, 9] nu nu1) {k i : Nat} (hi : i < rng nu k) : i < rng nu1 k := by
  have e : ∀ x, x ∉ [1, 6, 9] → nu1 x 0 = nu x 0 := fun x hx => congrFun (hN x hx) 0
  match k, hi with
  | 0, hi | 1, hi | 10, hi | 11, hi | 12, hi | 13, hi | 14, hi => exact hi
  | 2, hi =>
    have hi : i < 4 + nu 6 0 := hi
    show i < 4 + nu1 6 0
    omega
  | 3, hi =>
    have hi : i < 4 + nu 6 0 := hi
    show i < 4 + nu1 6 0
    omega
  | 4, hi => show i < nu1 7 0; rw [e 7 (by decide)]; exact hi
  | 5, hi => show i < nu1 12 0; rw [e 12 (by decide)]; exact hi
  | 6, hi => show i < nu1 12 0; rw [e 12 (by decide)]; exact hi
  | 7, hi => show i < nu1 15 0; rw [e 15 (by decide)]; exact hi
  | 8, hi => show i < nu1 21 0; rw [e 21 (by decide)]; exact hi
  | 9, hi => show i < nu1 21 0; rw [e 21 (by decide)]; exact hi
  | _ + 15, hi => exact absurd hi (Nat.not_lt_zero _)
theorem usC_next {j : Nat} {mk : Int64} {tw : Option Nat} (hA2 : ∀ k i, i < rng nu1 k → k ≠ 1 → ad2 k i = ad1 k i) (h9 : nu3 9 j = nu1 9 j) (hS : eqx [2, 3, 4, 5] sg1 sg2) (hf : nu1 9 j < nu1 6 0) : usC ad2 nu3 sg2 j mk tw = usC ad1 nu1 sg1 j mk tw := by
  unfold usC
  rw [h9, hS 8 (by decide), hS 10 (by decide), hS 11 (by decide), hA2 2 (4 + nu1 9 j) (Nat.add_lt_add_left hf 4) (by decide)]
/-- the uses' cells when use u has got form c -/
theorem us_put {M1 M2 M3 : xMem} {mks : Nat → Int64} {tws : Nat → Option Nat} {u c n : Nat} (hu : u < n) (hn : n = nu1 7 0) (hU : ∀ j, j < n → M1 (ad1 4 j) = some (usC ad1 nu1 sg1 j (mks j) (tws j))) (h7 : ∀ j, j < n → M2 (ad1 4 j) = M1 (ad1 4 j)) (fr : ∀ b, b ≠ ad1 4 u → M3 b = M2 b) (hne : ∀ j, j < n → j ≠ u → ad1 4 j ≠ ad1 4 u) (em : M3 (ad1 4 u) = some (.inr (5, [.int (sg1 8 u), .int (sg1 10 u), .int (sg1 11 u), .ref (ad2 2 (4 + c)), .long (mks u), va_rf (tws u)])))
    (hA2 : ∀ k i, i < rng nu1 k → k ≠ 1 → ad2 k i = ad1 k i) (h9 : nu3 9 = va_up (nu1 9) u c) (hS : eqx [2, 3, 4, 5] sg1 sg2) (hf : ∀ v, v < n → nu1 9 v < nu1 6 0) : ∀ j, j < n → M3 (ad2 4 j) = some (usC ad2 nu3 sg2 j (mks j) (tws j)) := by
  intro j hj
  rw [hA2 4 j (show j < nu1 7 0 by omega) (by decide)]
  by_cases hz : j = u
  · rw [hz, em]
    unfold usC
    rw [h9, va_up_self, hS 8 (by decide), hS 10 (by decide), hS 11 (by decide)]
  · rw [fr _ (hne j hj hz), h7 j hj, hU j hj, usC_next hA2 (by rw [h9, va_up_ne _ _ hz]) hS (hf j hj)]
end UF
set_option maxHeartbeats 400000 in
set_option maxRecDepth 100000 in
/-- cutUses -/
theorem c_R_cutUses (l : Launch) (G : xT) (M : xMem) (sz : Nat) (fz : Nat) (ad : Nat → Nat → Nat) (nu nuc : Nat → Nat → Nat) (sg sgc : Nat → Nat → Int32) (hR : cRep G M fz ad nuc sgc) (hN0 : eqx [1] nu nuc) (hS0 : eqx [2, 3, 4, 5] sg sgc) (hP : (∀ z, z < 4 → rowCut nu sg nuc sgc (mkG nu sg z) z z) ∧ ∀ z, 4 ≤ z → rowSame nu sg nuc sgc z) (h40c : ∀ r, nuc 1 r ≤ 40) (mks : Nat → Int64) (tws : Nat → Option Nat) (hU0 : ∀ j, j < nu 7 0 → M (ad 4 j) = some (usC ad nuc sgc j (mks j) (tws j))) (hB : ∀ j, j < nu 7 0 → ∀ k, k < 64 → (bitP (mks j) k ↔ mkU nu sg j k)) (hT : ∀ j, j < nu 7 0 → twP nu sg ad j (tws j)) (hcap : nu 6 0 + cnt (newU nu sg) (nu 7 0) ≤ 20) (h20 : nu 6 0 ≤ 20) (h12 : nu 7 0 ≤ 12) (h4 : nu 12 0 ≤ 4) (h8a : nu 15 0 ≤ 8) (h40 : ∀ r, nu 1 r ≤ 40) (h8 : ∀ w, nu 13 w ≤ 8) (hfm : ∀ u, u < nu 7 0 → nu 9 u < nu 6 0) (hlt : ∀ w, w < nu 12 0 → ∀ j, j < nu 13 w → ¬ sg 14 (8 * w + j) = 0) : xMet l G y_R_cutUses (Cond.code y_R_cutUses b_R_cutUses 4 (Option.some Jvm.ClassFile.FieldType.int) :: x_tbl) { frames := 8, cells := 36, slots := 2220, locals := 196 } [.ref (ad 14 0)] M sz (fun u M' => u = some (.int (nI (sm (fun u => cnt (mkU nu sg u) 40) (nu 7 0)))) ∧ ∃ (ad' : Nat → Nat → Nat) (nu' : Nat → Nat → Nat) (sg' : Nat → Nat → Int32), cRep G M' fz ad' nu' sg' ∧ eqx [1, 6, 9] nu nu' ∧ eqx [2, 3, 4, 5] sg sg' ∧ nu' 6 0 = nu 6 0 + cnt (newU nu sg) (nu 7 0) ∧ usP nu sg nu' sg' (nu 7 0) ∧ ufP nu sg (nu' 9) (nu 7 0) ∧ (∀ r, nu' 1 r ≤ 40) ∧ (∀ k i, i < rng nu k → k ≠ 1 → ad' k i = ad k i) ∧ (∀ a, own ad' nu' a → own ad nu a ∨ M a = none) ∧ cFr M M' ad nu) (fun _ _ => False) := by
  refine xMet.of (by decide) (Nat.le_of_ble_eq_true rfl) ?_
  intro p e s m below meth c ls hC hr hnm hno hsz hw hl
  obtain ⟨hx, hb, hown, hts, hK, hml, hlk, hz⟩ := id hC
  have hl : lv_has ls 4 [(0, .ref (ad 14 0))] := hl
  refine lv_iconst (v := nI 0) hx hb d_R_cutUses_0 (by decide) ?_
  refine x_vi (y := nI (sm (fun u => cnt (mkU nu sg u) 40) 0)) (rfl) ?_
  refine lv_istore_n (lv' := [(1, .int (nI (sm (fun u => cnt (mkU nu sg u) 40) 0))), (0, .ref (ad 14 0))]) hx hb d_R_cutUses_1 rfl hl (by decide) rfl (fun ls hl => ?_)
  refine lv_iconst (v := nI 0) hx hb d_R_cutUses_2 (by decide) ?_
  refine lv_istore_n (lv' := [(2, .int (nI 0)), (1, .int (nI (sm (fun u => cnt (mkU nu sg u) 40) 0))), (0, .ref (ad 14 0))]) hx hb d_R_cutUses_3 rfl hl (by decide) rfl (fun ls hl => ?_)
  have HL4 : ∀ (z4 u : Nat) (ad1 : Nat → Nat → Nat) (nu1 : Nat → Nat → Nat) (sg1 : Nat → Nat → Int32), u ≤ nu 7 0 → nu 7 0 + 1 ≤ u + z4 → (eqx [1, 6, 9] nu nu1) → (eqx [2, 3, 4, 5] sg sg1) → (nu1 6 0 = nu 6 0 + cnt (newU nu sg) u) → (usP nu sg nu1 sg1 u) → (ufP nu sg (nu1 9) u) → (∀ r, nu1 1 r ≤ 40) → (∀ k i, i < rng nu k → k ≠ 1 → ad1 k i = ad k i) → (∀ a, own ad1 nu1 a → own ad nu a ∨ M a = none) → ∀ (M1 : xMem), ∀ (H : Heap) (locs : List Loc) (ls : Array Slot), (cRep G M1 fz ad1 nu1 sg1) → (∀ j, j < nu 7 0 → M1 (ad1 4 j) = some (usC ad1 nu1 sg1 j (mks j) (tws j))) → (cFr M M1 ad nu) → xWd G (xA M sz) s.heap M1 H locs → lv_has ls 4 [(0, .ref (ad1 14 0)), (1, .int (nI (sm (fun u => cnt (mkU nu sg u) 40) u))), (2, .int (nI u))] → W p l e { frames := 8, cells := 36, slots := 2220, locals := 196 } s m ([.ref (ad 14 0)] : List Value).toArray below meth c H locs (3 * u) (185 * u) (xMQ below G M sz (fun u M' => u = some (.int (nI (sm (fun u => cnt (mkU nu sg u) 40) (nu 7 0)))) ∧ ∃ (ad' : Nat → Nat → Nat) (nu' : Nat → Nat → Nat) (sg' : Nat → Nat → Int32), cRep G M' fz ad' nu' sg' ∧ eqx [1, 6, 9] nu nu' ∧ eqx [2, 3, 4, 5] sg sg' ∧ nu' 6 0 = nu 6 0 + cnt (newU nu sg) (nu 7 0) ∧ usP nu sg nu' sg' (nu 7 0) ∧ ufP nu sg (nu' 9) (nu 7 0) ∧ (∀ r, nu' 1 r ≤ 40) ∧ (∀ k i, i < rng nu k → k ≠ 1 → ad' k i = ad k i) ∧ (∀ a, own ad' nu' a → own ad nu a ∨ M a = none) ∧ cFr M M' ad nu) (fun _ _ => False) s 36 2220) (F0 m 4 ls []) := by
    intro z4
    induction z4 with
    | zero =>
      intro u ad1 nu1 sg1 h1 h2
      omega
    | succ z4 ih4 =>
      intro u ad1 nu1 sg1 hi4 hz4 hN hS h6 hE hUf h401 hA hO M1 H locs ls  hR1 hU hC9 hw hl
      have e7 : nu1 7 0 = nu 7 0 := congrFun (hN 7 (by decide)) 0
      have hfm1 : ∀ v, v < nu1 7 0 → nu1 9 v < nu1 6 0 := by rw [e7]; exact uf_fm hUf hi4 h6 hfm
      have hcm : cnt (newU nu sg) u ≤ cnt (newU nu sg) (nu 7 0) := cnt_mono _ hi4
      refine lv_iload_n hx hb d_R_cutUses_4 rfl (lv_at hl 2 rfl) ?_
      refine lv_aload_n hx hb d_R_cutUses_5 rfl (lv_at hl 0 rfl) ?_
      have hc1 := hR1.rc
      refine x_get hC hw hc1 rfl 2 (by decide) (hts _ k_178) (fun _ h9 => h9) rfl d_R_cutUses_6 ?_
      obtain ⟨mc2, hc2⟩ := hR1.la (k := 2) (by decide)
      refine x_callG hC (c_size l G M1 (Array.size H) fz ad1 nu1 sg1 hR1 2 (by decide)) k_212 k_4 ⟨Nat.le_of_ble_eq_true rfl, Nat.le_of_ble_eq_true rfl⟩ ⟨(show 3 * u + 0 ≤ 36 by omega), (show 185 * u + 0 ≤ 2220 by omega)⟩ hw hl.1 (Nat.le_of_ble_eq_true rfl) d_R_cutUses_9 (x_ivV hC k_212 k_209 k_210 k_211 (show _ ∧ _ ∧ _ = some 0 from by decide +kernel) (x_recv hC hw hc2 rfl) rfl d_R_cutUses_9) (fun rv M3 H locs hq hw => ?_) (fun _ _ _ _ _ h _ _ => h.elim)
      obtain ⟨rfl, hM⟩ := hq
      subst M3
      refine W.eq (g2 := F0 m 12 ls [.int (nI (nu1 7 0)), .int (nI u)]) rfl ?_
      refine lv_icmp_ge (tgt := 85) hx hb d_R_cutUses_12 (by decide) (fun c_12 => ?_) (fun c_12 => ?_)
      · have c_12 := (nI_leI (by omega) (by omega)).mp c_12
        refine lv_iload_n hx hb d_R_cutUses_85 rfl (lv_at hl 1 rfl) ?_
        have hke : u = nu 7 0 := by omega
        subst hke
        exact x_iret hC hr hw (⟨rfl, ad1, nu1, sg1, hR1, hN, hS, h6, hE, hUf, h401, hA, hO, hC9⟩) (show 3 * nu 7 0 + 0 ≤ 36 by omega) (show 185 * nu 7 0 + 0 ≤ 2220 by omega) d_R_cutUses_86
      · have c_12 := Nat.not_le.mp ((not_congr (nI_leI (by omega) (by omega))).mp c_12)
        refine lv_aload_n hx hb d_R_cutUses_15 rfl (lv_at hl 0 rfl) ?_
        refine x_get hC hw hc1 rfl 2 (by decide) (hts _ k_178) (fun _ h9 => h9) rfl d_R_cutUses_16 ?_
        refine lv_iload_n hx hb d_R_cutUses_19 rfl (lv_at hl 2 rfl) ?_
        refine x_callG hC (c_get l G M1 (Array.size H) fz ad1 nu1 sg1 hR1 2 (by decide) (u) (show u < nu1 7 0 by omega)) k_216 k_4 ⟨Nat.le_of_ble_eq_true rfl, Nat.le_of_ble_eq_true rfl⟩ ⟨(show 3 * u + 0 ≤ 36 by omega), (show 185 * u + 0 ≤ 2220 by omega)⟩ hw hl.1 (Nat.le_of_ble_eq_true rfl) d_R_cutUses_20 (x_ivV hC k_216 k_213 k_214 k_215 (show _ ∧ _ ∧ _ = some 1 from by decide +kernel) (x_recv hC hw hc2 rfl) rfl d_R_cutUses_20) (fun rv M4 H locs hq hw => ?_) (fun _ _ _ _ _ h _ _ => h.elim)
        obtain ⟨rfl, hM⟩ := hq
        subst M4
        refine W.eq (g2 := F0 m 23 ls [.ref (ad1 4 u)]) rfl ?_
        have e9 := hUf.2 u (Nat.le_refl u)
        have hfu := hfm u (by omega)
        have hmq := hB u (by omega)
        have hu7 : u < nu 7 0 := by omega
        have h_u := hU u hu7
        unfold usC at h_u
        rw [e9] at h_u
        refine x_cast hC hw h_u rfl (hts _ k_256) d_R_cutUses_23 ?_
        refine lv_astore_n (lv' := [(3, .ref (ad1 4 u)), (0, .ref (ad1 14 0)), (1, .int (nI (sm (fun u => cnt (mkU nu sg u) 40) u))), (2, .int (nI u))]) hx hb d_R_cutUses_26 rfl hl (by decide) rfl (fun ls hl => ?_)
        refine lv_aload_n hx hb d_R_cutUses_27 rfl (lv_at hl 0 rfl) ?_
        refine x_get hC hw h_u rfl 4 (by decide) (hts _ k_454) (fun _ h9 => h9) rfl d_R_cutUses_28 ?_
        refine lv_lconst (v := 0) hx hb d_R_cutUses_31 (by decide) ?_
        refine W.lcmp hx hb d_R_cutUses_32 ?_
        refine lv_if_eq (tgt := 79) hx hb d_R_cutUses_33 (by decide) (fun c_33 => ?_) (fun c_33 => ?_)
        · have c_33 := x_lcmp.mp c_33
          have hnh := tw_no h40 hmq c_33
          have hsm : sm (fun u => cnt (mkU nu sg u) 40) (u + 1) = sm (fun u => cnt (mkU nu sg u) 40) u := by show _ + cnt (mkU nu sg u) 40 = _; rw [cnt_0 (fun k hk z => hnh ⟨k, hk, z⟩), Nat.add_zero]
          have hl : lv_has ls 4 [(3, .ref (ad1 4 u)), (0, .ref (ad1 14 0)), (1, .int (nI (sm (fun u => cnt (mkU nu sg u) 40) (u + 1)))), (2, .int (nI u))] := by rw [hsm]; exact hl
          refine lv_iinc (v := nI (u + 1)) (lv' := [(2, .int (nI (u + 1))), (3, .ref (ad1 4 u)), (0, .ref (ad1 14 0)), (1, .int (nI (sm (fun u => cnt (mkU nu sg u) 40) (u + 1))))]) hx hb d_R_cutUses_79 hl (k := 3) rfl (by exact nI_1 _) (by decide) rfl (fun ls hl => ?_)
          refine lv_goto (tgt := 4) hx hb d_R_cutUses_82 (by decide) ?_
          exact W.widen (show 3 * u + 0 ≤ 3 * (u + 1) by omega) (show 185 * u + 0 ≤ 185 * (u + 1) by omega) (ih4 (u + 1) (ad1) (nu1) (sg1) (by omega) (by omega) (hN) (hS) (by rw [cnt_f (fun z => hnh z.1)]; exact h6) (x_usNo hE hnh) (x_ufS hUf hnh) (h401) (hA) (hO) _ _ _ _ (hR1) (hU) (hC9) hw (lv_sub hl [2, 3, 0] rfl))
        · have c_33 := x_lcmpN.mp c_33
          refine lv_aload_n hx hb d_R_cutUses_36 rfl (lv_at hl 0 rfl) ?_
          refine lv_aload_n hx hb d_R_cutUses_37 rfl (lv_at hl 0 rfl) ?_
          refine x_get hC hw h_u rfl 5 (by decide) (hts _ k_455) (fun _ h9 => h9) rfl d_R_cutUses_38 ?_
          have hyu : hasU nu sg u := (any64 (Q := mkU nu sg u) (h40 (4 + nu 9 u)) hmq (fun k z => z.1)).mp c_33
          have htw := hT u hu7
          refine x_aloadQ_n (n := 0) hx hb (tws u) rfl (fun et => ?_) (fun y et => ?_)
          · have hnew := tw_new h40 hmq htw c_33 et
            have hcn : cnt (newU nu sg) (u + 1) = cnt (newU nu sg) u + 1 := cnt_t hnew
            have hcm2 : cnt (newU nu sg) (u + 1) ≤ cnt (newU nu sg) (nu 7 0) := cnt_mono _ hu7
            have hcf : CFp nu sg u (nu1 6 0) := by rw [h6]; exact CFp.self hnew
            refine lv_ifnonnullN hx hb d_R_cutUses_41 ?_
            refine lv_aload_n hx hb d_R_cutUses_44 rfl (lv_at hl 1 rfl) ?_
            refine lv_aload_n hx hb d_R_cutUses_45 rfl (lv_at hl 0 rfl) ?_
            refine x_get hC hw h_u rfl 3 (by decide) (hts _ k_453) (fun _ h9 => h9) rfl d_R_cutUses_46 ?_
            refine lv_aload_n hx hb d_R_cutUses_49 rfl (lv_at hl 0 rfl) ?_
            refine x_get hC hw h_u rfl 4 (by decide) (hts _ k_454) (fun _ h9 => h9) rfl d_R_cutUses_50 ?_
            have hC9o := hC9
            have hc5 := hR1.rc
            refine x_callG hC (c_R_addCutCopy l G M1 (Array.size H) fz ad1 nu1 sg1 hR1 (4 + nu 9 u) (mks u) (mkU nu sg u) hmq (by omega) (by omega) h401 hfm1) k_658 k_1 ⟨Nat.le_of_ble_eq_true rfl, Nat.le_of_ble_eq_true rfl⟩ ⟨(show 3 * u + 3 ≤ 36 by omega), (show 185 * u + 185 ≤ 2220 by omega)⟩ hw hl.1 (Nat.le_of_ble_eq_true rfl) d_R_cutUses_53 (x_ivV hC k_658 k_655 k_657 kp_19 (show _ ∧ _ ∧ _ = some 2 from by decide +kernel) (x_recv hC hw hc5 rfl) rfl d_R_cutUses_53) (fun rv M6 H locs hq hw => ?_) (fun _ _ _ _ _ h _ _ => h.elim)
            obtain ⟨ad2, nu2, sg2, rfl, b1, b2, b3, b4, b5, b6, b7, b8, b9, b10⟩ := hq
            have h_u := (b7 u (by omega)).trans h_u
            have hC9 := hC9.trans b8 hO
            refine W.eq (g2 := F0 m 56 ls [.ref (ad2 2 (4 + nu1 6 0)), .ref (ad1 4 u)]) rfl ?_
            refine lv_goto (tgt := 66) hx hb d_R_cutUses_56 (by decide) ?_
            refine x_put (ty := .object "RedactCheck$SignRow") hC hw h_u rfl 3 (by decide) (hts _ k_453) (fun _ h9 => h9) rfl (by decide +kernel) rfl rfl (Nat.le_of_ble_eq_true rfl) d_R_cutUses_66 (fun M7 H locs em fr hw => ?_)
            have em : M7 (ad1 4 u) = some (.inr (5, [.int (sg1 8 u), .int (sg1 10 u), .int (sg1 11 u), .ref (ad2 2 (4 + nu1 6 0)), .long (mks u), va_rf (tws u)])) := em
            have h_u := em
            have e4u : ad2 4 u = ad1 4 u := b6 4 u (show u < nu1 7 0 by omega) (by decide)
            have e14 : ad2 14 0 = ad1 14 0 := b6 14 0 Nat.zero_lt_one (by decide)
            have hfm2 : ∀ v, v < nu2 7 0 → nu2 9 v < nu2 6 0 := by rw [b2 7 (by decide), b2 9 (by decide), b4]; exact fun v hv => Nat.lt_succ_of_lt (hfm1 v hv)
            have hR3 := b1.useU (x_fz0 hC hw b1.2.1.1) hfm2 (u := u) (c := nu1 6 0) (mk := mks u) (tw := tws u) (by rw [b2 7 (by decide)]; omega) (by rw [e4u]; exact fr) (by rw [e4u, b3 8 (by decide), b3 10 (by decide), b3 11 (by decide)]; exact em)
            have hU3 := us_put (nu3 := va_up nu2 9 (va_up (nu2 9) u (nu1 6 0))) (sg2 := sg2) (ad2 := ad2) (c := nu1 6 0) hu7 e7.symm hU (fun j hj => b7 j (by omega)) fr (fun j hj hju => hR1.neI (k := 4) (i := j) (j := u) (show j < nu1 7 0 by omega) (show u < nu1 7 0 by omega) (by decide) hju) em b6 (by rw [va_up_self, b2 9 (by decide)]) b3 (by rw [← e7]; exact hfm1)
            have hN3 : eqx [1, 6, 9] nu (va_up nu2 9 (va_up (nu2 9) u (nu1 6 0))) := (hN.trans b2 (fun _ h => h) (by decide) : eqx [1, 6, 9] nu nu2).trans (eqx.up nu2 9 _) (fun _ h => h) (by decide)
            have hO3 : ∀ a, own ad2 (va_up nu2 9 (va_up (nu2 9) u (nu1 6 0))) a → own ad nu a ∨ M a = none := fun a ha => (b9 a (own_eq (rng_eqx (eqx.up nu2 9 _) (by decide)) ha)).elim (hO a) (fun z => Or.inr (hC9o.none z))
            have hC9 := hC9.trans (cFr.of (ad := ad) (nu := nu) (xfr.rf.put em fr (Or.inl (List.mem_singleton.mpr rfl)) : xfr _ _ [ad1 4 u]) (by intro z hz; rw [List.mem_singleton.mp hz, hA 4 u hu7 (by decide)]; exact Or.inl ⟨4, u, hu7, rfl⟩)) (fun a ha => Or.inl ha)
            have hl : lv_has ls 4 [(3, .ref (ad1 4 u)), (0, .ref (ad2 14 0)), (1, .int (nI (sm (fun u => cnt (mkU nu sg u) 40) u))), (2, .int (nI u))] := by rw [e14]; exact hl
            refine lv_iload_n hx hb d_R_cutUses_69 rfl (lv_at hl 2 rfl) ?_
            refine lv_aload_n hx hb d_R_cutUses_70 rfl (lv_at hl 0 rfl) ?_
            refine x_get hC hw h_u rfl 4 (by decide) (hts _ k_454) (fun _ h9 => h9) rfl d_R_cutUses_71 ?_
            refine x_callG hC (c_bitCount l G M7 (Array.size H) (mks u)) k_647 k_26 ⟨Nat.le_of_ble_eq_true rfl, Nat.le_of_ble_eq_true rfl⟩ ⟨(show 3 * u + 3 ≤ 36 by omega), (show 185 * u + 185 ≤ 2220 by omega)⟩ hw hl.1 (Nat.le_of_ble_eq_true rfl) d_R_cutUses_74 (x_ivS hC k_647 k_645 k_646 k_26 (show _ ∧ _ ∧ _ = some 1 from by decide +kernel) rfl d_R_cutUses_74) (fun rv M8 H locs hq hw => ?_) (fun _ _ _ _ _ h _ _ => h.elim)
            obtain ⟨rfl, hM⟩ := hq
            subst M8
            refine W.eq (g2 := F0 m 77 ls [.int (nI (cnt (bitP (mks u)) 64)), .int (nI (sm (fun u => cnt (mkU nu sg u) 40) u))]) rfl ?_
            refine x_vi (y := nI (cnt (mkU nu sg u) 40)) (congrArg nI (cnt64 (h40 (4 + nu 9 u)) hmq (fun k z => z.1))) ?_
            refine lv_iadd hx hb d_R_cutUses_77 ?_
            refine x_vi (y := nI ((sm (fun u => cnt (mkU nu sg u) 40) u) + (cnt (mkU nu sg u) 40))) (nI_add _ _) ?_
            refine x_vi (y := nI (sm (fun u => cnt (mkU nu sg u) 40) (u + 1))) (rfl) ?_
            refine lv_istore_n (lv' := [(1, .int (nI (sm (fun u => cnt (mkU nu sg u) 40) (u + 1)))), (3, .ref (ad1 4 u)), (0, .ref (ad2 14 0)), (2, .int (nI u))]) hx hb d_R_cutUses_78 rfl hl (by decide) rfl (fun ls hl => ?_)
            refine lv_iinc (v := nI (u + 1)) (lv' := [(2, .int (nI (u + 1))), (1, .int (nI (sm (fun u => cnt (mkU nu sg u) 40) (u + 1)))), (3, .ref (ad1 4 u)), (0, .ref (ad2 14 0))]) hx hb d_R_cutUses_79 hl (k := 3) rfl (by exact nI_1 _) (by decide) rfl (fun ls hl => ?_)
            refine lv_goto (tgt := 4) hx hb d_R_cutUses_82 (by decide) ?_
            exact W.widen (show 3 * u + 3 ≤ 3 * (u + 1) by omega) (show 185 * u + 185 ≤ 185 * (u + 1) by omega) (ih4 (u + 1) (ad2) (va_up nu2 9 (va_up (nu2 9) u (nu1 6 0))) (sg2) (by omega) (by omega) (hN3) (hS.trans b3 (fun _ h => h) (fun _ h => h)) (by rw [va_up_ne _ _ (by decide), b4, h6, hcn]; omega) (usP_n (x_usY hE hu7 hfu hfm hcf b5 h40) (va_up_ne _ _ (by decide))) (x_ufY hUf hyu hcf (by rw [va_up_self, b2 9 (by decide)])) (by rw [va_up_ne _ _ (by decide)]; exact b10) (fun k i hi hk => (b6 k i (rng_le (by omega) hN hi) hk).trans (hA k i hi hk)) (hO3) _ _ _ _ (hR3) (hU3) (hC9) hw (lv_sub hl [3, 1, 0] rfl))
          · have hnn := tw_old (mk := mks u) htw et
            obtain ⟨w, hwu, htw2, hal⟩ : ∃ w, w < u ∧ tws u = some (ad 4 w) ∧ alk nu sg u w := by rcases htw with ⟨z, _⟩ | ⟨w, z1, z2, z3, _⟩; (rw [z] at et; cases et); exact ⟨w, z1, z2, z3⟩
            have hcw := (hUf.1 w hwu).1 (hal.has hyu)
            have h4w : ad1 4 w = ad 4 w := hA 4 w (show w < nu 7 0 by omega) (by decide)
            have h_w := hU w (by omega)
            unfold usC at h_w
            refine lv_ifnonnull (tgt := 59) hx hb d_R_cutUses_41 (by decide) ?_
            refine lv_aload_n hx hb d_R_cutUses_59 rfl (lv_at hl 0 rfl) ?_
            refine x_get hC hw h_u rfl 5 (by decide) (hts _ k_455) (fun _ h9 => h9) rfl d_R_cutUses_60 ?_
            refine x_vq (x := va_rf (tws u)) (y := .ref (ad1 4 w)) (by rw [htw2, h4w]; rfl) ?_
            refine x_get hC hw h_w rfl 3 (by decide) (hts _ k_453) (fun _ h9 => h9) rfl d_R_cutUses_63 ?_
            refine x_put (ty := .object "RedactCheck$SignRow") hC hw h_u rfl 3 (by decide) (hts _ k_453) (fun _ h9 => h9) rfl (by decide +kernel) rfl rfl (Nat.le_of_ble_eq_true rfl) d_R_cutUses_66 (fun M9 H locs em fr hw => ?_)
            have em : M9 (ad1 4 u) = some (.inr (5, [.int (sg1 8 u), .int (sg1 10 u), .int (sg1 11 u), .ref (ad1 2 (4 + nu1 9 w)), .long (mks u), va_rf (tws u)])) := em
            have h_u := em
            have hR3 := hR1.useU (x_fz0 hC hw hR1.2.1.1) hfm1 (u := u) (c := nu1 9 w) (mk := mks u) (tw := tws u) (by omega) fr em
            have hU3 := us_put (nu3 := va_up nu1 9 (va_up (nu1 9) u (nu1 9 w))) (sg2 := sg1) (ad2 := ad1) (c := nu1 9 w) hu7 e7.symm hU (fun _ _ => rfl) fr (fun j hj hju => hR1.neI (k := 4) (i := j) (j := u) (show j < nu1 7 0 by omega) (show u < nu1 7 0 by omega) (by decide) hju) em (fun _ _ _ _ => rfl) (va_up_self _ _ _) eqx.rf (by rw [← e7]; exact hfm1)
            have hN3 : eqx [1, 6, 9] nu (va_up nu1 9 (va_up (nu1 9) u (nu1 9 w))) := hN.trans (eqx.up nu1 9 _) (fun _ h => h) (by decide)
            have hO3 : ∀ a, own ad1 (va_up nu1 9 (va_up (nu1 9) u (nu1 9 w))) a → own ad nu a ∨ M a = none := fun a ha => hO a (own_eq (rng_eqx (eqx.up nu1 9 _) (by decide)) ha)
            have hC9 := hC9.trans (cFr.of (ad := ad) (nu := nu) (xfr.rf.put em fr (Or.inl (List.mem_singleton.mpr rfl)) : xfr _ _ [ad1 4 u]) (by intro z hz; rw [List.mem_singleton.mp hz, hA 4 u hu7 (by decide)]; exact Or.inl ⟨4, u, hu7, rfl⟩)) (fun a ha => Or.inl ha)
            refine lv_iload_n hx hb d_R_cutUses_69 rfl (lv_at hl 2 rfl) ?_
            refine lv_aload_n hx hb d_R_cutUses_70 rfl (lv_at hl 0 rfl) ?_
            refine x_get hC hw h_u rfl 4 (by decide) (hts _ k_454) (fun _ h9 => h9) rfl d_R_cutUses_71 ?_
            refine x_callG hC (c_bitCount l G M9 (Array.size H) (mks u)) k_647 k_26 ⟨Nat.le_of_ble_eq_true rfl, Nat.le_of_ble_eq_true rfl⟩ ⟨(show 3 * u + 0 ≤ 36 by omega), (show 185 * u + 0 ≤ 2220 by omega)⟩ hw hl.1 (Nat.le_of_ble_eq_true rfl) d_R_cutUses_74 (x_ivS hC k_647 k_645 k_646 k_26 (show _ ∧ _ ∧ _ = some 1 from by decide +kernel) rfl d_R_cutUses_74) (fun rv M10 H locs hq hw => ?_) (fun _ _ _ _ _ h _ _ => h.elim)
            obtain ⟨rfl, hM⟩ := hq
            subst M10
            refine W.eq (g2 := F0 m 77 ls [.int (nI (cnt (bitP (mks u)) 64)), .int (nI (sm (fun u => cnt (mkU nu sg u) 40) u))]) rfl ?_
            refine x_vi (y := nI (cnt (mkU nu sg u) 40)) (congrArg nI (cnt64 (h40 (4 + nu 9 u)) hmq (fun k z => z.1))) ?_
            refine lv_iadd hx hb d_R_cutUses_77 ?_
            refine x_vi (y := nI ((sm (fun u => cnt (mkU nu sg u) 40) u) + (cnt (mkU nu sg u) 40))) (nI_add _ _) ?_
            refine x_vi (y := nI (sm (fun u => cnt (mkU nu sg u) 40) (u + 1))) (rfl) ?_
            refine lv_istore_n (lv' := [(1, .int (nI (sm (fun u => cnt (mkU nu sg u) 40) (u + 1)))), (3, .ref (ad1 4 u)), (0, .ref (ad1 14 0)), (2, .int (nI u))]) hx hb d_R_cutUses_78 rfl hl (by decide) rfl (fun ls hl => ?_)
            refine lv_iinc (v := nI (u + 1)) (lv' := [(2, .int (nI (u + 1))), (1, .int (nI (sm (fun u => cnt (mkU nu sg u) 40) (u + 1)))), (3, .ref (ad1 4 u)), (0, .ref (ad1 14 0))]) hx hb d_R_cutUses_79 hl (k := 3) rfl (by exact nI_1 _) (by decide) rfl (fun ls hl => ?_)
            refine lv_goto (tgt := 4) hx hb d_R_cutUses_82 (by decide) ?_
            exact W.widen (show 3 * u + 0 ≤ 3 * (u + 1) by omega) (show 185 * u + 0 ≤ 185 * (u + 1) by omega) (ih4 (u + 1) (ad1) (va_up nu1 9 (va_up (nu1 9) u (nu1 9 w))) (sg1) (by omega) (by omega) (hN3) (hS) (by rw [va_up_ne _ _ (by decide), h6, cnt_f hnn]) (usP_n (x_usT hE hwu hal hcw hyu h40) (va_up_ne _ _ (by decide))) (x_ufY hUf hyu (hcw.ofA (Nat.le_of_lt hwu) hal) (va_up_self _ _ _)) (by rw [va_up_ne _ _ (by decide)]; exact h401) (hA) (hO3) _ _ _ _ (hR3) (hU3) (hC9) hw (lv_sub hl [3, 1, 0] rfl))
  exact W.widen (show 0 ≤ 3 * (0) by omega) (show 0 ≤ 185 * (0) by omega) (HL4 (nu 7 0 + 1) (0) (ad) (nuc) (sgc) (by omega) (by omega) ((hN0.wide (by decide))) (hS0) (congrFun (hN0 6 (by decide)) 0) (⟨hP.1, fun f hf => hP.2 _ (by omega), fun w hw => absurd hw (Nat.not_lt_zero w), fun z hz => (hP.2 z (by omega)).1⟩) (by rw [hN0 9 (by decide)]; exact ⟨fun w hw => absurd hw (Nat.not_lt_zero w), fun _ _ => rfl⟩) (h40c) (fun _ _ _ _ => rfl) (fun a ha => Or.inl (own_eq (rng_eqx hN0 (by decide)) ha)) _ _ _ _ (hR) (hU0) (cFr.rf) hw (lv_sub hl [2, 1, 0] rfl))
