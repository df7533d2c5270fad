set_option maxHeartbeats 1000000 in
set_option maxRecDepth 100000 in
/-- look -/
theorem c_M_look (l : Launch) (G : xT) (M : xMem) (sz : Nat) (md : Nat) (am : Nat → Nat) (nu : Nat → Nat → Nat) (sg : Nat → Nat → Int32) (hR : mRep G M md am nu sg) (h4 : nu 12 0 ≤ 4) (h8 : ∀ w, nu 13 w ≤ 8) (h40 : ∀ r, nu 1 r ≤ 40) (h60 : ∀ t, nu 23 t ≤ 60) (h12 : nu 7 0 ≤ 12) (h20 : nu 6 0 ≤ 20) (hst8 : nu 21 0 ≤ 8) (hfm : ∀ u, u < nu 7 0 → nu 9 u < nu 6 0) : xMet l G y_M_look (Cond.code y_M_look b_M_look 3 (Option.some Jvm.ClassFile.FieldType.int) :: x_tbl) { frames := 3, cells := 0, slots := 0, locals := 76 } [.ref md] M sz (fun v M' => v = some (.int (nI (lkF nu sg).1)) ∧ ∃ (nu' : Nat → Nat → Nat) (sg' : Nat → Nat → Int32), mRep G M' md am nu' sg' ∧ eqx [0, 25, 29] nu nu' ∧ eqx [26, 30] sg sg' ∧ xfr M M' (mS md am) ∧ nu' 0 0 = 0 ∧ nu' 25 0 = (lkF nu sg).1 ∧ sg' 26 = (lkF nu sg).2) (fun _ _ => False) := by
  refine xMet.of (by decide) (Nat.le_of_ble_eq_true rfl) ?_
  intro p e s m below meth c ls hC hr hnm hno hsz hw hl
  obtain ⟨hx, hb, hown, hts, hK, hml, hlk, hz⟩ := id hC
  have hl : lv_has ls 3 [(0, .ref md)] := hl
  have hF : xfr M M (mS md am) := xfr.rf
  refine lv_aload_n hx hb d_M_look_0 rfl (lv_at hl 0 rfl) ?_
  refine lv_iconst (v := nI 0) hx hb d_M_look_1 (by decide) ?_
  refine m_put hC hw hR hF 0 0 rfl (by decide) (hts _ k_734) (fun _ h9 => h9) rfl (by decide +kernel) rfl rfl d_M_look_2 (fun M2 H locs nu1 hnu1 enu1 hR hF hw => ?_)
  refine lv_aload_n hx hb d_M_look_5 rfl (lv_at hl 0 rfl) ?_
  refine lv_iconst (v := nI 0) hx hb d_M_look_6 (by decide) ?_
  refine m_put hC hw hR hF 25 0 rfl (by decide) (hts _ k_759) (fun _ h9 => h9) rfl (by decide +kernel) rfl rfl d_M_look_7 (fun M4 H locs nu3 hnu3 enu3 hR hF hw => ?_)
  refine lv_iconst (v := nI 0) hx hb d_M_look_10 (by decide) ?_
  refine lv_istore_n (lv' := [(1, .int (nI 0)), (0, .ref md)]) hx hb d_M_look_11 rfl hl (by decide) rfl (fun ls hl => ?_)
  have HL12 : ∀ (z12 q : Nat) (nuL5 : Nat → Nat → Nat) (sgL6 : Nat → Nat → Int32), q ≤ 4 → 4 + 1 ≤ q + z12 → (nuL5 25 0 = (lkR nu sg (nI 0) (fun i => i) q (0, sg 26)).1) → (sgL6 26 = (lkR nu sg (nI 0) (fun i => i) q (0, sg 26)).2) → ∀ (M1 : xMem), mRep G M1 md am nuL5 sgL6 → eqx [25, 29] nu3 nuL5 → eqx [26, 30] sg sgL6 → xfr M M1 (mS md am) → ∀ (H : Heap) (locs : List Loc) (ls : Array Slot), xWd G (xA M sz) s.heap M1 H locs → lv_has ls 3 [(0, .ref md), (1, .int (nI q))] → W p l e { frames := 3, cells := 0, slots := 0, locals := 76 } s m ([.ref md] : List Value).toArray below meth c H locs 0 0 (xMQ below G M sz (fun v M' => v = some (.int (nI (lkF nu sg).1)) ∧ ∃ (nu' : Nat → Nat → Nat) (sg' : Nat → Nat → Int32), mRep G M' md am nu' sg' ∧ eqx [0, 25, 29] nu nu' ∧ eqx [26, 30] sg sg' ∧ xfr M M' (mS md am) ∧ nu' 0 0 = 0 ∧ nu' 25 0 = (lkF nu sg).1 ∧ sg' 26 = (lkF nu sg).2) (fun _ _ => False) s 0 0) (F0 m 12 ls []) := by
    intro z12
    induction z12 with
    | zero =>
      intro q  nuL5 sgL6 h1 h2
      omega
    | succ z12 ih12 =>
      intro q  nuL5 sgL6 hi12 hz12 h25 h26 M1 hR hnuL5 hsgL6 hF H locs ls hw hl
      have hX100 : (lkR nu sg (nI 0) (fun i => i) q (0, sg 26)).1 ≤ 100 := lkR_le (Nat.zero_le _)
      refine lv_iload_n hx hb d_M_look_12 rfl (lv_at hl 1 rfl) ?_
      refine lv_iconst (v := nI 4) hx hb d_M_look_13 (by decide) ?_
      refine lv_icmp_ge (tgt := 35) hx hb d_M_look_14 (by decide) (fun c_14 => ?_) (fun c_14 => ?_)
      · have c_14 := (nI_leI (by omega) (by omega)).mp c_14
        have hke : q = 4 := by omega
        subst hke
        have h25q := h25
        have h26q := h26
        refine lv_iconst (v := nI 0) hx hb d_M_look_35 (by decide) ?_
        refine lv_istore_n (lv' := [(1, .int (nI 0)), (0, .ref md)]) hx hb d_M_look_36 rfl hl (by decide) rfl (fun ls hl => ?_)
        have HL37 : ∀ (z37 u : Nat) (nuL7 : Nat → Nat → Nat) (sgL8 : Nat → Nat → Int32), u ≤ nu 7 0 → nu 7 0 + 1 ≤ u + z37 → (nuL7 25 0 = (lkR nu sg (nI 1) (fun u => 4 + nu 9 u) u (lkR nu sg (nI 0) (fun i => i) 4 (0, sg 26))).1) → (sgL8 26 = (lkR nu sg (nI 1) (fun u => 4 + nu 9 u) u (lkR nu sg (nI 0) (fun i => i) 4 (0, sg 26))).2) → ∀ (M1 : xMem), mRep G M1 md am nuL7 sgL8 → eqx [25, 29] nuL5 nuL7 → eqx [26, 30] sgL6 sgL8 → xfr M M1 (mS md am) → ∀ (H : Heap) (locs : List Loc) (ls : Array Slot), xWd G (xA M sz) s.heap M1 H locs → lv_has ls 3 [(0, .ref md), (1, .int (nI u))] → W p l e { frames := 3, cells := 0, slots := 0, locals := 76 } s m ([.ref md] : List Value).toArray below meth c H locs 0 0 (xMQ below G M sz (fun v M' => v = some (.int (nI (lkF nu sg).1)) ∧ ∃ (nu' : Nat → Nat → Nat) (sg' : Nat → Nat → Int32), mRep G M' md am nu' sg' ∧ eqx [0, 25, 29] nu nu' ∧ eqx [26, 30] sg sg' ∧ xfr M M' (mS md am) ∧ nu' 0 0 = 0 ∧ nu' 25 0 = (lkF nu sg).1 ∧ sg' 26 = (lkF nu sg).2) (fun _ _ => False) s 0 0) (F0 m 37 ls []) := by
          intro z37
          induction z37 with
          | zero =>
            intro u  nuL7 sgL8 h1 h2
            omega
          | succ z37 ih37 =>
            intro u  nuL7 sgL8 hi37 hz37 h25 h26 M1 hR hnuL7 hsgL8 hF H locs ls hw hl
            have hX100 : (lkR nu sg (nI 1) (fun u => 4 + nu 9 u) u (lkR nu sg (nI 0) (fun i => i) 4 (0, sg 26))).1 ≤ 100 := lkR_le (lkR_le (Nat.zero_le _))
            refine lv_iload_n hx hb d_M_look_37 rfl (lv_at hl 1 rfl) ?_
            refine lv_aload_n hx hb d_M_look_38 rfl (lv_at hl 0 rfl) ?_
            refine x_get hC hw hR.1 rfl 7 (by decide) (hts _ k_741) (fun _ h9 => h9) rfl d_M_look_39 ?_
            refine x_vi (y := nI (nu 7 0)) (by rw [hnuL7 7 (by decide), hnuL5 7 (by decide), hnu3 7 (by decide), hnu1 7 (by decide)]) ?_
            refine lv_icmp_ge (tgt := 70) hx hb d_M_look_42 (by decide) (fun c_42 => ?_) (fun c_42 => ?_)
            · have c_42 := (nI_leI (by omega) (by omega)).mp c_42
              have hke : u = nu 7 0 := by omega
              subst hke
              have h25q := h25
              have h26q := h26
              refine lv_iconst (v := nI 0) hx hb d_M_look_70 (by decide) ?_
              refine lv_istore_n (lv' := [(1, .int (nI 0)), (0, .ref md)]) hx hb d_M_look_71 rfl hl (by decide) rfl (fun ls hl => ?_)
              have HL72 : ∀ (z72 t : Nat) (nuL9 : Nat → Nat → Nat) (sgL10 : Nat → Nat → Int32), t ≤ nu 21 0 → nu 21 0 + 1 ≤ t + z72 → (nuL9 25 0 = (lkS nu sg t (lkR nu sg (nI 1) (fun u => 4 + nu 9 u) (nu 7 0) (lkR nu sg (nI 0) (fun i => i) 4 (0, sg 26)))).1) → (sgL10 26 = (lkS nu sg t (lkR nu sg (nI 1) (fun u => 4 + nu 9 u) (nu 7 0) (lkR nu sg (nI 0) (fun i => i) 4 (0, sg 26)))).2) → ∀ (M1 : xMem), mRep G M1 md am nuL9 sgL10 → eqx [25, 29] nuL7 nuL9 → eqx [26, 30] sgL8 sgL10 → xfr M M1 (mS md am) → ∀ (H : Heap) (locs : List Loc) (ls : Array Slot), xWd G (xA M sz) s.heap M1 H locs → lv_has ls 3 [(0, .ref md), (1, .int (nI t))] → W p l e { frames := 3, cells := 0, slots := 0, locals := 76 } s m ([.ref md] : List Value).toArray below meth c H locs 0 0 (xMQ below G M sz (fun v M' => v = some (.int (nI (lkF nu sg).1)) ∧ ∃ (nu' : Nat → Nat → Nat) (sg' : Nat → Nat → Int32), mRep G M' md am nu' sg' ∧ eqx [0, 25, 29] nu nu' ∧ eqx [26, 30] sg sg' ∧ xfr M M' (mS md am) ∧ nu' 0 0 = 0 ∧ nu' 25 0 = (lkF nu sg).1 ∧ sg' 26 = (lkF nu sg).2) (fun _ _ => False) s 0 0) (F0 m 72 ls []) := by
                intro z72
                induction z72 with
                | zero =>
                  intro t  nuL9 sgL10 h1 h2
                  omega
                | succ z72 ih72 =>
                  intro t  nuL9 sgL10 hi72 hz72 h25 h26 M1 hR hnuL9 hsgL10 hF H locs ls hw hl
                  have hXt : (lkS nu sg t (lkR nu sg (nI 1) (fun u => 4 + nu 9 u) (nu 7 0) (lkR nu sg (nI 0) (fun i => i) 4 (0, sg 26)))).1 ≤ 100 := lkS_le (lkR_le (lkR_le (Nat.zero_le _)))
                  have h60t := h60 t
                  refine lv_iload_n hx hb d_M_look_72 rfl (lv_at hl 1 rfl) ?_
                  refine lv_aload_n hx hb d_M_look_73 rfl (lv_at hl 0 rfl) ?_
                  refine x_get hC hw hR.1 rfl 21 (by decide) (hts _ k_755) (fun _ h9 => h9) rfl d_M_look_74 ?_
                  refine x_vi (y := nI (nu 21 0)) (by rw [hnuL9 21 (by decide), hnuL7 21 (by decide), hnuL5 21 (by decide), hnu3 21 (by decide), hnu1 21 (by decide)]) ?_
                  refine lv_icmp_ge (tgt := 115) hx hb d_M_look_77 (by decide) (fun c_77 => ?_) (fun c_77 => ?_)
                  · have c_77 := (nI_leI (by omega) (by omega)).mp c_77
                    have hke : t = nu 21 0 := by omega
                    subst hke
                    refine lv_aload_n hx hb d_M_look_115 rfl (lv_at hl 0 rfl) ?_
                    refine x_get hC hw hR.1 rfl 25 (by decide) (hts _ k_759) (fun _ h9 => h9) rfl d_M_look_116 ?_
                    refine x_vi (y := nI (lkF nu sg).1) (congrArg nI h25) ?_
                    exact x_iret hC hr hw (⟨rfl, nuL9, sgL10, hR, (eqx.trans (L := [0, 25, 29]) (eqx.trans (L := [0, 25, 29]) (eqx.trans (L := [0, 25, 29]) (eqx.trans (L := [0, 25, 29]) (eqx.trans (L := [0, 25, 29]) (eqx.rf (L := [0, 25, 29])) hnu1 (by decide) (by decide)) hnu3 (by decide) (by decide)) hnuL5 (by decide) (by decide)) hnuL7 (by decide) (by decide)) hnuL9 (by decide) (by decide)), (eqx.trans (L := [26, 30]) (eqx.trans (L := [26, 30]) (eqx.trans (L := [26, 30]) (eqx.rf (L := [26, 30])) hsgL6 (by decide) (by decide)) hsgL8 (by decide) (by decide)) hsgL10 (by decide) (by decide)), hF, (by rw [hnuL9 0 (by decide), hnuL7 0 (by decide), hnuL5 0 (by decide), hnu3 0 (by decide), enu1]), h25, h26⟩) (Nat.le_of_ble_eq_true rfl) (Nat.le_of_ble_eq_true rfl) d_M_look_119
                  · have c_77 := Nat.not_le.mp ((not_congr (nI_leI (by omega) (by omega))).mp c_77)
                    refine lv_iconst (v := nI 0) hx hb d_M_look_80 (by decide) ?_
                    refine lv_istore_n (lv' := [(2, .int (nI 0)), (0, .ref md), (1, .int (nI t))]) hx hb d_M_look_81 rfl hl (by decide) rfl (fun ls hl => ?_)
                    have HL82 : ∀ (z82 en : Nat) (nuL11 : Nat → Nat → Nat) (sgL12 : Nat → Nat → Int32), en ≤ 4 → 4 + 1 ≤ en + z82 → (nuL11 25 0 = (lkE nu sg t en (lkS nu sg t (lkR nu sg (nI 1) (fun u => 4 + nu 9 u) (nu 7 0) (lkR nu sg (nI 0) (fun i => i) 4 (0, sg 26))))).1) → (sgL12 26 = (lkE nu sg t en (lkS nu sg t (lkR nu sg (nI 1) (fun u => 4 + nu 9 u) (nu 7 0) (lkR nu sg (nI 0) (fun i => i) 4 (0, sg 26))))).2) → ∀ (M1 : xMem), mRep G M1 md am nuL11 sgL12 → eqx [25, 29] nuL9 nuL11 → eqx [26, 30] sgL10 sgL12 → xfr M M1 (mS md am) → ∀ (H : Heap) (locs : List Loc) (ls : Array Slot), xWd G (xA M sz) s.heap M1 H locs → lv_has ls 3 [(0, .ref md), (1, .int (nI t)), (2, .int (nI en))] → W p l e { frames := 3, cells := 0, slots := 0, locals := 76 } s m ([.ref md] : List Value).toArray below meth c H locs 0 0 (xMQ below G M sz (fun v M' => v = some (.int (nI (lkF nu sg).1)) ∧ ∃ (nu' : Nat → Nat → Nat) (sg' : Nat → Nat → Int32), mRep G M' md am nu' sg' ∧ eqx [0, 25, 29] nu nu' ∧ eqx [26, 30] sg sg' ∧ xfr M M' (mS md am) ∧ nu' 0 0 = 0 ∧ nu' 25 0 = (lkF nu sg).1 ∧ sg' 26 = (lkF nu sg).2) (fun _ _ => False) s 0 0) (F0 m 82 ls []) := by
                      intro z82
                      induction z82 with
                      | zero =>
                        intro en  nuL11 sgL12 h1 h2
                        omega
                      | succ z82 ih82 =>
                        intro en  nuL11 sgL12 hi82 hz82 h25 h26 M1 hR hnuL11 hsgL12 hF H locs ls hw hl
                        have hX100 : (lkE nu sg t en (lkS nu sg t (lkR nu sg (nI 1) (fun u => 4 + nu 9 u) (nu 7 0) (lkR nu sg (nI 0) (fun i => i) 4 (0, sg 26))))).1 ≤ 100 := lkE_le hXt
                        refine lv_iload_n hx hb d_M_look_82 rfl (lv_at hl 2 rfl) ?_
                        refine lv_iconst (v := nI 4) hx hb d_M_look_83 (by decide) ?_
                        refine lv_icmp_ge (tgt := 109) hx hb d_M_look_84 (by decide) (fun c_84 => ?_) (fun c_84 => ?_)
                        · have c_84 := (nI_leI (by omega) (by omega)).mp c_84
                          have hke : en = 4 := by omega
                          subst hke
                          have h25e := h25
                          have h26e := h26
                          refine lv_iinc (v := nI (t + 1)) (lv' := [(1, .int (nI (t + 1))), (0, .ref md), (2, .int (nI 4))]) hx hb d_M_look_109 hl (k := 1) rfl (by exact nI_1 _) (by decide) rfl (fun ls hl => ?_)
                          refine lv_goto (tgt := 72) hx hb d_M_look_112 (by decide) ?_
                          exact ih72 (t + 1)  nuL11 sgL12 (by omega) (by omega) (h25e) (h26e) _ hR (eqx.trans (L := [25, 29]) (eqx.trans (L := [25, 29]) (eqx.rf (L := [25, 29])) hnuL9 (by decide) (by decide)) hnuL11 (by decide) (by decide)) (eqx.trans (L := [26, 30]) (eqx.trans (L := [26, 30]) (eqx.rf (L := [26, 30])) hsgL10 (by decide) (by decide)) hsgL12 (by decide) (by decide)) hF _ _ _ hw (lv_sub hl [1, 0] rfl)
                        · have c_84 := Nat.not_le.mp ((not_congr (nI_leI (by omega) (by omega))).mp c_84)
                          refine lv_aload_n hx hb d_M_look_87 rfl (lv_at hl 0 rfl) ?_
                          refine lv_iload_n hx hb d_M_look_88 rfl (lv_at hl 1 rfl) ?_
                          refine lv_iload_n hx hb d_M_look_89 rfl (lv_at hl 2 rfl) ?_
                          refine x_callG hC (c_M_takeStore l G M1 (Array.size H) md am nuL11 sgL12 hR t en (by omega) (by omega) (by rw [hnuL11 23 (by decide), hnuL9 23 (by decide), hnuL7 23 (by decide), hnuL5 23 (by decide), hnu3 23 (by decide), hnu1 23 (by decide)]; exact h60 t)) k_929 k_13 ⟨Nat.le_of_ble_eq_true rfl, Nat.le_of_ble_eq_true rfl⟩ ⟨Nat.le_of_ble_eq_true rfl, Nat.le_of_ble_eq_true rfl⟩ hw hl.1 (Nat.le_of_ble_eq_true rfl) d_M_look_90 (x_ivV hC k_929 k_926 k_928 kp_33 (show _ ∧ _ ∧ _ = some 2 from by decide +kernel) (x_recv hC hw hR.1 rfl) rfl d_M_look_90) (fun rv M13 H locs hq hw => ?_) (fun _ _ _ _ _ h _ _ => h.elim)
                          obtain ⟨rfl, nu14, sg15, hR, hnu14, hsg15, fr, hts0⟩ := hq
                          have hF := hF.trans fr (fun _ h => Or.inl h)
                          refine W.eq (g2 := F0 m 93 ls [.int (zI (wellP (sgL12 24) en (60 * t) (nuL11 23 t)))]) rfl ?_
                          rw [hnuL11 23 (by decide), hnuL9 23 (by decide), hnuL7 23 (by decide), hnuL5 23 (by decide), hnu3 23 (by decide), hnu1 23 (by decide), hsgL12 24 (by decide), hsgL10 24 (by decide), hsgL8 24 (by decide), hsgL6 24 (by decide)] at hts0
                          refine x_vi (y := zI (wellP (sg 24) en (60 * t) (nu 23 t))) (by rw [hnuL11 23 (by decide), hnuL9 23 (by decide), hnuL7 23 (by decide), hnuL5 23 (by decide), hnu3 23 (by decide), hnu1 23 (by decide), hsgL12 24 (by decide), hsgL10 24 (by decide), hsgL8 24 (by decide), hsgL6 24 (by decide)]) ?_
                          refine lv_if_eq (tgt := 103) hx hb d_M_look_93 (by decide) (fun c_93 => ?_) (fun c_93 => ?_)
                          · have c_93 := zI_0.mp c_93
                            refine lv_iinc (v := nI (en + 1)) (lv' := [(2, .int (nI (en + 1))), (0, .ref md), (1, .int (nI t))]) hx hb d_M_look_103 hl (k := 2) rfl (by exact nI_1 _) (by decide) rfl (fun ls hl => ?_)
                            refine lv_goto (tgt := 82) hx hb d_M_look_106 (by decide) ?_
                            exact ih82 (en + 1)  nu14 sg15 (by omega) (by omega) ((by rw [lkE_f c_93, hnu14 25 (by decide)]; exact h25)) ((by rw [lkE_f c_93, hsg15 26 (by decide)]; exact h26)) _ hR (eqx.trans (L := [25, 29]) (eqx.trans (L := [25, 29]) (eqx.rf (L := [25, 29])) hnuL11 (by decide) (by decide)) hnu14 (by decide) (by decide)) (eqx.trans (L := [26, 30]) (eqx.trans (L := [26, 30]) (eqx.rf (L := [26, 30])) hsgL12 (by decide) (by decide)) hsg15 (by decide) (by decide)) hF _ _ _ hw (lv_sub hl [1, 2, 0] rfl)
                          · have c_93 := zI_1.mp c_93
                            refine lv_aload_n hx hb d_M_look_96 rfl (lv_at hl 0 rfl) ?_
                            refine lv_iconst (v := nI 2) hx hb d_M_look_97 (by decide) ?_
                            refine lv_iload_n hx hb d_M_look_98 rfl (lv_at hl 1 rfl) ?_
                            refine lv_iload_n hx hb d_M_look_99 rfl (lv_at hl 2 rfl) ?_
                            obtain ⟨w29, w30⟩ := hts0 c_93
                            have hrs := Nat.le_trans (stN_le en (nu 23 t)) (h60 t)
                            have w25 := h25
                            rw [← hnu14 25 (by decide)] at w25
                            have w26 := h26
                            rw [← hsg15 26 (by decide)] at w26
                            
                            have hX := hX100
                            refine x_callG hC (c_M_note l G M13 (Array.size H) md am nu14 sg15 hR (nI 2) (nI t) (nI en) (by rw [hnu14 12 (by decide), hnuL11 12 (by decide), hnuL9 12 (by decide), hnuL7 12 (by decide), hnuL5 12 (by decide), hnu3 12 (by decide), hnu1 12 (by decide)]; exact h4) (by rw [hnu14 12 (by decide), hnuL11 12 (by decide), hnuL9 12 (by decide), hnuL7 12 (by decide), hnuL5 12 (by decide), hnu3 12 (by decide), hnu1 12 (by decide), hnu14 13 (by decide), hnuL11 13 (by decide), hnuL9 13 (by decide), hnuL7 13 (by decide), hnuL5 13 (by decide), hnu3 13 (by decide), hnu1 13 (by decide)]; exact fun w _ => h8 w) (by rw [w29]; have := hrs; omega) (by rw [w25]; exact hX)) k_947 k_13 ⟨Nat.le_of_ble_eq_true rfl, Nat.le_of_ble_eq_true rfl⟩ ⟨Nat.le_of_ble_eq_true rfl, Nat.le_of_ble_eq_true rfl⟩ hw hl.1 (Nat.le_of_ble_eq_true rfl) d_M_look_100 (x_ivV hC k_947 k_944 k_946 kp_35 (show _ ∧ _ ∧ _ = some 3 from by decide +kernel) (x_recv hC hw hR.1 rfl) rfl d_M_look_100) (fun rv M16 H locs hq hw => ?_) (fun _ _ _ _ _ h _ _ => h.elim)
                            obtain ⟨rfl, nu17, sg18, hR, hnu17, hsg18, fr, f25, f26⟩ := hq
                            have hF := hF.trans fr (fun _ h => Or.inl h)
                            refine W.eq (g2 := F0 m 103 ls []) rfl ?_
                            rw [x_lk (nu := nu) (sg := sg) (row := (sRow (sg 24) en (60 * t))) (rs := stN en (nu 23 t)) (X := lkE nu sg t en (lkS nu sg t (lkR nu sg (nI 1) (fun u => 4 + nu 9 u) (nu 7 0) (lkR nu sg (nI 0) (fun i => i) 4 (0, sg 26))))) (by rw [hnu14 12 (by decide), hnuL11 12 (by decide), hnuL9 12 (by decide), hnuL7 12 (by decide), hnuL5 12 (by decide), hnu3 12 (by decide), hnu1 12 (by decide)]) (by rw [hnu14 13 (by decide), hnuL11 13 (by decide), hnuL9 13 (by decide), hnuL7 13 (by decide), hnuL5 13 (by decide), hnu3 13 (by decide), hnu1 13 (by decide)]) (by rw [hsg15 14 (by decide), hsgL12 14 (by decide), hsgL10 14 (by decide), hsgL8 14 (by decide), hsgL6 14 (by decide)]) w29 w30 w25 w26] at f25 f26
                            refine lv_iinc (v := nI (en + 1)) (lv' := [(2, .int (nI (en + 1))), (0, .ref md), (1, .int (nI t))]) hx hb d_M_look_103 hl (k := 2) rfl (by exact nI_1 _) (by decide) rfl (fun ls hl => ?_)
                            refine lv_goto (tgt := 82) hx hb d_M_look_106 (by decide) ?_
                            exact ih82 (en + 1)  nu17 sg18 (by omega) (by omega) (by rw [lkE_t c_93]; exact f25) (by rw [lkE_t c_93]; exact f26) _ hR (eqx.trans (L := [25, 29]) (eqx.trans (L := [25, 29]) (eqx.trans (L := [25, 29]) (eqx.rf (L := [25, 29])) hnuL11 (by decide) (by decide)) hnu14 (by decide) (by decide)) hnu17 (by decide) (by decide)) (eqx.trans (L := [26, 30]) (eqx.trans (L := [26, 30]) (eqx.trans (L := [26, 30]) (eqx.rf (L := [26, 30])) hsgL12 (by decide) (by decide)) hsg15 (by decide) (by decide)) hsg18 (by decide) (by decide)) hF _ _ _ hw (lv_sub hl [1, 2, 0] rfl)
                    exact HL82 (4 + 1) (0)  nuL9 sgL10 (by omega) (by omega) (h25) (h26) _ hR eqx.rf eqx.rf hF _ _ _ hw (lv_sub hl [1, 2, 0] rfl)
              exact HL72 (nu 21 0 + 1) (0)  nuL7 sgL8 (by omega) (by omega) (h25q) (h26q) _ hR eqx.rf eqx.rf hF _ _ _ hw (lv_sub hl [1, 0] rfl)
            · have c_42 := Nat.not_le.mp ((not_congr (nI_leI (by omega) (by omega))).mp c_42)
              refine lv_aload_n hx hb d_M_look_45 rfl (lv_at hl 0 rfl) ?_
              refine lv_iconst (v := nI 4) hx hb d_M_look_46 (by decide) ?_
              refine lv_aload_n hx hb d_M_look_47 rfl (lv_at hl 0 rfl) ?_
              refine x_get hC hw hR.1 rfl 9 (by decide) (hts _ k_743) (fun _ h9 => h9) rfl d_M_look_48 ?_
              refine lv_iload_n hx hb d_M_look_51 rfl (lv_at hl 1 rfl) ?_
              refine m_ldN hC hw hR 9 u rfl (rfl) (by show _ < 12; omega) (by decide) d_M_look_52 ?_
              refine x_vi (y := nI (nu 9 u)) (by rw [hnuL7 9 (by decide), hnuL5 9 (by decide), hnu3 9 (by decide), hnu1 9 (by decide)]) ?_
              refine lv_iadd hx hb d_M_look_53 ?_
              refine x_vi (y := nI (4 + (nu 9 u))) (nI_add _ _) ?_
              have hfu := hfm u (by omega)
              refine x_callG hC (c_M_takeRow l G M1 (Array.size H) md am nuL7 sgL8 hR (4 + nu 9 u) (by omega) (by rw [hnuL7 1 (by decide), hnuL5 1 (by decide), hnu3 1 (by decide), hnu1 1 (by decide)]; exact h40 _)) k_894 k_13 ⟨Nat.le_of_ble_eq_true rfl, Nat.le_of_ble_eq_true rfl⟩ ⟨Nat.le_of_ble_eq_true rfl, Nat.le_of_ble_eq_true rfl⟩ hw hl.1 (Nat.le_of_ble_eq_true rfl) d_M_look_54 (x_ivV hC k_894 k_891 k_893 kp_25 (show _ ∧ _ ∧ _ = some 1 from by decide +kernel) (x_recv hC hw hR.1 rfl) rfl d_M_look_54) (fun rv M19 H locs hq hw => ?_) (fun _ _ _ _ _ h _ _ => h.elim)
              obtain ⟨rfl, nu20, sg21, hR, hnu20, hsg21, fr, q29, q30⟩ := hq
              have hF := hF.trans fr (fun _ h => Or.inl h)
              refine W.eq (g2 := F0 m 57 ls []) rfl ?_
              refine lv_aload_n hx hb d_M_look_57 rfl (lv_at hl 0 rfl) ?_
              refine lv_iconst (v := nI 1) hx hb d_M_look_58 (by decide) ?_
              refine lv_iload_n hx hb d_M_look_59 rfl (lv_at hl 1 rfl) ?_
              refine lv_iconst (v := (-1)) hx hb d_M_look_60 (by decide) ?_
              have w29 : nu20 29 0 = nu 1 (4 + nu 9 u) := by rw [q29, hnuL7 1 (by decide), hnuL5 1 (by decide), hnu3 1 (by decide), hnu1 1 (by decide)]
              have w30 : ∀ j, j < nu 1 (4 + nu 9 u) → sg21 30 j = (fun j => sg 2 (40 * (4 + nu 9 u) + j)) j := fun j hj => by rw [q30 j (by rw [hnuL7 1 (by decide), hnuL5 1 (by decide), hnu3 1 (by decide), hnu1 1 (by decide)]; exact hj), hsgL8 2 (by decide), hsgL6 2 (by decide)]
              have w25 := h25
              rw [← hnu20 25 (by decide)] at w25
              have w26 := h26
              rw [← hsg21 26 (by decide)] at w26
              
              have hX := hX100
              refine x_callG hC (c_M_note l G M19 (Array.size H) md am nu20 sg21 hR (nI 1) (nI u) (-1) (by rw [hnu20 12 (by decide), hnuL7 12 (by decide), hnuL5 12 (by decide), hnu3 12 (by decide), hnu1 12 (by decide)]; exact h4) (by rw [hnu20 12 (by decide), hnuL7 12 (by decide), hnuL5 12 (by decide), hnu3 12 (by decide), hnu1 12 (by decide), hnu20 13 (by decide), hnuL7 13 (by decide), hnuL5 13 (by decide), hnu3 13 (by decide), hnu1 13 (by decide)]; exact fun w _ => h8 w) (by rw [w29]; have := h40 (4 + nu 9 u); omega) (by rw [w25]; exact hX)) k_947 k_13 ⟨Nat.le_of_ble_eq_true rfl, Nat.le_of_ble_eq_true rfl⟩ ⟨Nat.le_of_ble_eq_true rfl, Nat.le_of_ble_eq_true rfl⟩ hw hl.1 (Nat.le_of_ble_eq_true rfl) d_M_look_61 (x_ivV hC k_947 k_944 k_946 kp_35 (show _ ∧ _ ∧ _ = some 3 from by decide +kernel) (x_recv hC hw hR.1 rfl) rfl d_M_look_61) (fun rv M22 H locs hq hw => ?_) (fun _ _ _ _ _ h _ _ => h.elim)
              obtain ⟨rfl, nu23, sg24, hR, hnu23, hsg24, fr, f25, f26⟩ := hq
              have hF := hF.trans fr (fun _ h => Or.inl h)
              refine W.eq (g2 := F0 m 64 ls []) rfl ?_
              rw [x_lk (nu := nu) (sg := sg) (row := (fun j => sg 2 (40 * (4 + nu 9 u) + j))) (rs := nu 1 (4 + nu 9 u)) (X := lkR nu sg (nI 1) (fun u => 4 + nu 9 u) u (lkR nu sg (nI 0) (fun i => i) 4 (0, sg 26))) (by rw [hnu20 12 (by decide), hnuL7 12 (by decide), hnuL5 12 (by decide), hnu3 12 (by decide), hnu1 12 (by decide)]) (by rw [hnu20 13 (by decide), hnuL7 13 (by decide), hnuL5 13 (by decide), hnu3 13 (by decide), hnu1 13 (by decide)]) (by rw [hsg21 14 (by decide), hsgL8 14 (by decide), hsgL6 14 (by decide)]) w29 w30 w25 w26] at f25 f26
              refine lv_iinc (v := nI (u + 1)) (lv' := [(1, .int (nI (u + 1))), (0, .ref md)]) hx hb d_M_look_64 hl (k := 1) rfl (by exact nI_1 _) (by decide) rfl (fun ls hl => ?_)
              refine lv_goto (tgt := 37) hx hb d_M_look_67 (by decide) ?_
              exact ih37 (u + 1)  nu23 sg24 (by omega) (by omega) (f25) (f26) _ hR (eqx.trans (L := [25, 29]) (eqx.trans (L := [25, 29]) (eqx.trans (L := [25, 29]) (eqx.rf (L := [25, 29])) hnuL7 (by decide) (by decide)) hnu20 (by decide) (by decide)) hnu23 (by decide) (by decide)) (eqx.trans (L := [26, 30]) (eqx.trans (L := [26, 30]) (eqx.trans (L := [26, 30]) (eqx.rf (L := [26, 30])) hsgL8 (by decide) (by decide)) hsg21 (by decide) (by decide)) hsg24 (by decide) (by decide)) hF _ _ _ hw (lv_sub hl [1, 0] rfl)
        exact HL37 (nu 7 0 + 1) (0)  nuL5 sgL6 (by omega) (by omega) (h25q) (h26q) _ hR eqx.rf eqx.rf hF _ _ _ hw (lv_sub hl [1, 0] rfl)
      · have c_14 := Nat.not_le.mp ((not_congr (nI_leI (by omega) (by omega))).mp c_14)
        refine lv_aload_n hx hb d_M_look_17 rfl (lv_at hl 0 rfl) ?_
        refine lv_iload_n hx hb d_M_look_18 rfl (lv_at hl 1 rfl) ?_
        refine x_callG hC (c_M_takeRow l G M1 (Array.size H) md am nuL5 sgL6 hR (q) (by omega) (by rw [hnuL5 1 (by decide), hnu3 1 (by decide), hnu1 1 (by decide)]; exact h40 _)) k_894 k_13 ⟨Nat.le_of_ble_eq_true rfl, Nat.le_of_ble_eq_true rfl⟩ ⟨Nat.le_of_ble_eq_true rfl, Nat.le_of_ble_eq_true rfl⟩ hw hl.1 (Nat.le_of_ble_eq_true rfl) d_M_look_19 (x_ivV hC k_894 k_891 k_893 kp_25 (show _ ∧ _ ∧ _ = some 1 from by decide +kernel) (x_recv hC hw hR.1 rfl) rfl d_M_look_19) (fun rv M25 H locs hq hw => ?_) (fun _ _ _ _ _ h _ _ => h.elim)
        obtain ⟨rfl, nu26, sg27, hR, hnu26, hsg27, fr, q29, q30⟩ := hq
        have hF := hF.trans fr (fun _ h => Or.inl h)
        refine W.eq (g2 := F0 m 22 ls []) rfl ?_
        refine lv_aload_n hx hb d_M_look_22 rfl (lv_at hl 0 rfl) ?_
        refine lv_iconst (v := nI 0) hx hb d_M_look_23 (by decide) ?_
        refine lv_iload_n hx hb d_M_look_24 rfl (lv_at hl 1 rfl) ?_
        refine lv_iconst (v := (-1)) hx hb d_M_look_25 (by decide) ?_
        have w29 : nu26 29 0 = nu 1 q := by rw [q29, hnuL5 1 (by decide), hnu3 1 (by decide), hnu1 1 (by decide)]
        have w30 : ∀ j, j < nu 1 q → sg27 30 j = (fun j => sg 2 (40 * q + j)) j := fun j hj => by rw [q30 j (by rw [hnuL5 1 (by decide), hnu3 1 (by decide), hnu1 1 (by decide)]; exact hj), hsgL6 2 (by decide)]
        have w25 := h25
        rw [← hnu26 25 (by decide)] at w25
        have w26 := h26
        rw [← hsg27 26 (by decide)] at w26
        
        have hX := hX100
        refine x_callG hC (c_M_note l G M25 (Array.size H) md am nu26 sg27 hR (nI 0) (nI q) (-1) (by rw [hnu26 12 (by decide), hnuL5 12 (by decide), hnu3 12 (by decide), hnu1 12 (by decide)]; exact h4) (by rw [hnu26 12 (by decide), hnuL5 12 (by decide), hnu3 12 (by decide), hnu1 12 (by decide), hnu26 13 (by decide), hnuL5 13 (by decide), hnu3 13 (by decide), hnu1 13 (by decide)]; exact fun w _ => h8 w) (by rw [w29]; have := h40 (q); omega) (by rw [w25]; exact hX)) k_947 k_13 ⟨Nat.le_of_ble_eq_true rfl, Nat.le_of_ble_eq_true rfl⟩ ⟨Nat.le_of_ble_eq_true rfl, Nat.le_of_ble_eq_true rfl⟩ hw hl.1 (Nat.le_of_ble_eq_true rfl) d_M_look_26 (x_ivV hC k_947 k_944 k_946 kp_35 (show _ ∧ _ ∧ _ = some 3 from by decide +kernel) (x_recv hC hw hR.1 rfl) rfl d_M_look_26) (fun rv M28 H locs hq hw => ?_) (fun _ _ _ _ _ h _ _ => h.elim)
        obtain ⟨rfl, nu29, sg30, hR, hnu29, hsg30, fr, f25, f26⟩ := hq
        have hF := hF.trans fr (fun _ h => Or.inl h)
        refine W.eq (g2 := F0 m 29 ls []) rfl ?_
        rw [x_lk (nu := nu) (sg := sg) (row := (fun j => sg 2 (40 * q + j))) (rs := nu 1 q) (X := lkR nu sg (nI 0) (fun i => i) q (0, sg 26)) (by rw [hnu26 12 (by decide), hnuL5 12 (by decide), hnu3 12 (by decide), hnu1 12 (by decide)]) (by rw [hnu26 13 (by decide), hnuL5 13 (by decide), hnu3 13 (by decide), hnu1 13 (by decide)]) (by rw [hsg27 14 (by decide), hsgL6 14 (by decide)]) w29 w30 w25 w26] at f25 f26
        refine lv_iinc (v := nI (q + 1)) (lv' := [(1, .int (nI (q + 1))), (0, .ref md)]) hx hb d_M_look_29 hl (k := 1) rfl (by exact nI_1 _) (by decide) rfl (fun ls hl => ?_)
        refine lv_goto (tgt := 12) hx hb d_M_look_32 (by decide) ?_
        exact ih12 (q + 1)  nu29 sg30 (by omega) (by omega) (f25) (f26) _ hR (eqx.trans (L := [25, 29]) (eqx.trans (L := [25, 29]) (eqx.trans (L := [25, 29]) (eqx.rf (L := [25, 29])) hnuL5 (by decide) (by decide)) hnu26 (by decide) (by decide)) hnu29 (by decide) (by decide)) (eqx.trans (L := [26, 30]) (eqx.trans (L := [26, 30]) (eqx.trans (L := [26, 30]) (eqx.rf (L := [26, 30])) hsgL6 (by decide) (by decide)) hsg27 (by decide) (by decide)) hsg30 (by decide) (by decide)) hF _ _ _ hw (lv_sub hl [1, 0] rfl)
  exact HL12 (4 + 1) (0)  nu3 sg (by omega) (by omega) (by rw [enu3]; rfl) (rfl) _ hR eqx.rf eqx.rf hF _ _ _ hw (lv_sub hl [1, 0] rfl)
