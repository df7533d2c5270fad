set_option maxHeartbeats 1000000 in
set_option maxRecDepth 100000 in
/-- black -/
theorem c_M_black (l : Launch) (G : xT) (M : xMem) (sz : Nat) (md : Nat) (am : Nat → Nat) (nu : Nat → Nat → Nat) (sg : Nat → Nat → Int32) (hR : mRep G M md am nu sg) (ok : okS nu sg) : xMet l G y_M_black (Cond.code y_M_black b_M_black 5 (Option.some Jvm.ClassFile.FieldType.int) :: x_tbl) { frames := 4, cells := 0, slots := 0, locals := 100 } [.ref md] M sz (fun v M' => v = some (.int (nI (kt (blackK nu sg = 0) (blackN nu sg) 0))) ∧ ∃ (nu' : Nat → Nat → Nat) (sg' : Nat → Nat → Int32), mRep G M' md am nu' sg' ∧ eqx [0, 1, 6, 9, 23, 29] nu nu' ∧ eqx [2, 3, 4, 5, 24, 27, 28, 30, 31] sg sg' ∧ xfr M M' (mS md am) ∧ nu' 0 0 = blackK nu sg ∧ (blackK nu sg = 0 → blackP nu sg nu' sg') ∧ (blackK nu sg ≠ 0 → eqx [0, 29] nu nu' ∧ eqx [27, 28, 30, 31] sg sg') ∧ (blackK nu sg = 0 → ∀ j, okB (sg' 24 j))) (fun _ _ => False) := by
  refine xMet.of (by decide) (Nat.le_of_ble_eq_true rfl) ?_
  intro p e s m below meth c ls hC hr hnm hno hsz hw hl
  obtain ⟨hx, hb, hown, hts, hK, hml, hlk, hz⟩ := id hC
  have hl : lv_has ls 5 [(0, .ref md)] := hl
  have hF : xfr M M (mS md am) := xfr.rf
  obtain ⟨h20, h12, h4, h8a, h8s, h100, h40, h8, h60, hfm, hen, hby, hpg, hlt, hf0, hw0, ht0, hu9⟩ := id ok
  refine lv_iconst (v := nI 0) hx hb d_M_black_0 (by decide) ?_
  refine lv_istore_n (lv' := [(1, .int (nI 0)), (0, .ref md)]) hx hb d_M_black_1 rfl hl (by decide) rfl (fun ls hl => ?_)
  refine lv_iconst (v := nI 0) hx hb d_M_black_2 (by decide) ?_
  refine lv_istore_n (lv' := [(2, .int (nI 0)), (1, .int (nI 0)), (0, .ref md)]) hx hb d_M_black_3 rfl hl (by decide) rfl (fun ls hl => ?_)
  have HL4 : ∀ (z4 q : Nat) (nuL1 : Nat → Nat → Nat) (sgL2 : Nat → Nat → Int32), q ≤ 4 → 4 + 1 ≤ q + z4 → (∀ p, p < q → ∀ j, j < 40 → sgL2 27 (40 * p + j) = zI (mkG nu sg p j)) → ∀ (M1 : xMem), mRep G M1 md am nuL1 sgL2 → eqx [29] nu nuL1 → eqx [27, 30, 31] sg sgL2 → xfr M M1 (mS md am) → ∀ (H : Heap) (locs : List Loc) (ls : Array Slot), xWd G (xA M sz) s.heap M1 H locs → lv_has ls 5 [(0, .ref md), (1, .int (nI (sm (fun p => cnt (mkG nu sg p) 40) q))), (2, .int (nI q))] → W p l e { frames := 4, cells := 0, slots := 0, locals := 100 } s m ([.ref md] : List Value).toArray below meth c H locs 0 0 (xMQ below G M sz (fun v M' => v = some (.int (nI (kt (blackK nu sg = 0) (blackN nu sg) 0))) ∧ ∃ (nu' : Nat → Nat → Nat) (sg' : Nat → Nat → Int32), mRep G M' md am nu' sg' ∧ eqx [0, 1, 6, 9, 23, 29] nu nu' ∧ eqx [2, 3, 4, 5, 24, 27, 28, 30, 31] sg sg' ∧ xfr M M' (mS md am) ∧ nu' 0 0 = blackK nu sg ∧ (blackK nu sg = 0 → blackP nu sg nu' sg') ∧ (blackK nu sg ≠ 0 → eqx [0, 29] nu nu' ∧ eqx [27, 28, 30, 31] sg sg') ∧ (blackK nu sg = 0 → ∀ j, okB (sg' 24 j))) (fun _ _ => False) s 0 0) (F0 m 4 ls []) := by
    intro z4
    induction z4 with
    | zero =>
      intro q  nuL1 sgL2 h1 h2
      omega
    | succ z4 ih4 =>
      intro q  nuL1 sgL2 hi4 hz4 hA M1 hR hnuL1 hsgL2 hF H locs ls hw hl
      refine lv_iload_n hx hb d_M_black_4 rfl (lv_at hl 2 rfl) ?_
      refine lv_iconst (v := nI 4) hx hb d_M_black_5 (by decide) ?_
      refine lv_icmp_ge (tgt := 30) hx hb d_M_black_6 (by decide) (fun c_6 => ?_) (fun c_6 => ?_)
      · have c_6 := (nI_leI (by omega) (by omega)).mp c_6
        have hke : q = 4 := by omega
        subst hke
        refine lv_iconst (v := nI 0) hx hb d_M_black_30 (by decide) ?_
        refine lv_istore_n (lv' := [(2, .int (nI 0)), (0, .ref md), (1, .int (nI (sm (fun p => cnt (mkG nu sg p) 40) 4)))]) hx hb d_M_black_31 rfl hl (by decide) rfl (fun ls hl => ?_)
        have HL32 : ∀ (z32 u : Nat) (nuL3 : Nat → Nat → Nat) (sgL4 : Nat → Nat → Int32), u ≤ nu 7 0 → nu 7 0 + 1 ≤ u + z32 → (∀ p, p < 4 → ∀ j, j < 40 → sgL4 27 (40 * p + j) = zI (mkG nu sg p j)) → (∀ p, p < u → ∀ j, j < 40 → sgL4 27 (160 + 40 * p + j) = zI (mkU nu sg p j)) → ∀ (M1 : xMem), mRep G M1 md am nuL3 sgL4 → eqx [29] nuL1 nuL3 → eqx [27, 30, 31] sgL2 sgL4 → xfr M M1 (mS md am) → ∀ (H : Heap) (locs : List Loc) (ls : Array Slot), xWd G (xA M sz) s.heap M1 H locs → lv_has ls 5 [(0, .ref md), (1, .int (nI (sm (fun p => cnt (mkG nu sg p) 40) 4 + sm (fun u => cnt (mkU nu sg u) 40) u))), (2, .int (nI u))] → W p l e { frames := 4, cells := 0, slots := 0, locals := 100 } s m ([.ref md] : List Value).toArray below meth c H locs 0 0 (xMQ below G M sz (fun v M' => v = some (.int (nI (kt (blackK nu sg = 0) (blackN nu sg) 0))) ∧ ∃ (nu' : Nat → Nat → Nat) (sg' : Nat → Nat → Int32), mRep G M' md am nu' sg' ∧ eqx [0, 1, 6, 9, 23, 29] nu nu' ∧ eqx [2, 3, 4, 5, 24, 27, 28, 30, 31] sg sg' ∧ xfr M M' (mS md am) ∧ nu' 0 0 = blackK nu sg ∧ (blackK nu sg = 0 → blackP nu sg nu' sg') ∧ (blackK nu sg ≠ 0 → eqx [0, 29] nu nu' ∧ eqx [27, 28, 30, 31] sg sg') ∧ (blackK nu sg = 0 → ∀ j, okB (sg' 24 j))) (fun _ _ => False) s 0 0) (F0 m 32 ls []) := by
          intro z32
          induction z32 with
          | zero =>
            intro u  nuL3 sgL4 h1 h2
            omega
          | succ z32 ih32 =>
            intro u  nuL3 sgL4 hi32 hz32 hA hB M1 hR hnuL3 hsgL4 hF H locs ls hw hl
            refine lv_iload_n hx hb d_M_black_32 rfl (lv_at hl 2 rfl) ?_
            refine lv_aload_n hx hb d_M_black_33 rfl (lv_at hl 0 rfl) ?_
            refine x_get hC hw hR.1 rfl 7 (by decide) (hts _ k_741) (fun _ h9 => h9) rfl d_M_black_34 ?_
            refine x_vi (y := nI (nu 7 0)) (by rw [hnuL3 7 (by decide), hnuL1 7 (by decide)]) ?_
            refine lv_icmp_ge (tgt := 83) hx hb d_M_black_37 (by decide) (fun c_37 => ?_) (fun c_37 => ?_)
            · have c_37 := (nI_leI (by omega) (by omega)).mp c_37
              have hke : u = nu 7 0 := by omega
              subst hke
              refine lv_iconst (v := nI 0) hx hb d_M_black_83 (by decide) ?_
              refine lv_istore_n (lv' := [(2, .int (nI 0)), (0, .ref md), (1, .int (nI (sm (fun p => cnt (mkG nu sg p) 40) 4 + sm (fun u => cnt (mkU nu sg u) 40) (nu 7 0))))]) hx hb d_M_black_84 rfl hl (by decide) rfl (fun ls hl => ?_)
              refine lv_iconst (v := nI 0) hx hb d_M_black_85 (by decide) ?_
              refine lv_istore_n (lv' := [(3, .int (nI 0)), (2, .int (nI 0)), (0, .ref md), (1, .int (nI (sm (fun p => cnt (mkG nu sg p) 40) 4 + sm (fun u => cnt (mkU nu sg u) 40) (nu 7 0))))]) hx hb d_M_black_86 rfl hl (by decide) rfl (fun ls hl => ?_)
              have HL87 : ∀ (z87 u : Nat) (nuL5 : Nat → Nat → Nat) (sgL6 : Nat → Nat → Int32), u ≤ nu 7 0 → nu 7 0 + 1 ≤ u + z87 → (∀ w, w < u → cpP nu sg (sgL6 28) w) → ∀ (M1 : xMem), mRep G M1 md am nuL5 sgL6 → eqx [] nuL3 nuL5 → eqx [28] sgL4 sgL6 → xfr M M1 (mS md am) → ∀ (H : Heap) (locs : List Loc) (ls : Array Slot), xWd G (xA M sz) s.heap M1 H locs → lv_has ls 5 [(0, .ref md), (1, .int (nI (sm (fun p => cnt (mkG nu sg p) 40) 4 + sm (fun u => cnt (mkU nu sg u) 40) (nu 7 0)))), (2, .int (nI (cnt (newU nu sg) u))), (3, .int (nI u))] → W p l e { frames := 4, cells := 0, slots := 0, locals := 100 } s m ([.ref md] : List Value).toArray below meth c H locs 0 0 (xMQ below G M sz (fun v M' => v = some (.int (nI (kt (blackK nu sg = 0) (blackN nu sg) 0))) ∧ ∃ (nu' : Nat → Nat → Nat) (sg' : Nat → Nat → Int32), mRep G M' md am nu' sg' ∧ eqx [0, 1, 6, 9, 23, 29] nu nu' ∧ eqx [2, 3, 4, 5, 24, 27, 28, 30, 31] sg sg' ∧ xfr M M' (mS md am) ∧ nu' 0 0 = blackK nu sg ∧ (blackK nu sg = 0 → blackP nu sg nu' sg') ∧ (blackK nu sg ≠ 0 → eqx [0, 29] nu nu' ∧ eqx [27, 28, 30, 31] sg sg') ∧ (blackK nu sg = 0 → ∀ j, okB (sg' 24 j))) (fun _ _ => False) s 0 0) (F0 m 87 ls []) := by
                intro z87
                induction z87 with
                | zero =>
                  intro u  nuL5 sgL6 h1 h2
                  omega
                | succ z87 ih87 =>
                  intro u  nuL5 sgL6 hi87 hz87 hCp M1 hR hnuL5 hsgL6 hF H locs ls hw hl
                  have hcnu := cnt_le (newU nu sg) u
                  refine lv_iload_n hx hb d_M_black_87 rfl (lv_at hl 3 rfl) ?_
                  refine lv_aload_n hx hb d_M_black_88 rfl (lv_at hl 0 rfl) ?_
                  refine x_get hC hw hR.1 rfl 7 (by decide) (hts _ k_741) (fun _ h9 => h9) rfl d_M_black_89 ?_
                  refine x_vi (y := nI (nu 7 0)) (by rw [hnuL5 7 (by decide), hnuL3 7 (by decide), hnuL1 7 (by decide)]) ?_
                  refine lv_icmp_ge (tgt := 189) hx hb d_M_black_92 (by decide) (fun c_92 => ?_) (fun c_92 => ?_)
                  · have c_92 := (nI_leI (by omega) (by omega)).mp c_92
                    have hke : u = nu 7 0 := by omega
                    subst hke
                    have hC20 := cnt_le (newU nu sg) (nu 7 0)
                    refine lv_aload_n hx hb d_M_black_189 rfl (lv_at hl 0 rfl) ?_
                    refine lv_aload_n hx hb d_M_black_190 rfl (lv_at hl 0 rfl) ?_
                    refine x_get hC hw hR.1 rfl 6 (by decide) (hts _ k_740) (fun _ h9 => h9) rfl d_M_black_191 ?_
                    refine x_vi (y := nI (nu 6 0)) (by rw [hnuL5 6 (by decide), hnuL3 6 (by decide), hnuL1 6 (by decide)]) ?_
                    refine lv_iload_n hx hb d_M_black_194 rfl (lv_at hl 2 rfl) ?_
                    refine lv_iadd hx hb d_M_black_195 ?_
                    refine x_vi (y := nI ((nu 6 0) + (cnt (newU nu sg) (nu 7 0)))) (nI_add _ _) ?_
                    refine lv_bipush (v := nI 20) hx hb d_M_black_196 (by decide) ?_
                    refine lv_icmp_le (tgt := 205) hx hb d_M_black_198 (by decide) (fun c_198 => ?_) (fun c_198 => ?_)
                    · have c_198 := (nI_leI (by omega) (by omega)).mp c_198
                      refine lv_iconst (v := nI 0) hx hb d_M_black_205 (by decide) ?_
                      refine m_put hC hw hR hF 0 0 rfl (by decide) (hts _ k_734) (fun _ h9 => h9) rfl (by decide +kernel) rfl rfl d_M_black_206 (fun M8 H locs nu7 hnu7 enu7 hR hF hw => ?_)
                      refine lv_aload_n hx hb d_M_black_209 rfl (lv_at hl 0 rfl) ?_
                      refine x_get hC hw hR.1 rfl 0 (by decide) (hts _ k_734) (fun _ h9 => h9) rfl d_M_black_210 ?_
                      refine x_vi (y := nI 0) (by rw [enu7]) ?_
                      refine lv_if_le (tgt := 218) hx hb d_M_black_213 (by decide) (fun c_213 => ?_) (fun c_213 => ?_)
                      · refine lv_iconst (v := nI 0) hx hb d_M_black_218 (by decide) ?_
                        refine lv_istore_n (lv' := [(3, .int (nI 0)), (0, .ref md), (1, .int (nI (sm (fun p => cnt (mkG nu sg p) 40) 4 + sm (fun u => cnt (mkU nu sg u) 40) (nu 7 0)))), (2, .int (nI (cnt (newU nu sg) (nu 7 0))))]) hx hb d_M_black_219 rfl hl (by decide) rfl (fun ls hl => ?_)
                        have HL220 : ∀ (z220 q : Nat) (nuL9 : Nat → Nat → Nat) (sgL10 : Nat → Nat → Int32), q ≤ 4 → 4 + 1 ≤ q + z220 → ((∀ p, p < q → rowCut nu sg nuL9 sgL10 (mkG nu sg p) p p) ∧ ∀ z, q ≤ z → rowSame nu sg nuL9 sgL10 z) → ∀ (M1 : xMem), mRep G M1 md am nuL9 sgL10 → eqx [1] nu7 nuL9 → eqx [2, 3, 4, 5] sgL6 sgL10 → xfr M M1 (mS md am) → ∀ (H : Heap) (locs : List Loc) (ls : Array Slot), xWd G (xA M sz) s.heap M1 H locs → lv_has ls 5 [(0, .ref md), (1, .int (nI (sm (fun p => cnt (mkG nu sg p) 40) 4 + sm (fun u => cnt (mkU nu sg u) 40) (nu 7 0)))), (2, .int (nI (cnt (newU nu sg) (nu 7 0)))), (3, .int (nI q))] → W p l e { frames := 4, cells := 0, slots := 0, locals := 100 } s m ([.ref md] : List Value).toArray below meth c H locs 0 0 (xMQ below G M sz (fun v M' => v = some (.int (nI (kt (blackK nu sg = 0) (blackN nu sg) 0))) ∧ ∃ (nu' : Nat → Nat → Nat) (sg' : Nat → Nat → Int32), mRep G M' md am nu' sg' ∧ eqx [0, 1, 6, 9, 23, 29] nu nu' ∧ eqx [2, 3, 4, 5, 24, 27, 28, 30, 31] sg sg' ∧ xfr M M' (mS md am) ∧ nu' 0 0 = blackK nu sg ∧ (blackK nu sg = 0 → blackP nu sg nu' sg') ∧ (blackK nu sg ≠ 0 → eqx [0, 29] nu nu' ∧ eqx [27, 28, 30, 31] sg sg') ∧ (blackK nu sg = 0 → ∀ j, okB (sg' 24 j))) (fun _ _ => False) s 0 0) (F0 m 220 ls []) := by
                          intro z220
                          induction z220 with
                          | zero =>
                            intro q  nuL9 sgL10 h1 h2
                            omega
                          | succ z220 ih220 =>
                            intro q  nuL9 sgL10 hi220 hz220 hP M1 hR hnuL9 hsgL10 hF H locs ls hw hl
                            refine lv_iload_n hx hb d_M_black_220 rfl (lv_at hl 3 rfl) ?_
                            refine lv_iconst (v := nI 4) hx hb d_M_black_221 (by decide) ?_
                            refine lv_icmp_ge (tgt := 241) hx hb d_M_black_222 (by decide) (fun c_222 => ?_) (fun c_222 => ?_)
                            · have c_222 := (nI_leI (by omega) (by omega)).mp c_222
                              have hke : q = 4 := by omega
                              subst hke
                              refine lv_iconst (v := nI 0) hx hb d_M_black_241 (by decide) ?_
                              refine lv_istore_n (lv' := [(3, .int (nI 0)), (0, .ref md), (1, .int (nI (sm (fun p => cnt (mkG nu sg p) 40) 4 + sm (fun u => cnt (mkU nu sg u) 40) (nu 7 0)))), (2, .int (nI (cnt (newU nu sg) (nu 7 0))))]) hx hb d_M_black_242 rfl hl (by decide) rfl (fun ls hl => ?_)
                              have HL243 : ∀ (z243 u : Nat) (nuL11 : Nat → Nat → Nat) (sgL12 : Nat → Nat → Int32), u ≤ nu 7 0 → nu 7 0 + 1 ≤ u + z243 → (usP nu sg nuL11 sgL12 u) → ∀ (M1 : xMem), mRep G M1 md am nuL11 sgL12 → eqx [1] nuL9 nuL11 → eqx [2, 3, 4, 5] sgL10 sgL12 → xfr M M1 (mS md am) → ∀ (H : Heap) (locs : List Loc) (ls : Array Slot), xWd G (xA M sz) s.heap M1 H locs → lv_has ls 5 [(0, .ref md), (1, .int (nI (sm (fun p => cnt (mkG nu sg p) 40) 4 + sm (fun u => cnt (mkU nu sg u) 40) (nu 7 0)))), (2, .int (nI (cnt (newU nu sg) (nu 7 0)))), (3, .int (nI u))] → W p l e { frames := 4, cells := 0, slots := 0, locals := 100 } s m ([.ref md] : List Value).toArray below meth c H locs 0 0 (xMQ below G M sz (fun v M' => v = some (.int (nI (kt (blackK nu sg = 0) (blackN nu sg) 0))) ∧ ∃ (nu' : Nat → Nat → Nat) (sg' : Nat → Nat → Int32), mRep G M' md am nu' sg' ∧ eqx [0, 1, 6, 9, 23, 29] nu nu' ∧ eqx [2, 3, 4, 5, 24, 27, 28, 30, 31] sg sg' ∧ xfr M M' (mS md am) ∧ nu' 0 0 = blackK nu sg ∧ (blackK nu sg = 0 → blackP nu sg nu' sg') ∧ (blackK nu sg ≠ 0 → eqx [0, 29] nu nu' ∧ eqx [27, 28, 30, 31] sg sg') ∧ (blackK nu sg = 0 → ∀ j, okB (sg' 24 j))) (fun _ _ => False) s 0 0) (F0 m 243 ls []) := by
                                intro z243
                                induction z243 with
                                | zero =>
                                  intro u  nuL11 sgL12 h1 h2
                                  omega
                                | succ z243 ih243 =>
                                  intro u  nuL11 sgL12 hi243 hz243 hE M1 hR hnuL11 hsgL12 hF H locs ls hw hl
                                  refine lv_iload_n hx hb d_M_black_243 rfl (lv_at hl 3 rfl) ?_
                                  refine lv_aload_n hx hb d_M_black_244 rfl (lv_at hl 0 rfl) ?_
                                  refine x_get hC hw hR.1 rfl 7 (by decide) (hts _ k_741) (fun _ h9 => h9) rfl d_M_black_245 ?_
                                  refine x_vi (y := nI (nu 7 0)) (by rw [hnuL11 7 (by decide), hnuL9 7 (by decide), hnu7 7 (by decide), hnuL5 7 (by decide), hnuL3 7 (by decide), hnuL1 7 (by decide)]) ?_
                                  refine lv_icmp_ge (tgt := 291) hx hb d_M_black_248 (by decide) (fun c_248 => ?_) (fun c_248 => ?_)
                                  · have c_248 := (nI_leI (by omega) (by omega)).mp c_248
                                    have hke : u = nu 7 0 := by omega
                                    subst hke
                                    refine lv_iconst (v := nI 0) hx hb d_M_black_291 (by decide) ?_
                                    refine lv_istore_n (lv' := [(3, .int (nI 0)), (0, .ref md), (1, .int (nI (sm (fun p => cnt (mkG nu sg p) 40) 4 + sm (fun u => cnt (mkU nu sg u) 40) (nu 7 0)))), (2, .int (nI (cnt (newU nu sg) (nu 7 0))))]) hx hb d_M_black_292 rfl hl (by decide) rfl (fun ls hl => ?_)
                                    have HL293 : ∀ (z293 u : Nat) (nuL13 : Nat → Nat → Nat) (sgL14 : Nat → Nat → Int32), u ≤ nu 7 0 → nu 7 0 + 1 ≤ u + z293 → (ufP nu sg (nuL13 9) u) → ∀ (M1 : xMem), mRep G M1 md am nuL13 sgL14 → eqx [9] nuL11 nuL13 → eqx [] sgL12 sgL14 → xfr M M1 (mS md am) → ∀ (H : Heap) (locs : List Loc) (ls : Array Slot), xWd G (xA M sz) s.heap M1 H locs → lv_has ls 5 [(0, .ref md), (1, .int (nI (sm (fun p => cnt (mkG nu sg p) 40) 4 + sm (fun u => cnt (mkU nu sg u) 40) (nu 7 0)))), (2, .int (nI (cnt (newU nu sg) (nu 7 0)))), (3, .int (nI u))] → W p l e { frames := 4, cells := 0, slots := 0, locals := 100 } s m ([.ref md] : List Value).toArray below meth c H locs 0 0 (xMQ below G M sz (fun v M' => v = some (.int (nI (kt (blackK nu sg = 0) (blackN nu sg) 0))) ∧ ∃ (nu' : Nat → Nat → Nat) (sg' : Nat → Nat → Int32), mRep G M' md am nu' sg' ∧ eqx [0, 1, 6, 9, 23, 29] nu nu' ∧ eqx [2, 3, 4, 5, 24, 27, 28, 30, 31] sg sg' ∧ xfr M M' (mS md am) ∧ nu' 0 0 = blackK nu sg ∧ (blackK nu sg = 0 → blackP nu sg nu' sg') ∧ (blackK nu sg ≠ 0 → eqx [0, 29] nu nu' ∧ eqx [27, 28, 30, 31] sg sg') ∧ (blackK nu sg = 0 → ∀ j, okB (sg' 24 j))) (fun _ _ => False) s 0 0) (F0 m 293 ls []) := by
                                      intro z293
                                      induction z293 with
                                      | zero =>
                                        intro u  nuL13 sgL14 h1 h2
                                        omega
                                      | succ z293 ih293 =>
                                        intro u  nuL13 sgL14 hi293 hz293 hUf M1 hR hnuL13 hsgL14 hF H locs ls hw hl
                                        refine lv_iload_n hx hb d_M_black_293 rfl (lv_at hl 3 rfl) ?_
                                        refine lv_aload_n hx hb d_M_black_294 rfl (lv_at hl 0 rfl) ?_
                                        refine x_get hC hw hR.1 rfl 7 (by decide) (hts _ k_741) (fun _ h9 => h9) rfl d_M_black_295 ?_
                                        refine x_vi (y := nI (nu 7 0)) (by rw [hnuL13 7 (by decide), hnuL11 7 (by decide), hnuL9 7 (by decide), hnu7 7 (by decide), hnuL5 7 (by decide), hnuL3 7 (by decide), hnuL1 7 (by decide)]) ?_
                                        refine lv_icmp_ge (tgt := 338) hx hb d_M_black_298 (by decide) (fun c_298 => ?_) (fun c_298 => ?_)
                                        · have c_298 := (nI_leI (by omega) (by omega)).mp c_298
                                          have hke : u = nu 7 0 := by omega
                                          subst hke
                                          refine lv_aload_n hx hb d_M_black_338 rfl (lv_at hl 0 rfl) ?_
                                          refine lv_aload_n hx hb d_M_black_339 rfl (lv_at hl 0 rfl) ?_
                                          refine x_get hC hw hR.1 rfl 6 (by decide) (hts _ k_740) (fun _ h9 => h9) rfl d_M_black_340 ?_
                                          refine x_vi (y := nI (nu 6 0)) (by rw [hnuL13 6 (by decide), hnuL11 6 (by decide), hnuL9 6 (by decide), hnu7 6 (by decide), hnuL5 6 (by decide), hnuL3 6 (by decide), hnuL1 6 (by decide)]) ?_
                                          refine lv_iload_n hx hb d_M_black_343 rfl (lv_at hl 2 rfl) ?_
                                          refine lv_iadd hx hb d_M_black_344 ?_
                                          refine x_vi (y := nI ((nu 6 0) + (cnt (newU nu sg) (nu 7 0)))) (nI_add _ _) ?_
                                          refine m_put hC hw hR hF 6 ((nu 6 0) + (cnt (newU nu sg) (nu 7 0))) rfl (by decide) (hts _ k_740) (fun _ h9 => h9) rfl (by decide +kernel) rfl rfl d_M_black_345 (fun M16 H locs nu15 hnu15 enu15 hR hF hw => ?_)
                                          refine lv_iconst (v := nI 0) hx hb d_M_black_348 (by decide) ?_
                                          refine lv_istore_n (lv' := [(3, .int (nI 0)), (0, .ref md), (1, .int (nI (sm (fun p => cnt (mkG nu sg p) 40) 4 + sm (fun u => cnt (mkU nu sg u) 40) (nu 7 0)))), (2, .int (nI (cnt (newU nu sg) (nu 7 0))))]) hx hb d_M_black_349 rfl hl (by decide) rfl (fun ls hl => ?_)
                                          have HL350 : ∀ (z350 t : Nat) (nuL17 : Nat → Nat → Nat) (sgL18 : Nat → Nat → Int32), t ≤ nu 21 0 → nu 21 0 + 1 ≤ t + z350 → (stQ nu sg nuL17 sgL18 t) → (∀ j, okB (sgL18 24 j)) → ∀ (M1 : xMem), mRep G M1 md am nuL17 sgL18 → eqx [23, 29] nu15 nuL17 → eqx [24, 30, 31] sgL14 sgL18 → xfr M M1 (mS md am) → ∀ (H : Heap) (locs : List Loc) (ls : Array Slot), xWd G (xA M sz) s.heap M1 H locs → lv_has ls 5 [(0, .ref md), (1, .int (nI (sm (fun p => cnt (mkG nu sg p) 40) 4 + sm (fun u => cnt (mkU nu sg u) 40) (nu 7 0) + sm (stoN nu sg) t))), (3, .int (nI t))] → W p l e { frames := 4, cells := 0, slots := 0, locals := 100 } s m ([.ref md] : List Value).toArray below meth c H locs 0 0 (xMQ below G M sz (fun v M' => v = some (.int (nI (kt (blackK nu sg = 0) (blackN nu sg) 0))) ∧ ∃ (nu' : Nat → Nat → Nat) (sg' : Nat → Nat → Int32), mRep G M' md am nu' sg' ∧ eqx [0, 1, 6, 9, 23, 29] nu nu' ∧ eqx [2, 3, 4, 5, 24, 27, 28, 30, 31] sg sg' ∧ xfr M M' (mS md am) ∧ nu' 0 0 = blackK nu sg ∧ (blackK nu sg = 0 → blackP nu sg nu' sg') ∧ (blackK nu sg ≠ 0 → eqx [0, 29] nu nu' ∧ eqx [27, 28, 30, 31] sg sg') ∧ (blackK nu sg = 0 → ∀ j, okB (sg' 24 j))) (fun _ _ => False) s 0 0) (F0 m 350 ls []) := by
                                            intro z350
                                            induction z350 with
                                            | zero =>
                                              intro t  nuL17 sgL18 h1 h2
                                              omega
                                            | succ z350 ih350 =>
                                              intro t  nuL17 sgL18 hi350 hz350 hS hOk M1 hR hnuL17 hsgL18 hF H locs ls hw hl
                                              refine lv_iload_n hx hb d_M_black_350 rfl (lv_at hl 2 rfl) ?_
                                              refine lv_aload_n hx hb d_M_black_351 rfl (lv_at hl 0 rfl) ?_
                                              refine x_get hC hw hR.1 rfl 21 (by decide) (hts _ k_755) (fun _ h9 => h9) rfl d_M_black_352 ?_
                                              refine x_vi (y := nI (nu 21 0)) (by rw [hnuL17 21 (by decide), hnu15 21 (by decide), hnuL13 21 (by decide), hnuL11 21 (by decide), hnuL9 21 (by decide), hnu7 21 (by decide), hnuL5 21 (by decide), hnuL3 21 (by decide), hnuL1 21 (by decide)]) ?_
                                              refine lv_icmp_ge (tgt := 372) hx hb d_M_black_355 (by decide) (fun c_355 => ?_) (fun c_355 => ?_)
                                              · have c_355 := (nI_leI (by omega) (by omega)).mp c_355
                                                refine lv_iload_n hx hb d_M_black_372 rfl (lv_at hl 1 rfl) ?_
                                                have hke : t = nu 21 0 := by omega
                                                subst hke
                                                have hk : blackK nu sg = 0 := by rw [blackK, kt_f (by omega)]
                                                have x6 : nuL17 6 0 = nu 6 0 + cnt (newU nu sg) (nu 7 0) := by rw [hnuL17 6 (by decide), enu15]
                                                have z1 : nuL17 1 = nuL11 1 := by rw [hnuL17 1 (by decide), hnu15 1 (by decide), hnuL13 1 (by decide)]
                                                have z2 : sgL18 2 = sgL12 2 := by rw [hsgL18 2 (by decide), hsgL14 2 (by decide)]
                                                have z3 : sgL18 3 = sgL12 3 := by rw [hsgL18 3 (by decide), hsgL14 3 (by decide)]
                                                have z4 : sgL18 4 = sgL12 4 := by rw [hsgL18 4 (by decide), hsgL14 4 (by decide)]
                                                have z5 : sgL18 5 = sgL12 5 := by rw [hsgL18 5 (by decide), hsgL14 5 (by decide)]
                                                have z9 : nuL17 9 = nuL13 9 := by rw [hnuL17 9 (by decide), hnu15 9 (by decide)]
                                                have hE : usP nu sg nuL17 sgL18 (nu 7 0) := by unfold usP rowCut rowSame at hE ⊢; rw [z1, z2, z3, z4, z5]; exact hE
                                                rw [← z9] at hUf
                                                have hbl : blackP nu sg nuL17 sgL18 := ⟨(eqx.trans (L := [0, 1, 6, 9, 23, 29]) (eqx.trans (L := [0, 1, 6, 9, 23, 29]) (eqx.trans (L := [0, 1, 6, 9, 23, 29]) (eqx.trans (L := [0, 1, 6, 9, 23, 29]) (eqx.trans (L := [0, 1, 6, 9, 23, 29]) (eqx.trans (L := [0, 1, 6, 9, 23, 29]) (eqx.trans (L := [0, 1, 6, 9, 23, 29]) (eqx.trans (L := [0, 1, 6, 9, 23, 29]) (eqx.trans (L := [0, 1, 6, 9, 23, 29]) (eqx.rf (L := [0, 1, 6, 9, 23, 29])) hnuL1 (by decide) (by decide)) hnuL3 (by decide) (by decide)) hnuL5 (by decide) (by decide)) hnu7 (by decide) (by decide)) hnuL9 (by decide) (by decide)) hnuL11 (by decide) (by decide)) hnuL13 (by decide) (by decide)) hnu15 (by decide) (by decide)) hnuL17 (by decide) (by decide)), (eqx.trans (L := [2, 3, 4, 5, 24, 27, 28, 30, 31]) (eqx.trans (L := [2, 3, 4, 5, 24, 27, 28, 30, 31]) (eqx.trans (L := [2, 3, 4, 5, 24, 27, 28, 30, 31]) (eqx.trans (L := [2, 3, 4, 5, 24, 27, 28, 30, 31]) (eqx.trans (L := [2, 3, 4, 5, 24, 27, 28, 30, 31]) (eqx.trans (L := [2, 3, 4, 5, 24, 27, 28, 30, 31]) (eqx.trans (L := [2, 3, 4, 5, 24, 27, 28, 30, 31]) (eqx.rf (L := [2, 3, 4, 5, 24, 27, 28, 30, 31])) hsgL2 (by decide) (by decide)) hsgL4 (by decide) (by decide)) hsgL6 (by decide) (by decide)) hsgL10 (by decide) (by decide)) hsgL12 (by decide) (by decide)) hsgL14 (by decide) (by decide)) hsgL18 (by decide) (by decide)), x6, hE.1, hE.2.1, hE.2.2.1, fun z hz => hE.2.2.2 z (by omega), hUf.1, hUf.2, hS.1, hS.2.1⟩
                                                exact x_iret hC hr hw (⟨(by rw [kt_t hk]; rfl), nuL17, sgL18, hR, (eqx.trans (L := [0, 1, 6, 9, 23, 29]) (eqx.trans (L := [0, 1, 6, 9, 23, 29]) (eqx.trans (L := [0, 1, 6, 9, 23, 29]) (eqx.trans (L := [0, 1, 6, 9, 23, 29]) (eqx.trans (L := [0, 1, 6, 9, 23, 29]) (eqx.trans (L := [0, 1, 6, 9, 23, 29]) (eqx.trans (L := [0, 1, 6, 9, 23, 29]) (eqx.trans (L := [0, 1, 6, 9, 23, 29]) (eqx.trans (L := [0, 1, 6, 9, 23, 29]) (eqx.rf (L := [0, 1, 6, 9, 23, 29])) hnuL1 (by decide) (by decide)) hnuL3 (by decide) (by decide)) hnuL5 (by decide) (by decide)) hnu7 (by decide) (by decide)) hnuL9 (by decide) (by decide)) hnuL11 (by decide) (by decide)) hnuL13 (by decide) (by decide)) hnu15 (by decide) (by decide)) hnuL17 (by decide) (by decide)), (eqx.trans (L := [2, 3, 4, 5, 24, 27, 28, 30, 31]) (eqx.trans (L := [2, 3, 4, 5, 24, 27, 28, 30, 31]) (eqx.trans (L := [2, 3, 4, 5, 24, 27, 28, 30, 31]) (eqx.trans (L := [2, 3, 4, 5, 24, 27, 28, 30, 31]) (eqx.trans (L := [2, 3, 4, 5, 24, 27, 28, 30, 31]) (eqx.trans (L := [2, 3, 4, 5, 24, 27, 28, 30, 31]) (eqx.trans (L := [2, 3, 4, 5, 24, 27, 28, 30, 31]) (eqx.rf (L := [2, 3, 4, 5, 24, 27, 28, 30, 31])) hsgL2 (by decide) (by decide)) hsgL4 (by decide) (by decide)) hsgL6 (by decide) (by decide)) hsgL10 (by decide) (by decide)) hsgL12 (by decide) (by decide)) hsgL14 (by decide) (by decide)) hsgL18 (by decide) (by decide)), hF, (by rw [hk, hnuL17 0 (by decide), hnu15 0 (by decide), hnuL13 0 (by decide), hnuL11 0 (by decide), hnuL9 0 (by decide), enu7]), fun _ => hbl, fun h => absurd hk h, fun _ => hOk⟩) (Nat.le_of_ble_eq_true rfl) (Nat.le_of_ble_eq_true rfl) d_M_black_373
                                              · have c_355 := Nat.not_le.mp ((not_congr (nI_leI (by omega) (by omega))).mp c_355)
                                                refine lv_iload_n hx hb d_M_black_358 rfl (lv_at hl 1 rfl) ?_
                                                refine lv_aload_n hx hb d_M_black_359 rfl (lv_at hl 0 rfl) ?_
                                                refine lv_iload_n hx hb d_M_black_360 rfl (lv_at hl 2 rfl) ?_
                                                obtain ⟨en, hen4, henq⟩ := hen t (by omega)
                                                have hcen : cN (sg 22 t) = en := by rw [henq]; exact cN_nI (by omega)
                                                have h23t := hS.2.1 t (Nat.le_refl t)
                                                have h60t := h60 t
                                                refine x_callG hC (c_M_cutStore l G M1 (Array.size H) md am nuL17 sgL18 hR t en hen4 (by omega) (by rw [h23t]; exact h60t) (by rw [hsgL18 22 (by decide), hsgL14 22 (by decide), hsgL12 22 (by decide), hsgL10 22 (by decide), hsgL6 22 (by decide), hsgL4 22 (by decide), hsgL2 22 (by decide)]; exact henq) (by rw [hnuL17 12 (by decide), hnu15 12 (by decide), hnuL13 12 (by decide), hnuL11 12 (by decide), hnuL9 12 (by decide), hnu7 12 (by decide), hnuL5 12 (by decide), hnuL3 12 (by decide), hnuL1 12 (by decide)]; exact h4) (by rw [hnuL17 13 (by decide), hnu15 13 (by decide), hnuL13 13 (by decide), hnuL11 13 (by decide), hnuL9 13 (by decide), hnu7 13 (by decide), hnuL5 13 (by decide), hnuL3 13 (by decide), hnuL1 13 (by decide)]; exact fun w _ => h8 w) (fun hw9 => by rw [h23t, sRow_c hS.2.2]; rw [wellP_c hS.2.2, h23t] at hw9; exact x_sRowOk hby hen4 hw9)) k_925 k_13 ⟨Nat.le_of_ble_eq_true rfl, Nat.le_of_ble_eq_true rfl⟩ ⟨Nat.le_of_ble_eq_true rfl, Nat.le_of_ble_eq_true rfl⟩ hw hl.1 (Nat.le_of_ble_eq_true rfl) d_M_black_361 (x_ivV hC k_925 k_922 k_924 kp_32 (show _ ∧ _ ∧ _ = some 1 from by decide +kernel) (x_recv hC hw hR.1 rfl) rfl d_M_black_361) (fun rv M19 H locs hq hw => ?_) (fun _ _ _ _ _ h _ _ => h.elim)
                                                obtain ⟨rfl, nu20, sg21, hR, hnu20, hsg21, fr, f1, f2⟩ := hq
                                                have hF := hF.trans fr (fun _ h => Or.inl h)
                                                refine W.eq (g2 := F0 m 364 ls [.int (nI (csN (wellP (sgL18 24) en (60 * t) (nuL17 23 t)) (cnt (iwP nuL17 sgL18 (sRow (sgL18 24) en (60 * t)) (stN en (nuL17 23 t))) (stN en (nuL17 23 t))))), .int (nI (sm (fun p => cnt (mkG nu sg p) 40) 4 + sm (fun u => cnt (mkU nu sg u) 40) (nu 7 0) + sm (stoN nu sg) t))]) rfl ?_
                                                refine x_vi (y := nI (stoN nu sg t)) (congrArg nI (x_stN hS hcen (by rw [hnuL17 12 (by decide), hnu15 12 (by decide), hnuL13 12 (by decide), hnuL11 12 (by decide), hnuL9 12 (by decide), hnu7 12 (by decide), hnuL5 12 (by decide), hnuL3 12 (by decide), hnuL1 12 (by decide)]) (by rw [hnuL17 13 (by decide), hnu15 13 (by decide), hnuL13 13 (by decide), hnuL11 13 (by decide), hnuL9 13 (by decide), hnu7 13 (by decide), hnuL5 13 (by decide), hnuL3 13 (by decide), hnuL1 13 (by decide)]) (by rw [hsgL18 14 (by decide), hsgL14 14 (by decide), hsgL12 14 (by decide), hsgL10 14 (by decide), hsgL6 14 (by decide), hsgL4 14 (by decide), hsgL2 14 (by decide)]))) ?_
                                                refine lv_iadd hx hb d_M_black_364 ?_
                                                refine x_vi (y := nI ((sm (fun p => cnt (mkG nu sg p) 40) 4 + sm (fun u => cnt (mkU nu sg u) 40) (nu 7 0) + sm (stoN nu sg) t) + (stoN nu sg t))) (nI_add _ _) ?_
                                                refine x_vi (y := nI (sm (fun p => cnt (mkG nu sg p) 40) 4 + sm (fun u => cnt (mkU nu sg u) 40) (nu 7 0) + sm (stoN nu sg) (t + 1))) (congrArg nI (Nat.add_assoc _ _ _)) ?_
                                                refine lv_istore_n (lv' := [(1, .int (nI (sm (fun p => cnt (mkG nu sg p) 40) 4 + sm (fun u => cnt (mkU nu sg u) 40) (nu 7 0) + sm (stoN nu sg) (t + 1)))), (0, .ref md), (3, .int (nI t))]) hx hb d_M_black_365 rfl hl (by decide) rfl (fun ls hl => ?_)
                                                refine lv_iinc (v := nI (t + 1)) (lv' := [(3, .int (nI (t + 1))), (1, .int (nI (sm (fun p => cnt (mkG nu sg p) 40) 4 + sm (fun u => cnt (mkU nu sg u) 40) (nu 7 0) + sm (stoN nu sg) (t + 1)))), (0, .ref md)]) hx hb d_M_black_366 hl (k := 2) rfl (by exact nI_1 _) (by decide) rfl (fun ls hl => ?_)
                                                refine lv_goto (tgt := 350) hx hb d_M_black_369 (by decide) ?_
                                                exact ih350 (t + 1)  nu20 sg21 (by omega) (by omega) (x_st hS hcen h60 (by rw [hnuL17 12 (by decide), hnu15 12 (by decide), hnuL13 12 (by decide), hnuL11 12 (by decide), hnuL9 12 (by decide), hnu7 12 (by decide), hnuL5 12 (by decide), hnuL3 12 (by decide), hnuL1 12 (by decide)]) (by rw [hnuL17 13 (by decide), hnu15 13 (by decide), hnuL13 13 (by decide), hnuL11 13 (by decide), hnuL9 13 (by decide), hnu7 13 (by decide), hnuL5 13 (by decide), hnuL3 13 (by decide), hnuL1 13 (by decide)]) (by rw [hsgL18 14 (by decide), hsgL14 14 (by decide), hsgL12 14 (by decide), hsgL10 14 (by decide), hsgL6 14 (by decide), hsgL4 14 (by decide), hsgL2 14 (by decide)]) f1 f2) (x_bOk hOk f1 f2 (fun hw9 => x_sRowOk hOk hen4 hw9)) _ hR (eqx.trans (L := [23, 29]) (eqx.trans (L := [23, 29]) (eqx.rf (L := [23, 29])) hnuL17 (by decide) (by decide)) hnu20 (by decide) (by decide)) (eqx.trans (L := [24, 30, 31]) (eqx.trans (L := [24, 30, 31]) (eqx.rf (L := [24, 30, 31])) hsgL18 (by decide) (by decide)) hsg21 (by decide) (by decide)) hF _ _ _ hw (lv_sub hl [2, 1, 0] rfl)
                                          exact HL350 (nu 21 0 + 1) (0)  nu15 sgL14 (by omega) (by omega) (⟨fun x hx => absurd hx (Nat.not_lt_zero x), fun x _ => by rw [hnu15 23 (by decide), hnuL13 23 (by decide), hnuL11 23 (by decide), hnuL9 23 (by decide), hnu7 23 (by decide), hnuL5 23 (by decide), hnuL3 23 (by decide), hnuL1 23 (by decide)], fun j _ => by rw [hsgL14 24 (by decide), hsgL12 24 (by decide), hsgL10 24 (by decide), hsgL6 24 (by decide), hsgL4 24 (by decide), hsgL2 24 (by decide)]⟩) (by rw [hsgL14 24 (by decide), hsgL12 24 (by decide), hsgL10 24 (by decide), hsgL6 24 (by decide), hsgL4 24 (by decide), hsgL2 24 (by decide)]; exact hby) _ hR eqx.rf eqx.rf hF _ _ _ hw (lv_sub hl [1, 2, 0] rfl)
                                        · have c_298 := Nat.not_le.mp ((not_congr (nI_leI (by omega) (by omega))).mp c_298)
                                          refine lv_aload_n hx hb d_M_black_301 rfl (lv_at hl 0 rfl) ?_
                                          refine x_get hC hw hR.1 rfl 9 (by decide) (hts _ k_743) (fun _ h9 => h9) rfl d_M_black_302 ?_
                                          refine lv_iload_n hx hb d_M_black_305 rfl (lv_at hl 3 rfl) ?_
                                          refine lv_aload_n hx hb d_M_black_306 rfl (lv_at hl 0 rfl) ?_
                                          refine x_get hC hw hR.1 rfl 28 (by decide) (hts _ k_762) (fun _ h9 => h9) rfl d_M_black_307 ?_
                                          refine lv_iload_n hx hb d_M_black_310 rfl (lv_at hl 3 rfl) ?_
                                          refine m_ldI hC hw hR 28 u rfl (rfl) (by show _ < 12; omega) (by decide) d_M_black_311 ?_
                                          refine x_vi (y := sgL6 28 u) (by rw [hsgL14 28 (by decide), hsgL12 28 (by decide), hsgL10 28 (by decide)]) ?_
                                          refine lv_iconst (v := (-1)) hx hb d_M_black_312 (by decide) ?_
                                          refine lv_icmp_eq (tgt := 325) hx hb d_M_black_313 (by decide) (fun c_313 => ?_) (fun c_313 => ?_)
                                          · have hnu : ¬ hasU nu sg u := fun z => by obtain ⟨c, e1, e2⟩ := (hCp u (by omega)).1 z; exact x_nm1 (by have := (e2.lt (show u < nu 7 0 by omega)).2; omega) (e1.symm.trans c_313)
                                            refine lv_aload_n hx hb d_M_black_325 rfl (lv_at hl 0 rfl) ?_
                                            refine x_get hC hw hR.1 rfl 9 (by decide) (hts _ k_743) (fun _ h9 => h9) rfl d_M_black_326 ?_
                                            refine lv_iload_n hx hb d_M_black_329 rfl (lv_at hl 3 rfl) ?_
                                            refine m_ldN hC hw hR 9 u rfl (rfl) (by show _ < 12; omega) (by decide) d_M_black_330 ?_
                                            refine m_stN hC hw hR hF 9 u (nuL13 9 u) rfl (rfl) rfl (by show _ < 12; omega) (by decide) d_M_black_331 (fun M22 H locs nu23 hnu23 enu23 hR hF hw => ?_)
                                            refine lv_iinc (v := nI (u + 1)) (lv' := [(3, .int (nI (u + 1))), (0, .ref md), (1, .int (nI (sm (fun p => cnt (mkG nu sg p) 40) 4 + sm (fun u => cnt (mkU nu sg u) 40) (nu 7 0)))), (2, .int (nI (cnt (newU nu sg) (nu 7 0))))]) hx hb d_M_black_332 hl (k := 3) rfl (by exact nI_1 _) (by decide) rfl (fun ls hl => ?_)
                                            refine lv_goto (tgt := 293) hx hb d_M_black_335 (by decide) ?_
                                            exact ih293 (u + 1)  nu23 sgL14 (by omega) (by omega) (x_ufN hUf hnu enu23) _ hR (eqx.trans (L := [9]) (eqx.trans (L := [9]) (eqx.rf (L := [9])) hnuL13 (by decide) (by decide)) hnu23 (by decide) (by decide)) (eqx.trans (L := []) (eqx.rf (L := [])) hsgL14 (by decide) (by decide)) hF _ _ _ hw (lv_sub hl [1, 2, 3, 0] rfl)
                                          · have hyu : hasU nu sg u := Classical.byContradiction (fun z => c_313 ((hCp u (by omega)).2 z))
                                            obtain ⟨c, e28, hcf⟩ := (hCp u (by omega)).1 hyu
                                            refine lv_aload_n hx hb d_M_black_316 rfl (lv_at hl 0 rfl) ?_
                                            refine x_get hC hw hR.1 rfl 28 (by decide) (hts _ k_762) (fun _ h9 => h9) rfl d_M_black_317 ?_
                                            refine lv_iload_n hx hb d_M_black_320 rfl (lv_at hl 3 rfl) ?_
                                            refine m_ldI hC hw hR 28 u rfl (rfl) (by show _ < 12; omega) (by decide) d_M_black_321 ?_
                                            refine x_vi (y := sgL6 28 u) (by rw [hsgL14 28 (by decide), hsgL12 28 (by decide), hsgL10 28 (by decide)]) ?_
                                            refine x_vi (y := nI c) e28 ?_
                                            refine lv_goto (tgt := 331) hx hb d_M_black_322 (by decide) ?_
                                            refine m_stN hC hw hR hF 9 u c rfl (rfl) rfl (by show _ < 12; omega) (by decide) d_M_black_331 (fun M24 H locs nu25 hnu25 enu25 hR hF hw => ?_)
                                            refine lv_iinc (v := nI (u + 1)) (lv' := [(3, .int (nI (u + 1))), (0, .ref md), (1, .int (nI (sm (fun p => cnt (mkG nu sg p) 40) 4 + sm (fun u => cnt (mkU nu sg u) 40) (nu 7 0)))), (2, .int (nI (cnt (newU nu sg) (nu 7 0))))]) hx hb d_M_black_332 hl (k := 3) rfl (by exact nI_1 _) (by decide) rfl (fun ls hl => ?_)
                                            refine lv_goto (tgt := 293) hx hb d_M_black_335 (by decide) ?_
                                            exact ih293 (u + 1)  nu25 sgL14 (by omega) (by omega) (x_ufY hUf hyu hcf enu25) _ hR (eqx.trans (L := [9]) (eqx.trans (L := [9]) (eqx.rf (L := [9])) hnuL13 (by decide) (by decide)) hnu25 (by decide) (by decide)) (eqx.trans (L := []) (eqx.rf (L := [])) hsgL14 (by decide) (by decide)) hF _ _ _ hw (lv_sub hl [1, 2, 3, 0] rfl)
                                    exact HL293 (nu 7 0 + 1) (0)  nuL11 sgL12 (by omega) (by omega) (by rw [hnuL11 9 (by decide), hnuL9 9 (by decide), hnu7 9 (by decide), hnuL5 9 (by decide), hnuL3 9 (by decide), hnuL1 9 (by decide)]; exact ⟨fun w hw => absurd hw (Nat.not_lt_zero w), fun _ _ => rfl⟩) _ hR eqx.rf eqx.rf hF _ _ _ hw (lv_sub hl [1, 2, 3, 0] rfl)
                                  · have c_248 := Nat.not_le.mp ((not_congr (nI_leI (by omega) (by omega))).mp c_248)
                                    refine lv_aload_n hx hb d_M_black_251 rfl (lv_at hl 0 rfl) ?_
                                    refine x_get hC hw hR.1 rfl 28 (by decide) (hts _ k_762) (fun _ h9 => h9) rfl d_M_black_252 ?_
                                    refine lv_iload_n hx hb d_M_black_255 rfl (lv_at hl 3 rfl) ?_
                                    refine m_ldI hC hw hR 28 u rfl (rfl) (by show _ < 12; omega) (by decide) d_M_black_256 ?_
                                    refine x_vi (y := sgL6 28 u) (by rw [hsgL12 28 (by decide), hsgL10 28 (by decide)]) ?_
                                    refine lv_iconst (v := (-1)) hx hb d_M_black_257 (by decide) ?_
                                    refine lv_icmp_eq (tgt := 285) hx hb d_M_black_258 (by decide) (fun c_258 => ?_) (fun c_258 => ?_)
                                    · have hnu : ¬ hasU nu sg u := fun z => by obtain ⟨c, e1, e2⟩ := (hCp u (by omega)).1 z; exact x_nm1 (by have := (e2.lt (show u < nu 7 0 by omega)).2; omega) (e1.symm.trans c_258)
                                      refine lv_iinc (v := nI (u + 1)) (lv' := [(3, .int (nI (u + 1))), (0, .ref md), (1, .int (nI (sm (fun p => cnt (mkG nu sg p) 40) 4 + sm (fun u => cnt (mkU nu sg u) 40) (nu 7 0)))), (2, .int (nI (cnt (newU nu sg) (nu 7 0))))]) hx hb d_M_black_285 hl (k := 3) rfl (by exact nI_1 _) (by decide) rfl (fun ls hl => ?_)
                                      refine lv_goto (tgt := 243) hx hb d_M_black_288 (by decide) ?_
                                      exact ih243 (u + 1)  nuL11 sgL12 (by omega) (by omega) (x_usNo hE hnu) _ hR (eqx.trans (L := [1]) (eqx.rf (L := [1])) hnuL11 (by decide) (by decide)) (eqx.trans (L := [2, 3, 4, 5]) (eqx.rf (L := [2, 3, 4, 5])) hsgL12 (by decide) (by decide)) hF _ _ _ hw (lv_sub hl [1, 2, 3, 0] rfl)
                                    · have hyu : hasU nu sg u := Classical.byContradiction (fun z => c_258 ((hCp u (by omega)).2 z))
                                      obtain ⟨c, e28, hcf⟩ := (hCp u (by omega)).1 hyu
                                      have hcl := hcf.lt (show u < nu 7 0 by omega)
                                      have hfu := hfm u (by omega)
                                      refine lv_aload_n hx hb d_M_black_261 rfl (lv_at hl 0 rfl) ?_
                                      refine lv_iconst (v := nI 4) hx hb d_M_black_262 (by decide) ?_
                                      refine lv_aload_n hx hb d_M_black_263 rfl (lv_at hl 0 rfl) ?_
                                      refine x_get hC hw hR.1 rfl 9 (by decide) (hts _ k_743) (fun _ h9 => h9) rfl d_M_black_264 ?_
                                      refine lv_iload_n hx hb d_M_black_267 rfl (lv_at hl 3 rfl) ?_
                                      refine m_ldN hC hw hR 9 u rfl (rfl) (by show _ < 12; omega) (by decide) d_M_black_268 ?_
                                      refine x_vi (y := nI (nu 9 u)) (by rw [hnuL11 9 (by decide), hnuL9 9 (by decide), hnu7 9 (by decide), hnuL5 9 (by decide), hnuL3 9 (by decide), hnuL1 9 (by decide)]) ?_
                                      refine lv_iadd hx hb d_M_black_269 ?_
                                      refine x_vi (y := nI (4 + (nu 9 u))) (nI_add _ _) ?_
                                      refine lv_iconst (v := nI 4) hx hb d_M_black_270 (by decide) ?_
                                      refine lv_aload_n hx hb d_M_black_271 rfl (lv_at hl 0 rfl) ?_
                                      refine x_get hC hw hR.1 rfl 28 (by decide) (hts _ k_762) (fun _ h9 => h9) rfl d_M_black_272 ?_
                                      refine lv_iload_n hx hb d_M_black_275 rfl (lv_at hl 3 rfl) ?_
                                      refine m_ldI hC hw hR 28 u rfl (rfl) (by show _ < 12; omega) (by decide) d_M_black_276 ?_
                                      refine x_vi (y := sgL6 28 u) (by rw [hsgL12 28 (by decide), hsgL10 28 (by decide)]) ?_
                                      refine x_vi (y := nI c) e28 ?_
                                      refine lv_iadd hx hb d_M_black_277 ?_
                                      refine x_vi (y := nI (4 + c)) (nI_add _ _) ?_
                                      refine lv_iload_n hx hb d_M_black_278 rfl (lv_at hl 3 rfl) ?_
                                      refine x_callG hC (c_M_markPlace l G M1 (Array.size H) u) k_909 k_13 ⟨Nat.le_of_ble_eq_true rfl, Nat.le_of_ble_eq_true rfl⟩ ⟨Nat.le_of_ble_eq_true rfl, Nat.le_of_ble_eq_true rfl⟩ hw hl.1 (Nat.le_of_ble_eq_true rfl) d_M_black_279 (x_ivS hC k_909 k_907 k_908 k_13 (show _ ∧ _ ∧ _ = some 1 from by decide +kernel) rfl d_M_black_279) (fun rv M26 H locs hq hw => ?_) (fun _ _ _ _ _ h _ _ => h.elim)
                                      obtain ⟨rfl, hM⟩ := hq
                                      subst M26
                                      refine W.eq (g2 := F0 m 282 ls [.int (nI (160 + 40 * u)), .int (nI (4 + c)), .int (nI (4 + (nu 9 u))), .ref md]) rfl ?_
                                      refine x_callG hC (c_M_cut l G M1 (Array.size H) md am nuL11 sgL12 hR (4 + nu 9 u) (4 + c) (160 + 40 * u) (mkU nu sg u) (by omega) (by omega) (by omega) (by rw [(hE.2.1 _ hfu).1]; exact h40 _) (by rw [hsgL12 27 (by decide), hsgL10 27 (by decide), hsgL6 27 (by decide)]; exact hB u (by omega))) k_921 k_13 ⟨Nat.le_of_ble_eq_true rfl, Nat.le_of_ble_eq_true rfl⟩ ⟨Nat.le_of_ble_eq_true rfl, Nat.le_of_ble_eq_true rfl⟩ hw hl.1 (Nat.le_of_ble_eq_true rfl) d_M_black_282 (x_ivV hC k_921 k_918 k_920 kp_31 (show _ ∧ _ ∧ _ = some 3 from by decide +kernel) (x_recv hC hw hR.1 rfl) rfl d_M_black_282) (fun rv M27 H locs hq hw => ?_) (fun _ _ _ _ _ h _ _ => h.elim)
                                      obtain ⟨rfl, nu28, sg29, hR, hnu28, hsg29, fr, f1, f2, f3, f4, f5⟩ := hq
                                      have hF := hF.trans fr (fun _ h => Or.inl h)
                                      refine W.eq (g2 := F0 m 285 ls []) rfl ?_
                                      refine lv_iinc (v := nI (u + 1)) (lv' := [(3, .int (nI (u + 1))), (0, .ref md), (1, .int (nI (sm (fun p => cnt (mkG nu sg p) 40) 4 + sm (fun u => cnt (mkU nu sg u) 40) (nu 7 0)))), (2, .int (nI (cnt (newU nu sg) (nu 7 0))))]) hx hb d_M_black_285 hl (k := 3) rfl (by exact nI_1 _) (by decide) rfl (fun ls hl => ?_)
                                      refine lv_goto (tgt := 243) hx hb d_M_black_288 (by decide) ?_
                                      exact ih243 (u + 1)  nu28 sg29 (by omega) (by omega) (x_usY hE (by omega) hfu hfm hcf ⟨f1, f2, f3, f4, f5⟩ h40) _ hR (eqx.trans (L := [1]) (eqx.trans (L := [1]) (eqx.rf (L := [1])) hnuL11 (by decide) (by decide)) hnu28 (by decide) (by decide)) (eqx.trans (L := [2, 3, 4, 5]) (eqx.trans (L := [2, 3, 4, 5]) (eqx.rf (L := [2, 3, 4, 5])) hsgL12 (by decide) (by decide)) hsg29 (by decide) (by decide)) hF _ _ _ hw (lv_sub hl [1, 2, 3, 0] rfl)
                              exact HL243 (nu 7 0 + 1) (0)  nuL9 sgL10 (by omega) (by omega) (⟨fun p hp => hP.1 p hp, fun f hf => hP.2 _ (by omega), fun w hw => absurd hw (Nat.not_lt_zero w), fun z hz => (hP.2 z (by omega)).1⟩) _ hR eqx.rf eqx.rf hF _ _ _ hw (lv_sub hl [1, 2, 3, 0] rfl)
                            · have c_222 := Nat.not_le.mp ((not_congr (nI_leI (by omega) (by omega))).mp c_222)
                              refine lv_aload_n hx hb d_M_black_225 rfl (lv_at hl 0 rfl) ?_
                              refine lv_iload_n hx hb d_M_black_226 rfl (lv_at hl 3 rfl) ?_
                              refine lv_iload_n hx hb d_M_black_227 rfl (lv_at hl 3 rfl) ?_
                              refine lv_bipush (v := nI 40) hx hb d_M_black_228 (by decide) ?_
                              refine lv_iload_n hx hb d_M_black_230 rfl (lv_at hl 3 rfl) ?_
                              refine lv_imul hx hb d_M_black_231 ?_
                              refine x_vi (y := nI (40 * q)) (pk_mul _ _) ?_
                              refine x_callG hC (c_M_cut l G M1 (Array.size H) md am nuL9 sgL10 hR q q (40 * q) (mkG nu sg q) (by omega) (by omega) (by omega) (by rw [(hP.2 q (Nat.le_refl q)).1]; exact h40 q) (by rw [hsgL10 27 (by decide), hsgL6 27 (by decide)]; exact hA q (by omega))) k_921 k_13 ⟨Nat.le_of_ble_eq_true rfl, Nat.le_of_ble_eq_true rfl⟩ ⟨Nat.le_of_ble_eq_true rfl, Nat.le_of_ble_eq_true rfl⟩ hw hl.1 (Nat.le_of_ble_eq_true rfl) d_M_black_232 (x_ivV hC k_921 k_918 k_920 kp_31 (show _ ∧ _ ∧ _ = some 3 from by decide +kernel) (x_recv hC hw hR.1 rfl) rfl d_M_black_232) (fun rv M30 H locs hq hw => ?_) (fun _ _ _ _ _ h _ _ => h.elim)
                              obtain ⟨rfl, nu31, sg32, hR, hnu31, hsg32, fr, f1, f2, f3, f4, f5⟩ := hq
                              have hF := hF.trans fr (fun _ h => Or.inl h)
                              refine W.eq (g2 := F0 m 235 ls []) rfl ?_
                              refine lv_iinc (v := nI (q + 1)) (lv' := [(3, .int (nI (q + 1))), (0, .ref md), (1, .int (nI (sm (fun p => cnt (mkG nu sg p) 40) 4 + sm (fun u => cnt (mkU nu sg u) 40) (nu 7 0)))), (2, .int (nI (cnt (newU nu sg) (nu 7 0))))]) hx hb d_M_black_235 hl (k := 3) rfl (by exact nI_1 _) (by decide) rfl (fun ls hl => ?_)
                              refine lv_goto (tgt := 220) hx hb d_M_black_238 (by decide) ?_
                              exact ih220 (q + 1)  nu31 sg32 (by omega) (by omega) (x_pgs hP ⟨f1, f2, f3, f4, f5⟩ h40) _ hR (eqx.trans (L := [1]) (eqx.trans (L := [1]) (eqx.rf (L := [1])) hnuL9 (by decide) (by decide)) hnu31 (by decide) (by decide)) (eqx.trans (L := [2, 3, 4, 5]) (eqx.trans (L := [2, 3, 4, 5]) (eqx.rf (L := [2, 3, 4, 5])) hsgL10 (by decide) (by decide)) hsg32 (by decide) (by decide)) hF _ _ _ hw (lv_sub hl [1, 2, 3, 0] rfl)
                        exact HL220 (4 + 1) (0)  nu7 sgL6 (by omega) (by omega) (⟨fun p hp => absurd hp (Nat.not_lt_zero p), fun z _ => by unfold rowSame; rw [hnu7 1 (by decide), hnuL5 1 (by decide), hnuL3 1 (by decide), hnuL1 1 (by decide), hsgL6 2 (by decide), hsgL4 2 (by decide), hsgL2 2 (by decide), hsgL6 3 (by decide), hsgL4 3 (by decide), hsgL2 3 (by decide), hsgL6 4 (by decide), hsgL4 4 (by decide), hsgL2 4 (by decide), hsgL6 5 (by decide), hsgL4 5 (by decide), hsgL2 5 (by decide)]; exact ⟨rfl, fun _ _ => ⟨rfl, rfl, rfl, rfl⟩⟩⟩) _ hR eqx.rf eqx.rf hF _ _ _ hw (lv_sub hl [1, 2, 3, 0] rfl)
                      · exact absurd c_213 (by decide +kernel)
                    · have c_198 := Nat.not_le.mp ((not_congr (nI_leI (by omega) (by omega))).mp c_198)
                      refine lv_iconst (v := nI 1) hx hb d_M_black_201 (by decide) ?_
                      refine lv_goto (tgt := 206) hx hb d_M_black_202 (by decide) ?_
                      refine m_put hC hw hR hF 0 1 rfl (by decide) (hts _ k_734) (fun _ h9 => h9) rfl (by decide +kernel) rfl rfl d_M_black_206 (fun M34 H locs nu33 hnu33 enu33 hR hF hw => ?_)
                      refine lv_aload_n hx hb d_M_black_209 rfl (lv_at hl 0 rfl) ?_
                      refine x_get hC hw hR.1 rfl 0 (by decide) (hts _ k_734) (fun _ h9 => h9) rfl d_M_black_210 ?_
                      refine x_vi (y := nI 1) (by rw [enu33]) ?_
                      refine lv_if_le (tgt := 218) hx hb d_M_black_213 (by decide) (fun c_213 => ?_) (fun c_213 => ?_)
                      · exact absurd c_213 (by decide +kernel)
                      · refine lv_iconst (v := nI 0) hx hb d_M_black_216 (by decide) ?_
                        have hk : blackK nu sg = 1 := by rw [blackK, kt_t c_198]
                        exact x_iret hC hr hw (⟨congrArg (fun z => some (Value.int (nI z))) (kt_f (by rw [hk]; decide)).symm, nu33, sgL6, hR, (eqx.trans (L := [0, 1, 6, 9, 23, 29]) (eqx.trans (L := [0, 1, 6, 9, 23, 29]) (eqx.trans (L := [0, 1, 6, 9, 23, 29]) (eqx.trans (L := [0, 1, 6, 9, 23, 29]) (eqx.rf (L := [0, 1, 6, 9, 23, 29])) hnuL1 (by decide) (by decide)) hnuL3 (by decide) (by decide)) hnuL5 (by decide) (by decide)) hnu33 (by decide) (by decide)), (eqx.trans (L := [2, 3, 4, 5, 24, 27, 28, 30, 31]) (eqx.trans (L := [2, 3, 4, 5, 24, 27, 28, 30, 31]) (eqx.trans (L := [2, 3, 4, 5, 24, 27, 28, 30, 31]) (eqx.rf (L := [2, 3, 4, 5, 24, 27, 28, 30, 31])) hsgL2 (by decide) (by decide)) hsgL4 (by decide) (by decide)) hsgL6 (by decide) (by decide)), hF, (by rw [hk, enu33]), fun h => absurd h (by rw [hk]; decide), fun _ => ⟨(eqx.trans (L := [0, 29]) (eqx.trans (L := [0, 29]) (eqx.trans (L := [0, 29]) (eqx.trans (L := [0, 29]) (eqx.rf (L := [0, 29])) hnuL1 (by decide) (by decide)) hnuL3 (by decide) (by decide)) hnuL5 (by decide) (by decide)) hnu33 (by decide) (by decide)), (eqx.trans (L := [27, 28, 30, 31]) (eqx.trans (L := [27, 28, 30, 31]) (eqx.trans (L := [27, 28, 30, 31]) (eqx.rf (L := [27, 28, 30, 31])) hsgL2 (by decide) (by decide)) hsgL4 (by decide) (by decide)) hsgL6 (by decide) (by decide))⟩, fun h => absurd h (by rw [hk]; decide)⟩) (Nat.le_of_ble_eq_true rfl) (Nat.le_of_ble_eq_true rfl) d_M_black_217
                  · have c_92 := Nat.not_le.mp ((not_congr (nI_leI (by omega) (by omega))).mp c_92)
                    refine lv_aload_n hx hb d_M_black_95 rfl (lv_at hl 0 rfl) ?_
                    refine x_get hC hw hR.1 rfl 28 (by decide) (hts _ k_762) (fun _ h9 => h9) rfl d_M_black_96 ?_
                    refine lv_iload_n hx hb d_M_black_99 rfl (lv_at hl 3 rfl) ?_
                    refine lv_iconst (v := (-1)) hx hb d_M_black_100 (by decide) ?_
                    refine m_stI hC hw hR hF 28 u rfl (rfl) (by show _ < 12; omega) (by decide) d_M_black_101 (fun M35 H locs sg36 hsg36 esg36 hR hF hw => ?_)
                    refine lv_aload_n hx hb d_M_black_102 rfl (lv_at hl 0 rfl) ?_
                    refine lv_iload_n hx hb d_M_black_103 rfl (lv_at hl 3 rfl) ?_
                    have hbu := hB u (by omega)
                    refine x_callG hC (c_M_hasMark l G M35 (Array.size H) md am nuL5 sg36 hR u (by omega)) k_913 k_13 ⟨Nat.le_of_ble_eq_true rfl, Nat.le_of_ble_eq_true rfl⟩ ⟨Nat.le_of_ble_eq_true rfl, Nat.le_of_ble_eq_true rfl⟩ hw hl.1 (Nat.le_of_ble_eq_true rfl) d_M_black_104 (x_ivV hC k_913 k_910 k_912 kp_29 (show _ ∧ _ ∧ _ = some 1 from by decide +kernel) (x_recv hC hw hR.1 rfl) rfl d_M_black_104) (fun rv M37 H locs hq hw => ?_) (fun _ _ _ _ _ h _ _ => h.elim)
                    obtain ⟨rfl, hM⟩ := hq
                    subst M37
                    refine W.eq (g2 := F0 m 107 ls [.int (zI (∃ j, j < 40 ∧ ¬ sg36 27 (160 + 40 * u + j) = 0))]) rfl ?_
                    refine x_vi (y := zI (hasU nu sg u)) (zI_c (by rw [hsg36 27 (by decide), hsgL6 27 (by decide)]; exact x_hm hbu)) ?_
                    refine lv_if_eq (tgt := 183) hx hb d_M_black_107 (by decide) (fun c_107 => ?_) (fun c_107 => ?_)
                    · have c_107 := zI_0.mp c_107
                      have hcn : cnt (newU nu sg) (u + 1) = cnt (newU nu sg) u := cnt_f (fun z => c_107 z.1)
                      rw [← hcn] at hl
                      refine lv_iinc (v := nI (u + 1)) (lv' := [(3, .int (nI (u + 1))), (0, .ref md), (1, .int (nI (sm (fun p => cnt (mkG nu sg p) 40) 4 + sm (fun u => cnt (mkU nu sg u) 40) (nu 7 0)))), (2, .int (nI (cnt (newU nu sg) (u + 1))))]) hx hb d_M_black_183 hl (k := 3) rfl (by exact nI_1 _) (by decide) rfl (fun ls hl => ?_)
                      refine lv_goto (tgt := 87) hx hb d_M_black_186 (by decide) ?_
                      exact ih87 (u + 1)  nuL5 sg36 (by omega) (by omega) (x_cpNo hCp c_107 esg36) _ hR (eqx.trans (L := []) (eqx.rf (L := [])) hnuL5 (by decide) (by decide)) (eqx.trans (L := [28]) (eqx.trans (L := [28]) (eqx.rf (L := [28])) hsgL6 (by decide) (by decide)) hsg36 (by decide) (by decide)) hF _ _ _ hw (lv_sub hl [1, 2, 3, 0] rfl)
                    · have c_107 := zI_1.mp c_107
                      refine lv_iload_n hx hb d_M_black_110 rfl (lv_at hl 3 rfl) ?_
                      refine lv_iconst (v := nI 1) hx hb d_M_black_111 (by decide) ?_
                      refine lv_isub hx hb d_M_black_112 ?_
                      refine lv_istore (lv' := [(4, .int (nI u - nI 1)), (0, .ref md), (1, .int (nI (sm (fun p => cnt (mkG nu sg p) 40) 4 + sm (fun u => cnt (mkU nu sg u) 40) (nu 7 0)))), (2, .int (nI (cnt (newU nu sg) u))), (3, .int (nI u))]) hx hb d_M_black_113 hl (by decide) rfl (fun ls hl => ?_)
                      have HL115 : ∀ (z115 i : Nat) (nuL38 : Nat → Nat → Nat) (sgL39 : Nat → Nat → Int32), i ≤ u → u + 1 ≤ i + z115 → (∀ w, w < u → sgL39 28 w = sgL6 28 w) → (inP2 nu sg u i (sgL6 28) (sgL39 28)) → ∀ (M1 : xMem), mRep G M1 md am nuL38 sgL39 → eqx [] nuL5 nuL38 → eqx [28] sg36 sgL39 → xfr M M1 (mS md am) → ∀ (H : Heap) (locs : List Loc) (ls : Array Slot), xWd G (xA M sz) s.heap M1 H locs → lv_has ls 5 [(0, .ref md), (1, .int (nI (sm (fun p => cnt (mkG nu sg p) 40) 4 + sm (fun u => cnt (mkU nu sg u) 40) (nu 7 0)))), (2, .int (nI (cnt (newU nu sg) u))), (3, .int (nI u)), (4, .int (nI (u - i) - nI 1))] → W p l e { frames := 4, cells := 0, slots := 0, locals := 100 } s m ([.ref md] : List Value).toArray below meth c H locs 0 0 (xMQ below G M sz (fun v M' => v = some (.int (nI (kt (blackK nu sg = 0) (blackN nu sg) 0))) ∧ ∃ (nu' : Nat → Nat → Nat) (sg' : Nat → Nat → Int32), mRep G M' md am nu' sg' ∧ eqx [0, 1, 6, 9, 23, 29] nu nu' ∧ eqx [2, 3, 4, 5, 24, 27, 28, 30, 31] sg sg' ∧ xfr M M' (mS md am) ∧ nu' 0 0 = blackK nu sg ∧ (blackK nu sg = 0 → blackP nu sg nu' sg') ∧ (blackK nu sg ≠ 0 → eqx [0, 29] nu nu' ∧ eqx [27, 28, 30, 31] sg sg') ∧ (blackK nu sg = 0 → ∀ j, okB (sg' 24 j))) (fun _ _ => False) s 0 0) (F0 m 115 ls []) := by
                        intro z115
                        induction z115 with
                        | zero =>
                          intro i  nuL38 sgL39 h1 h2
                          omega
                        | succ z115 ih115 =>
                          intro i  nuL38 sgL39 hi115 hz115 hU hD M1 hR hnuL38 hsgL39 hF H locs ls hw hl
                          refine lv_iload hx hb d_M_black_115 (lv_at hl 4 rfl) ?_
                          refine lv_if_lt (tgt := 158) hx hb d_M_black_117 (by decide) (fun c_117 => ?_) (fun c_117 => ?_)
                          · have c_117 := (x_neg (by omega)).mp c_117
                            refine lv_aload_n hx hb d_M_black_158 rfl (lv_at hl 0 rfl) ?_
                            refine x_get hC hw hR.1 rfl 28 (by decide) (hts _ k_762) (fun _ h9 => h9) rfl d_M_black_159 ?_
                            refine lv_iload_n hx hb d_M_black_162 rfl (lv_at hl 3 rfl) ?_
                            refine m_ldI hC hw hR 28 u rfl (rfl) (by show _ < 12; omega) (by decide) d_M_black_163 ?_
                            refine lv_iconst (v := (-1)) hx hb d_M_black_164 (by decide) ?_
                            refine lv_icmp_ne (tgt := 183) hx hb d_M_black_165 (by decide) (fun c_165 => ?_) (fun c_165 => ?_)
                            · have hold := x_cpOld hCp hU c_117 hD c_107 c_165
                              have hcn : cnt (newU nu sg) (u + 1) = cnt (newU nu sg) u := cnt_f hold.2
                              rw [← hcn] at hl
                              refine lv_iinc (v := nI (u + 1)) (lv' := [(3, .int (nI (u + 1))), (0, .ref md), (1, .int (nI (sm (fun p => cnt (mkG nu sg p) 40) 4 + sm (fun u => cnt (mkU nu sg u) 40) (nu 7 0)))), (2, .int (nI (cnt (newU nu sg) (u + 1)))), (4, .int (nI (u - i) - nI 1))]) hx hb d_M_black_183 hl (k := 3) rfl (by exact nI_1 _) (by decide) rfl (fun ls hl => ?_)
                              refine lv_goto (tgt := 87) hx hb d_M_black_186 (by decide) ?_
                              exact ih87 (u + 1)  nuL38 sgL39 (by omega) (by omega) (hold.1) _ hR (eqx.trans (L := []) (eqx.trans (L := []) (eqx.rf (L := [])) hnuL5 (by decide) (by decide)) hnuL38 (by decide) (by decide)) (eqx.trans (L := [28]) (eqx.trans (L := [28]) (eqx.trans (L := [28]) (eqx.rf (L := [28])) hsgL6 (by decide) (by decide)) hsg36 (by decide) (by decide)) hsgL39 (by decide) (by decide)) hF _ _ _ hw (lv_sub hl [1, 2, 3, 0] rfl)
                            · have hnew := x_cpNew hCp c_117 hD c_107 c_165 (fun w c hw hc => by have := (hc.lt hw).2; omega)
                              refine lv_aload_n hx hb d_M_black_168 rfl (lv_at hl 0 rfl) ?_
                              refine x_get hC hw hR.1 rfl 28 (by decide) (hts _ k_762) (fun _ h9 => h9) rfl d_M_black_169 ?_
                              refine lv_iload_n hx hb d_M_black_172 rfl (lv_at hl 3 rfl) ?_
                              refine lv_aload_n hx hb d_M_black_173 rfl (lv_at hl 0 rfl) ?_
                              refine x_get hC hw hR.1 rfl 6 (by decide) (hts _ k_740) (fun _ h9 => h9) rfl d_M_black_174 ?_
                              refine x_vi (y := nI (nu 6 0)) (by rw [hnuL38 6 (by decide), hnuL5 6 (by decide), hnuL3 6 (by decide), hnuL1 6 (by decide)]) ?_
                              refine lv_iload_n hx hb d_M_black_177 rfl (lv_at hl 2 rfl) ?_
                              refine lv_iadd hx hb d_M_black_178 ?_
                              refine x_vi (y := nI ((nu 6 0) + (cnt (newU nu sg) u))) (nI_add _ _) ?_
                              refine m_stI hC hw hR hF 28 u rfl (rfl) (by show _ < 12; omega) (by decide) d_M_black_179 (fun M40 H locs sg41 hsg41 esg41 hR hF hw => ?_)
                              refine lv_iinc (v := nI (cnt (newU nu sg) (u + 1))) (lv' := [(2, .int (nI (cnt (newU nu sg) (u + 1)))), (0, .ref md), (1, .int (nI (sm (fun p => cnt (mkG nu sg p) 40) 4 + sm (fun u => cnt (mkU nu sg u) 40) (nu 7 0)))), (3, .int (nI u)), (4, .int (nI (u - i) - nI 1))]) hx hb d_M_black_180 hl (k := 2) rfl (by rw [cnt_t hnew]; exact nI_1 _) (by decide) rfl (fun ls hl => ?_)
                              refine lv_iinc (v := nI (u + 1)) (lv' := [(3, .int (nI (u + 1))), (2, .int (nI (cnt (newU nu sg) (u + 1)))), (0, .ref md), (1, .int (nI (sm (fun p => cnt (mkG nu sg p) 40) 4 + sm (fun u => cnt (mkU nu sg u) 40) (nu 7 0)))), (4, .int (nI (u - i) - nI 1))]) hx hb d_M_black_183 hl (k := 3) rfl (by exact nI_1 _) (by decide) rfl (fun ls hl => ?_)
                              refine lv_goto (tgt := 87) hx hb d_M_black_186 (by decide) ?_
                              exact ih87 (u + 1)  nuL38 sg41 (by omega) (by omega) (x_cpNew2 hCp hU hnew esg41) _ hR (eqx.trans (L := []) (eqx.trans (L := []) (eqx.rf (L := [])) hnuL5 (by decide) (by decide)) hnuL38 (by decide) (by decide)) (eqx.trans (L := [28]) (eqx.trans (L := [28]) (eqx.trans (L := [28]) (eqx.trans (L := [28]) (eqx.rf (L := [28])) hsgL6 (by decide) (by decide)) hsg36 (by decide) (by decide)) hsgL39 (by decide) (by decide)) hsg41 (by decide) (by decide)) hF _ _ _ hw (lv_sub hl [2, 3, 1, 0] rfl)
                          · have c_117 := (not_congr (x_neg (by omega))).mp c_117
                            have e4 : nI (u - i) - nI 1 = nI (u - i - 1) := x_sub (by omega)
                            rw [e4] at hl
                            refine lv_aload_n hx hb d_M_black_120 rfl (lv_at hl 0 rfl) ?_
                            refine x_get hC hw hR.1 rfl 28 (by decide) (hts _ k_762) (fun _ h9 => h9) rfl d_M_black_121 ?_
                            refine lv_iload_n hx hb d_M_black_124 rfl (lv_at hl 3 rfl) ?_
                            refine lv_aload_n hx hb d_M_black_125 rfl (lv_at hl 0 rfl) ?_
                            refine lv_iload_n hx hb d_M_black_126 rfl (lv_at hl 3 rfl) ?_
                            refine lv_iload hx hb d_M_black_127 (lv_at hl 4 rfl) ?_
                            refine x_callG hC (c_M_areAlike l G M1 (Array.size H) md am nuL38 sgL39 hR u (u - i - 1) (by omega) (by omega) (by rw [hnuL38 9 (by decide), hnuL5 9 (by decide), hnuL3 9 (by decide), hnuL1 9 (by decide)]; exact fun x _ => by have := hu9 x; omega)) k_917 k_13 ⟨Nat.le_of_ble_eq_true rfl, Nat.le_of_ble_eq_true rfl⟩ ⟨Nat.le_of_ble_eq_true rfl, Nat.le_of_ble_eq_true rfl⟩ hw hl.1 (Nat.le_of_ble_eq_true rfl) d_M_black_129 (x_ivV hC k_917 k_914 k_916 kp_30 (show _ ∧ _ ∧ _ = some 2 from by decide +kernel) (x_recv hC hw hR.1 rfl) rfl d_M_black_129) (fun rv M42 H locs hq hw => ?_) (fun _ _ _ _ _ h _ _ => h.elim)
                            obtain ⟨rfl, hM⟩ := hq
                            subst M42
                            refine W.eq (g2 := F0 m 132 ls [.int (zI (nuL38 9 u = nuL38 9 (u - i - 1) ∧ ∀ j, j < 40 → sgL39 27 (160 + 40 * u + j) = sgL39 27 (160 + 40 * (u - i - 1) + j))), .int (nI u), .ref (am 28)]) rfl ?_
                            refine x_vi (y := zI (alk nu sg u (u - i - 1))) (zI_c (by rw [hnuL38 9 (by decide), hnuL5 9 (by decide), hnuL3 9 (by decide), hnuL1 9 (by decide), hsgL39 27 (by decide), hsg36 27 (by decide), hsgL6 27 (by decide)]; exact x_al hB (by omega) (by omega))) ?_
                            refine lv_if_eq (tgt := 145) hx hb d_M_black_132 (by decide) (fun c_132 => ?_) (fun c_132 => ?_)
                            · have c_132 := zI_0.mp c_132
                              refine lv_aload_n hx hb d_M_black_145 rfl (lv_at hl 0 rfl) ?_
                              refine x_get hC hw hR.1 rfl 28 (by decide) (hts _ k_762) (fun _ h9 => h9) rfl d_M_black_146 ?_
                              refine lv_iload_n hx hb d_M_black_149 rfl (lv_at hl 3 rfl) ?_
                              refine m_ldI hC hw hR 28 u rfl (rfl) (by show _ < 12; omega) (by decide) d_M_black_150 ?_
                              refine m_stI hC hw hR hF 28 u rfl (rfl) (by show _ < 12; omega) (by decide) d_M_black_151 (fun M43 H locs sg44 hsg44 esg44 hR hF hw => ?_)
                              refine lv_iinc (v := (nI (u - (i + 1)) - nI 1)) (lv' := [(4, .int (nI (u - (i + 1)) - nI 1)), (0, .ref md), (1, .int (nI (sm (fun p => cnt (mkG nu sg p) 40) 4 + sm (fun u => cnt (mkU nu sg u) 40) (nu 7 0)))), (2, .int (nI (cnt (newU nu sg) u))), (3, .int (nI u))]) hx hb d_M_black_152 hl (k := 4) rfl (x_dec (by omega)) (by decide) rfl (fun ls hl => ?_)
                              refine lv_goto (tgt := 115) hx hb d_M_black_155 (by decide) ?_
                              exact ih115 (i + 1)  nuL38 sg44 (by omega) (by omega) (x_keepU hU esg44) (x_inN hD c_132 esg44) _ hR (eqx.trans (L := []) (eqx.rf (L := [])) hnuL38 (by decide) (by decide)) (eqx.trans (L := [28]) (eqx.trans (L := [28]) (eqx.rf (L := [28])) hsgL39 (by decide) (by decide)) hsg44 (by decide) (by decide)) hF _ _ _ hw (lv_sub hl [1, 2, 3, 4, 0] rfl)
                            · have c_132 := zI_1.mp c_132
                              refine lv_aload_n hx hb d_M_black_135 rfl (lv_at hl 0 rfl) ?_
                              refine x_get hC hw hR.1 rfl 28 (by decide) (hts _ k_762) (fun _ h9 => h9) rfl d_M_black_136 ?_
                              refine lv_iload hx hb d_M_black_139 (lv_at hl 4 rfl) ?_
                              refine m_ldI hC hw hR 28 (u - i - 1) rfl (rfl) (by show _ < 12; omega) (by decide) d_M_black_141 ?_
                              refine x_vi (y := sgL6 28 (u - i - 1)) (hU _ (by omega)) ?_
                              refine lv_goto (tgt := 151) hx hb d_M_black_142 (by decide) ?_
                              refine m_stI hC hw hR hF 28 u rfl (rfl) (by show _ < 12; omega) (by decide) d_M_black_151 (fun M45 H locs sg46 hsg46 esg46 hR hF hw => ?_)
                              refine lv_iinc (v := (nI (u - (i + 1)) - nI 1)) (lv' := [(4, .int (nI (u - (i + 1)) - nI 1)), (0, .ref md), (1, .int (nI (sm (fun p => cnt (mkG nu sg p) 40) 4 + sm (fun u => cnt (mkU nu sg u) 40) (nu 7 0)))), (2, .int (nI (cnt (newU nu sg) u))), (3, .int (nI u))]) hx hb d_M_black_152 hl (k := 4) rfl (x_dec (by omega)) (by decide) rfl (fun ls hl => ?_)
                              refine lv_goto (tgt := 115) hx hb d_M_black_155 (by decide) ?_
                              exact ih115 (i + 1)  nuL38 sg46 (by omega) (by omega) (x_keepU hU esg46) (x_inY c_117 c_132 esg46) _ hR (eqx.trans (L := []) (eqx.rf (L := [])) hnuL38 (by decide) (by decide)) (eqx.trans (L := [28]) (eqx.trans (L := [28]) (eqx.rf (L := [28])) hsgL39 (by decide) (by decide)) hsg46 (by decide) (by decide)) hF _ _ _ hw (lv_sub hl [1, 2, 3, 4, 0] rfl)
                      exact HL115 (u + 1) (0)  nuL5 sg36 (by omega) (by omega) (x_keepU (fun _ _ => rfl) esg36) (x_inZ (by rw [esg36, va_up_self])) _ hR eqx.rf eqx.rf hF _ _ _ hw (lv_sub hl [1, 2, 3, 4, 0] rfl)
              exact HL87 (nu 7 0 + 1) (0)  nuL3 sgL4 (by omega) (by omega) (fun w hw => absurd hw (Nat.not_lt_zero w)) _ hR eqx.rf eqx.rf hF _ _ _ hw (lv_sub hl [2, 3, 1, 0] rfl)
            · have c_37 := Nat.not_le.mp ((not_congr (nI_leI (by omega) (by omega))).mp c_37)
              refine lv_iload_n hx hb d_M_black_40 rfl (lv_at hl 1 rfl) ?_
              refine lv_aload_n hx hb d_M_black_41 rfl (lv_at hl 0 rfl) ?_
              refine lv_iconst (v := nI 4) hx hb d_M_black_42 (by decide) ?_
              refine lv_aload_n hx hb d_M_black_43 rfl (lv_at hl 0 rfl) ?_
              refine x_get hC hw hR.1 rfl 9 (by decide) (hts _ k_743) (fun _ h9 => h9) rfl d_M_black_44 ?_
              refine lv_iload_n hx hb d_M_black_47 rfl (lv_at hl 2 rfl) ?_
              refine m_ldN hC hw hR 9 u rfl (rfl) (by show _ < 12; omega) (by decide) d_M_black_48 ?_
              refine x_vi (y := nI (nu 9 u)) (by rw [hnuL3 9 (by decide), hnuL1 9 (by decide)]) ?_
              refine lv_iadd hx hb d_M_black_49 ?_
              refine x_vi (y := nI (4 + (nu 9 u))) (nI_add _ _) ?_
              refine lv_aload_n hx hb d_M_black_50 rfl (lv_at hl 0 rfl) ?_
              refine x_get hC hw hR.1 rfl 8 (by decide) (hts _ k_742) (fun _ h9 => h9) rfl d_M_black_51 ?_
              refine lv_iload_n hx hb d_M_black_54 rfl (lv_at hl 2 rfl) ?_
              refine m_ldI hC hw hR 8 u rfl (rfl) (by show _ < 12; omega) (by decide) d_M_black_55 ?_
              refine x_vi (y := sg 8 u) (by rw [hsgL4 8 (by decide), hsgL2 8 (by decide)]) ?_
              refine lv_aload_n hx hb d_M_black_56 rfl (lv_at hl 0 rfl) ?_
              refine x_get hC hw hR.1 rfl 10 (by decide) (hts _ k_744) (fun _ h9 => h9) rfl d_M_black_57 ?_
              refine lv_iload_n hx hb d_M_black_60 rfl (lv_at hl 2 rfl) ?_
              refine m_ldI hC hw hR 10 u rfl (rfl) (by show _ < 12; omega) (by decide) d_M_black_61 ?_
              refine x_vi (y := sg 10 u) (by rw [hsgL4 10 (by decide), hsgL2 10 (by decide)]) ?_
              refine lv_aload_n hx hb d_M_black_62 rfl (lv_at hl 0 rfl) ?_
              refine x_get hC hw hR.1 rfl 11 (by decide) (hts _ k_745) (fun _ h9 => h9) rfl d_M_black_63 ?_
              refine lv_iload_n hx hb d_M_black_66 rfl (lv_at hl 2 rfl) ?_
              refine m_ldI hC hw hR 11 u rfl (rfl) (by show _ < 12; omega) (by decide) d_M_black_67 ?_
              refine x_vi (y := sg 11 u) (by rw [hsgL4 11 (by decide), hsgL2 11 (by decide)]) ?_
              refine lv_iload_n hx hb d_M_black_68 rfl (lv_at hl 2 rfl) ?_
              refine x_callG hC (c_M_markPlace l G M1 (Array.size H) u) k_909 k_13 ⟨Nat.le_of_ble_eq_true rfl, Nat.le_of_ble_eq_true rfl⟩ ⟨Nat.le_of_ble_eq_true rfl, Nat.le_of_ble_eq_true rfl⟩ hw hl.1 (Nat.le_of_ble_eq_true rfl) d_M_black_69 (x_ivS hC k_909 k_907 k_908 k_13 (show _ ∧ _ ∧ _ = some 1 from by decide +kernel) rfl d_M_black_69) (fun rv M47 H locs hq hw => ?_) (fun _ _ _ _ _ h _ _ => h.elim)
              obtain ⟨rfl, hM⟩ := hq
              subst M47
              refine W.eq (g2 := F0 m 72 ls [.int (nI (160 + 40 * u)), .int (sg 11 u), .int (sg 10 u), .int (sg 8 u), .int (nI (4 + (nu 9 u))), .ref md, .int (nI (sm (fun p => cnt (mkG nu sg p) 40) 4 + sm (fun u => cnt (mkU nu sg u) 40) u))]) rfl ?_
              have hfu := hfm u (by omega)
              have hmx := mkP_x (eqx.trans (L := [29]) (eqx.trans (L := [29]) (eqx.rf (L := [29])) hnuL1 (by decide) (by decide)) hnuL3 (by decide) (by decide)) (eqx.trans (L := [27, 28, 30, 31]) (eqx.trans (L := [27, 28, 30, 31]) (eqx.rf (L := [27, 28, 30, 31])) hsgL2 (by decide) (by decide)) hsgL4 (by decide) (by decide))
              refine x_callG hC (c_M_mark l G M1 (Array.size H) md am nuL3 sgL4 hR (4 + nu 9 u) (160 + 40 * u) (sg 8 u) (sg 10 u) (sg 11 u) (by omega) (by omega) (by rw [hnuL3 1 (by decide), hnuL1 1 (by decide)]; exact h40 _) (by rw [hnuL3 12 (by decide), hnuL1 12 (by decide)]; exact h4) (by rw [hnuL3 13 (by decide), hnuL1 13 (by decide)]; exact fun w _ => h8 w) (by rw [hnuL3 15 (by decide), hnuL1 15 (by decide)]; exact h8a)) k_890 k_13 ⟨Nat.le_of_ble_eq_true rfl, Nat.le_of_ble_eq_true rfl⟩ ⟨Nat.le_of_ble_eq_true rfl, Nat.le_of_ble_eq_true rfl⟩ hw hl.1 (Nat.le_of_ble_eq_true rfl) d_M_black_72 (x_ivV hC k_890 k_887 k_889 kp_24 (show _ ∧ _ ∧ _ = some 5 from by decide +kernel) (x_recv hC hw hR.1 rfl) rfl d_M_black_72) (fun rv M48 H locs hq hw => ?_) (fun _ _ _ _ _ h _ _ => h.elim)
              obtain ⟨rfl, nu49, sg50, hR, hnu49, hsg50, fr, m1, m2⟩ := hq
              have hF := hF.trans fr (fun _ h => Or.inl h)
              refine W.eq (g2 := F0 m 75 ls [.int (nI (cnt (mkP nuL3 sgL4 (4 + nu 9 u) (sg 8 u) (sg 10 u) (sg 11 u)) 40)), .int (nI (sm (fun p => cnt (mkG nu sg p) 40) 4 + sm (fun u => cnt (mkU nu sg u) 40) u))]) rfl ?_
              rw [hmx] at m1
              refine x_vi (y := nI (cnt (mkU nu sg u) 40)) (by rw [hmx]; rfl) ?_
              refine lv_iadd hx hb d_M_black_75 ?_
              refine x_vi (y := nI ((sm (fun p => cnt (mkG nu sg p) 40) 4 + sm (fun u => cnt (mkU nu sg u) 40) u) + (cnt (mkU nu sg u) 40))) (nI_add _ _) ?_
              refine x_vi (y := nI (sm (fun p => cnt (mkG nu sg p) 40) 4 + sm (fun u => cnt (mkU nu sg u) 40) (u + 1))) (congrArg nI (Nat.add_assoc _ _ _)) ?_
              refine lv_istore_n (lv' := [(1, .int (nI (sm (fun p => cnt (mkG nu sg p) 40) 4 + sm (fun u => cnt (mkU nu sg u) 40) (u + 1)))), (0, .ref md), (2, .int (nI u))]) hx hb d_M_black_76 rfl hl (by decide) rfl (fun ls hl => ?_)
              refine lv_iinc (v := nI (u + 1)) (lv' := [(2, .int (nI (u + 1))), (1, .int (nI (sm (fun p => cnt (mkG nu sg p) 40) 4 + sm (fun u => cnt (mkU nu sg u) 40) (u + 1)))), (0, .ref md)]) hx hb d_M_black_77 hl (k := 2) rfl (by exact nI_1 _) (by decide) rfl (fun ls hl => ?_)
              refine lv_goto (tgt := 32) hx hb d_M_black_80 (by decide) ?_
              exact ih32 (u + 1)  nu49 sg50 (by omega) (by omega) (x_mkK hA m2) (x_mkB (A := mkU nu sg) hB m1 m2) _ hR (eqx.trans (L := [29]) (eqx.trans (L := [29]) (eqx.rf (L := [29])) hnuL3 (by decide) (by decide)) hnu49 (by decide) (by decide)) (eqx.trans (L := [27, 30, 31]) (eqx.trans (L := [27, 30, 31]) (eqx.rf (L := [27, 30, 31])) hsgL4 (by decide) (by decide)) hsg50 (by decide) (by decide)) hF _ _ _ hw (lv_sub hl [2, 1, 0] rfl)
        exact HL32 (nu 7 0 + 1) (0)  nuL1 sgL2 (by omega) (by omega) (fun p hp => hA p (by omega)) (fun p hp => absurd hp (Nat.not_lt_zero p)) _ hR eqx.rf eqx.rf hF _ _ _ hw (lv_sub hl [1, 2, 0] rfl)
      · have c_6 := Nat.not_le.mp ((not_congr (nI_leI (by omega) (by omega))).mp c_6)
        refine lv_iload_n hx hb d_M_black_9 rfl (lv_at hl 1 rfl) ?_
        refine lv_aload_n hx hb d_M_black_10 rfl (lv_at hl 0 rfl) ?_
        refine lv_iload_n hx hb d_M_black_11 rfl (lv_at hl 2 rfl) ?_
        refine lv_iload_n hx hb d_M_black_12 rfl (lv_at hl 2 rfl) ?_
        refine lv_iconst (v := nI 0) hx hb d_M_black_13 (by decide) ?_
        refine lv_iconst (v := nI 0) hx hb d_M_black_14 (by decide) ?_
        refine lv_bipush (v := nI 40) hx hb d_M_black_15 (by decide) ?_
        refine lv_iload_n hx hb d_M_black_17 rfl (lv_at hl 2 rfl) ?_
        refine lv_imul hx hb d_M_black_18 ?_
        refine x_vi (y := nI (40 * q)) (pk_mul _ _) ?_
        have hmx := mkP_x (eqx.trans (L := [29]) (eqx.rf (L := [29])) hnuL1 (by decide) (by decide)) (eqx.trans (L := [27, 28, 30, 31]) (eqx.rf (L := [27, 28, 30, 31])) hsgL2 (by decide) (by decide))
        refine x_callG hC (c_M_mark l G M1 (Array.size H) md am nuL1 sgL2 hR (q) (40 * q) (nI q) (nI 0) (nI 0) (by omega) (by omega) (by rw [hnuL1 1 (by decide)]; exact h40 _) (by rw [hnuL1 12 (by decide)]; exact h4) (by rw [hnuL1 13 (by decide)]; exact fun w _ => h8 w) (by rw [hnuL1 15 (by decide)]; exact h8a)) k_890 k_13 ⟨Nat.le_of_ble_eq_true rfl, Nat.le_of_ble_eq_true rfl⟩ ⟨Nat.le_of_ble_eq_true rfl, Nat.le_of_ble_eq_true rfl⟩ hw hl.1 (Nat.le_of_ble_eq_true rfl) d_M_black_19 (x_ivV hC k_890 k_887 k_889 kp_24 (show _ ∧ _ ∧ _ = some 5 from by decide +kernel) (x_recv hC hw hR.1 rfl) rfl d_M_black_19) (fun rv M51 H locs hq hw => ?_) (fun _ _ _ _ _ h _ _ => h.elim)
        obtain ⟨rfl, nu52, sg53, hR, hnu52, hsg53, fr, m1, m2⟩ := hq
        have hF := hF.trans fr (fun _ h => Or.inl h)
        refine W.eq (g2 := F0 m 22 ls [.int (nI (cnt (mkP nuL1 sgL2 (q) (nI q) (nI 0) (nI 0)) 40)), .int (nI (sm (fun p => cnt (mkG nu sg p) 40) q))]) rfl ?_
        rw [hmx] at m1
        refine x_vi (y := nI (cnt (mkG nu sg q) 40)) (by rw [hmx]; rfl) ?_
        refine lv_iadd hx hb d_M_black_22 ?_
        refine x_vi (y := nI ((sm (fun p => cnt (mkG nu sg p) 40) q) + (cnt (mkG nu sg q) 40))) (nI_add _ _) ?_
        refine x_vi (y := nI (sm (fun p => cnt (mkG nu sg p) 40) (q + 1))) rfl ?_
        refine lv_istore_n (lv' := [(1, .int (nI (sm (fun p => cnt (mkG nu sg p) 40) (q + 1)))), (0, .ref md), (2, .int (nI q))]) hx hb d_M_black_23 rfl hl (by decide) rfl (fun ls hl => ?_)
        refine lv_iinc (v := nI (q + 1)) (lv' := [(2, .int (nI (q + 1))), (1, .int (nI (sm (fun p => cnt (mkG nu sg p) 40) (q + 1)))), (0, .ref md)]) hx hb d_M_black_24 hl (k := 2) rfl (by exact nI_1 _) (by decide) rfl (fun ls hl => ?_)
        refine lv_goto (tgt := 4) hx hb d_M_black_27 (by decide) ?_
        exact ih4 (q + 1)  nu52 sg53 (by omega) (by omega) (x_mkA (A := mkG nu sg) hA m1 m2) _ hR (eqx.trans (L := [29]) (eqx.trans (L := [29]) (eqx.rf (L := [29])) hnuL1 (by decide) (by decide)) hnu52 (by decide) (by decide)) (eqx.trans (L := [27, 30, 31]) (eqx.trans (L := [27, 30, 31]) (eqx.rf (L := [27, 30, 31])) hsgL2 (by decide) (by decide)) hsg53 (by decide) (by decide)) hF _ _ _ hw (lv_sub hl [2, 1, 0] rfl)
  exact HL4 (4 + 1) (0)  nu sg (by omega) (by omega) (fun p hp => absurd hp (Nat.not_lt_zero p)) _ hR eqx.rf eqx.rf hF _ _ _ hw (lv_sub hl [2, 1, 0] rfl)
