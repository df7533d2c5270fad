theorem x_me1 {sg : Nat → Nat → Int32} {pg x y wd : Int32} {a : Nat} (h : meP sg pg x y wd a ∨ arP sg pg x y wd a) : meP sg pg x y wd (a + 1) := by
  rcases h with ⟨b, hb, h⟩ | h
  · exact ⟨b, by omega, h⟩
  · exact ⟨a, by omega, h⟩
theorem x_me0 {sg : Nat → Nat → Int32} {pg x y wd : Int32} {a : Nat} (h : ¬ meP sg pg x y wd a) (h2 : ¬ arP sg pg x y wd a) : ¬ meP sg pg x y wd (a + 1) := by
  intro ⟨b, hb, z⟩
  by_cases hz : b = a
  · rw [hz] at z
    exact h2 z
  · exact h ⟨b, by omega, z⟩
set_option maxHeartbeats 1000000 in
set_option maxRecDepth 100000 in
/-- meets -/
theorem c_M_meets (l : Launch) (G : xT) (M : xMem) (sz : Nat) (md : Nat) (am : Nat → Nat) (nu : Nat → Nat → Nat) (sg : Nat → Nat → Int32) (hR : mRep G M md am nu sg) (at0 : Nat) (pg dx dy : Int32) (hat : at0 < 960) (h8 : nu 15 0 ≤ 8) : xMet l G y_M_meets (Cond.code y_M_meets b_M_meets 12 (Option.some Jvm.ClassFile.FieldType.boolean) :: x_tbl) { frames := 0, cells := 0, slots := 0, locals := 0 } [.ref md, .int (nI at0), .int pg, .int dx, .int dy] M sz (fun v M' => v = some (.int (zI (meP sg pg (sg 3 at0 + dx) (sg 4 at0 + dy) (sg 5 at0) (nu 15 0)))) ∧ M' = M) (fun _ _ => False) := by
  refine xMet.of (by decide) (Nat.le_of_ble_eq_true rfl) ?_
  intro p e s m below meth c ls hC hr hnm hno hsz hw hl
  obtain ⟨hx, hb, hown, hts, hK, hml, hlk, hz⟩ := id hC
  have hl : lv_has ls 12 [(0, .ref md), (1, .int (nI at0)), (2, .int pg), (3, .int dx), (4, .int dy)] := hl
  have hF : xfr M M (mS md am) := xfr.rf
  refine lv_aload_n hx hb d_M_meets_0 rfl (lv_at hl 0 rfl) ?_
  refine x_get hC hw hR.1 rfl 3 (by decide) (hts _ k_737) (fun _ h9 => h9) rfl d_M_meets_1 ?_
  refine lv_iload_n hx hb d_M_meets_4 rfl (lv_at hl 1 rfl) ?_
  refine m_ldI hC hw hR 3 at0 rfl (rfl) (by show _ < 960; omega) (by decide) d_M_meets_5 ?_
  refine lv_iload_n hx hb d_M_meets_6 rfl (lv_at hl 3 rfl) ?_
  refine lv_iadd hx hb d_M_meets_7 ?_
  refine lv_istore (lv' := [(5, .int (sg 3 at0 + dx)), (0, .ref md), (1, .int (nI at0)), (2, .int pg), (3, .int dx), (4, .int dy)]) hx hb d_M_meets_8 hl (by decide) rfl (fun ls hl => ?_)
  refine lv_aload_n hx hb d_M_meets_10 rfl (lv_at hl 1 rfl) ?_
  refine x_get hC hw hR.1 rfl 4 (by decide) (hts _ k_738) (fun _ h9 => h9) rfl d_M_meets_11 ?_
  refine lv_iload_n hx hb d_M_meets_14 rfl (lv_at hl 2 rfl) ?_
  refine m_ldI hC hw hR 4 at0 rfl (rfl) (by show _ < 960; omega) (by decide) d_M_meets_15 ?_
  refine lv_iload hx hb d_M_meets_16 (lv_at hl 5 rfl) ?_
  refine lv_iadd hx hb d_M_meets_18 ?_
  refine lv_istore (lv' := [(6, .int (sg 4 at0 + dy)), (5, .int (sg 3 at0 + dx)), (0, .ref md), (1, .int (nI at0)), (2, .int pg), (3, .int dx), (4, .int dy)]) hx hb d_M_meets_19 hl (by decide) rfl (fun ls hl => ?_)
  refine lv_iconst (v := nI 0) hx hb d_M_meets_21 (by decide) ?_
  refine x_vi (y := zI (meP sg pg (sg 3 at0 + dx) (sg 4 at0 + dy) (sg 5 at0) 0)) ((zI_f (fun h => by obtain ⟨a, h1, h2⟩ := h; omega)).symm) ?_
  refine lv_istore (lv' := [(7, .int (zI (meP sg pg (sg 3 at0 + dx) (sg 4 at0 + dy) (sg 5 at0) 0))), (6, .int (sg 4 at0 + dy)), (5, .int (sg 3 at0 + dx)), (0, .ref md), (1, .int (nI at0)), (2, .int pg), (3, .int dx), (4, .int dy)]) hx hb d_M_meets_22 hl (by decide) rfl (fun ls hl => ?_)
  refine lv_iconst (v := nI 0) hx hb d_M_meets_24 (by decide) ?_
  refine lv_istore (lv' := [(8, .int (nI 0)), (7, .int (zI (meP sg pg (sg 3 at0 + dx) (sg 4 at0 + dy) (sg 5 at0) 0))), (6, .int (sg 4 at0 + dy)), (5, .int (sg 3 at0 + dx)), (0, .ref md), (1, .int (nI at0)), (2, .int pg), (3, .int dx), (4, .int dy)]) hx hb d_M_meets_25 hl (by decide) rfl (fun ls hl => ?_)
  have HL27 : ∀ (z27 a : Nat), a ≤ nu 15 0 → nu 15 0 + 1 ≤ a + z27 → ∀ (H : Heap) (locs : List Loc) (ls : Array Slot), xWd G (xA M sz) s.heap M H locs → lv_has ls 12 [(0, .ref md), (1, .int (nI at0)), (2, .int pg), (3, .int dx), (4, .int dy), (5, .int (sg 3 at0 + dx)), (6, .int (sg 4 at0 + dy)), (7, .int (zI (meP sg pg (sg 3 at0 + dx) (sg 4 at0 + dy) (sg 5 at0) a))), (8, .int (nI a))] → W p l e { frames := 0, cells := 0, slots := 0, locals := 0 } s m ([.ref md, .int (nI at0), .int pg, .int dx, .int dy] : List Value).toArray below meth c H locs 0 0 (xMQ below G M sz (fun v M' => v = some (.int (zI (meP sg pg (sg 3 at0 + dx) (sg 4 at0 + dy) (sg 5 at0) (nu 15 0)))) ∧ M' = M) (fun _ _ => False) s 0 0) (F0 m 27 ls []) := by
    intro z27
    induction z27 with
    | zero =>
      intro a  h1 h2
      omega
    | succ z27 ih27 =>
      intro a  hi27 hz27  H locs ls hw hl
      refine lv_iload hx hb d_M_meets_27 (lv_at hl 8 rfl) ?_
      refine lv_aload_n hx hb d_M_meets_29 rfl (lv_at hl 0 rfl) ?_
      refine x_get hC hw hR.1 rfl 15 (by decide) (hts _ k_749) (fun _ h9 => h9) rfl d_M_meets_30 ?_
      refine lv_icmp_ge (tgt := 195) hx hb d_M_meets_33 (by decide) (fun c_33 => ?_) (fun c_33 => ?_)
      · have c_33 := (nI_leI (by omega) (by omega)).mp c_33
        refine lv_iload hx hb d_M_meets_195 (lv_at hl 7 rfl) ?_
        exact x_zret hC hr hw (by first | exact zI_narV _ | rfl | assumption | decide +kernel) (⟨by rw [show a = nu 15 0 by omega], rfl⟩) (Nat.le_of_ble_eq_true rfl) (Nat.le_of_ble_eq_true rfl) d_M_meets_197
      · have c_33 := Nat.not_le.mp ((not_congr (nI_leI (by omega) (by omega))).mp c_33)
        have J61 : ∀ (H : Heap) (locs : List Loc) (ls : Array Slot), xWd G (xA M sz) s.heap M H locs → lv_has ls 12 [(0, .ref md), (1, .int (nI at0)), (2, .int pg), (3, .int dx), (4, .int dy), (5, .int (sg 3 at0 + dx)), (6, .int (sg 4 at0 + dy)), (7, .int (zI (meP sg pg (sg 3 at0 + dx) (sg 4 at0 + dy) (sg 5 at0) a))), (8, .int (nI a))] → W p l e { frames := 0, cells := 0, slots := 0, locals := 0 } s m ([.ref md, .int (nI at0), .int pg, .int dx, .int dy] : List Value).toArray below meth c H locs 0 0 (xMQ below G M sz (fun v M' => v = some (.int (zI (meP sg pg (sg 3 at0 + dx) (sg 4 at0 + dy) (sg 5 at0) (nu 15 0)))) ∧ M' = M) (fun _ _ => False) s 0 0) (F0 m 61 ls [.int (zI (¬ sg 19 a ≤ 0 ∧ ¬ sg 20 a ≤ 0))]) := by
          intro H locs ls hw hl
          refine lv_istore (lv' := [(9, .int (zI (¬ sg 19 a ≤ 0 ∧ ¬ sg 20 a ≤ 0))), (0, .ref md), (1, .int (nI at0)), (2, .int pg), (3, .int dx), (4, .int dy), (5, .int (sg 3 at0 + dx)), (6, .int (sg 4 at0 + dy)), (7, .int (zI (meP sg pg (sg 3 at0 + dx) (sg 4 at0 + dy) (sg 5 at0) a))), (8, .int (nI a))]) hx hb d_M_meets_61 hl (by decide) rfl (fun ls hl => ?_)
          have J107 : ∀ (H : Heap) (locs : List Loc) (ls : Array Slot), xWd G (xA M sz) s.heap M H locs → lv_has ls 12 [(9, .int (zI (¬ sg 19 a ≤ 0 ∧ ¬ sg 20 a ≤ 0))), (0, .ref md), (1, .int (nI at0)), (2, .int pg), (3, .int dx), (4, .int dy), (5, .int (sg 3 at0 + dx)), (6, .int (sg 4 at0 + dy)), (7, .int (zI (meP sg pg (sg 3 at0 + dx) (sg 4 at0 + dy) (sg 5 at0) a))), (8, .int (nI a))] → W p l e { frames := 0, cells := 0, slots := 0, locals := 0 } s m ([.ref md, .int (nI at0), .int pg, .int dx, .int dy] : List Value).toArray below meth c H locs 0 0 (xMQ below G M sz (fun v M' => v = some (.int (zI (meP sg pg (sg 3 at0 + dx) (sg 4 at0 + dy) (sg 5 at0) (nu 15 0)))) ∧ M' = M) (fun _ _ => False) s 0 0) (F0 m 107 ls [.int (zI (¬ (sg 3 at0 + dx) ≥ sg 17 a + sg 19 a ∧ ¬ sg 17 a ≥ (sg 3 at0 + dx) + sg 5 at0))]) := by
            intro H locs ls hw hl
            refine lv_istore (lv' := [(10, .int (zI (¬ (sg 3 at0 + dx) ≥ sg 17 a + sg 19 a ∧ ¬ sg 17 a ≥ (sg 3 at0 + dx) + sg 5 at0))), (9, .int (zI (¬ sg 19 a ≤ 0 ∧ ¬ sg 20 a ≤ 0))), (0, .ref md), (1, .int (nI at0)), (2, .int pg), (3, .int dx), (4, .int dy), (5, .int (sg 3 at0 + dx)), (6, .int (sg 4 at0 + dy)), (7, .int (zI (meP sg pg (sg 3 at0 + dx) (sg 4 at0 + dy) (sg 5 at0) a))), (8, .int (nI a))]) hx hb d_M_meets_107 hl (by decide) rfl (fun ls hl => ?_)
            have J149 : ∀ (H : Heap) (locs : List Loc) (ls : Array Slot), xWd G (xA M sz) s.heap M H locs → lv_has ls 12 [(10, .int (zI (¬ (sg 3 at0 + dx) ≥ sg 17 a + sg 19 a ∧ ¬ sg 17 a ≥ (sg 3 at0 + dx) + sg 5 at0))), (9, .int (zI (¬ sg 19 a ≤ 0 ∧ ¬ sg 20 a ≤ 0))), (0, .ref md), (1, .int (nI at0)), (2, .int pg), (3, .int dx), (4, .int dy), (5, .int (sg 3 at0 + dx)), (6, .int (sg 4 at0 + dy)), (7, .int (zI (meP sg pg (sg 3 at0 + dx) (sg 4 at0 + dy) (sg 5 at0) a))), (8, .int (nI a))] → W p l e { frames := 0, cells := 0, slots := 0, locals := 0 } s m ([.ref md, .int (nI at0), .int pg, .int dx, .int dy] : List Value).toArray below meth c H locs 0 0 (xMQ below G M sz (fun v M' => v = some (.int (zI (meP sg pg (sg 3 at0 + dx) (sg 4 at0 + dy) (sg 5 at0) (nu 15 0)))) ∧ M' = M) (fun _ _ => False) s 0 0) (F0 m 149 ls [.int (zI (¬ (sg 4 at0 + dy) ≥ sg 18 a + sg 20 a ∧ ¬ sg 18 a ≥ (sg 4 at0 + dy) + nI 10))]) := by
              intro H locs ls hw hl
              refine lv_istore (lv' := [(11, .int (zI (¬ (sg 4 at0 + dy) ≥ sg 18 a + sg 20 a ∧ ¬ sg 18 a ≥ (sg 4 at0 + dy) + nI 10))), (10, .int (zI (¬ (sg 3 at0 + dx) ≥ sg 17 a + sg 19 a ∧ ¬ sg 17 a ≥ (sg 3 at0 + dx) + sg 5 at0))), (9, .int (zI (¬ sg 19 a ≤ 0 ∧ ¬ sg 20 a ≤ 0))), (0, .ref md), (1, .int (nI at0)), (2, .int pg), (3, .int dx), (4, .int dy), (5, .int (sg 3 at0 + dx)), (6, .int (sg 4 at0 + dy)), (7, .int (zI (meP sg pg (sg 3 at0 + dx) (sg 4 at0 + dy) (sg 5 at0) a))), (8, .int (nI a))]) hx hb d_M_meets_149 hl (by decide) rfl (fun ls hl => ?_)
              have J187 : ∀ (H : Heap) (locs : List Loc) (ls : Array Slot), xWd G (xA M sz) s.heap M H locs → lv_has ls 12 [(11, .int (zI (¬ (sg 4 at0 + dy) ≥ sg 18 a + sg 20 a ∧ ¬ sg 18 a ≥ (sg 4 at0 + dy) + nI 10))), (10, .int (zI (¬ (sg 3 at0 + dx) ≥ sg 17 a + sg 19 a ∧ ¬ sg 17 a ≥ (sg 3 at0 + dx) + sg 5 at0))), (9, .int (zI (¬ sg 19 a ≤ 0 ∧ ¬ sg 20 a ≤ 0))), (0, .ref md), (1, .int (nI at0)), (2, .int pg), (3, .int dx), (4, .int dy), (5, .int (sg 3 at0 + dx)), (6, .int (sg 4 at0 + dy)), (7, .int (zI (meP sg pg (sg 3 at0 + dx) (sg 4 at0 + dy) (sg 5 at0) a))), (8, .int (nI a))] → W p l e { frames := 0, cells := 0, slots := 0, locals := 0 } s m ([.ref md, .int (nI at0), .int pg, .int dx, .int dy] : List Value).toArray below meth c H locs 0 0 (xMQ below G M sz (fun v M' => v = some (.int (zI (meP sg pg (sg 3 at0 + dx) (sg 4 at0 + dy) (sg 5 at0) (nu 15 0)))) ∧ M' = M) (fun _ _ => False) s 0 0) (F0 m 187 ls [.int (zI (meP sg pg (sg 3 at0 + dx) (sg 4 at0 + dy) (sg 5 at0) (a + 1)))]) := by
                intro H locs ls hw hl
                refine lv_istore (lv' := [(7, .int (zI (meP sg pg (sg 3 at0 + dx) (sg 4 at0 + dy) (sg 5 at0) (a + 1)))), (11, .int (zI (¬ (sg 4 at0 + dy) ≥ sg 18 a + sg 20 a ∧ ¬ sg 18 a ≥ (sg 4 at0 + dy) + nI 10))), (10, .int (zI (¬ (sg 3 at0 + dx) ≥ sg 17 a + sg 19 a ∧ ¬ sg 17 a ≥ (sg 3 at0 + dx) + sg 5 at0))), (9, .int (zI (¬ sg 19 a ≤ 0 ∧ ¬ sg 20 a ≤ 0))), (0, .ref md), (1, .int (nI at0)), (2, .int pg), (3, .int dx), (4, .int dy), (5, .int (sg 3 at0 + dx)), (6, .int (sg 4 at0 + dy)), (8, .int (nI a))]) hx hb d_M_meets_187 hl (by decide) rfl (fun ls hl => ?_)
                refine lv_iinc (v := nI (a + 1)) (lv' := [(8, .int (nI (a + 1))), (7, .int (zI (meP sg pg (sg 3 at0 + dx) (sg 4 at0 + dy) (sg 5 at0) (a + 1)))), (11, .int (zI (¬ (sg 4 at0 + dy) ≥ sg 18 a + sg 20 a ∧ ¬ sg 18 a ≥ (sg 4 at0 + dy) + nI 10))), (10, .int (zI (¬ (sg 3 at0 + dx) ≥ sg 17 a + sg 19 a ∧ ¬ sg 17 a ≥ (sg 3 at0 + dx) + sg 5 at0))), (9, .int (zI (¬ sg 19 a ≤ 0 ∧ ¬ sg 20 a ≤ 0))), (0, .ref md), (1, .int (nI at0)), (2, .int pg), (3, .int dx), (4, .int dy), (5, .int (sg 3 at0 + dx)), (6, .int (sg 4 at0 + dy))]) hx hb d_M_meets_189 hl (k := 11) rfl (by exact nI_1 _) (by decide) rfl (fun ls hl => ?_)
                refine lv_goto (tgt := 27) hx hb d_M_meets_192 (by decide) ?_
                exact ih27 (a + 1)  (by omega) (by omega)  _ _ _ hw (lv_sub hl [5, 6, 7, 8, 9, 10, 11, 1, 0] rfl)
              refine lv_iload hx hb d_M_meets_151 (lv_at hl 10 rfl) ?_
              refine lv_if_ne (tgt := 182) hx hb d_M_meets_153 (by decide) (fun c_153 => ?_) (fun c_153 => ?_)
              · have c_153 := zI_1.mp c_153
                refine lv_iconst (v := nI 1) hx hb d_M_meets_182 (by decide) ?_
                refine lv_goto (tgt := 187) hx hb d_M_meets_183 (by decide) ?_
                refine x_vi (y := zI (meP sg pg (sg 3 at0 + dx) (sg 4 at0 + dy) (sg 5 at0) (a + 1))) ((zI_t (x_me1 (Or.inl c_153))).symm) ?_
                exact J187 _ _ _ hw (lv_sub hl [0, 1, 2, 3, 4, 5, 6, 7, 8, 9, 10, 11] rfl)
              · have c_153 := zI_0.mp c_153
                refine lv_aload_n hx hb d_M_meets_156 rfl (lv_at hl 3 rfl) ?_
                refine x_get hC hw hR.1 rfl 16 (by decide) (hts _ k_750) (fun _ h9 => h9) rfl d_M_meets_157 ?_
                refine lv_iload hx hb d_M_meets_160 (lv_at hl 11 rfl) ?_
                refine m_ldI hC hw hR 16 a rfl (rfl) (by show _ < 8; omega) (by decide) d_M_meets_162 ?_
                refine lv_iload_n hx hb d_M_meets_163 rfl (lv_at hl 5 rfl) ?_
                refine lv_icmp_ne (tgt := 186) hx hb d_M_meets_164 (by decide) (fun c_164 => ?_) (fun c_164 => ?_)
                · refine lv_iconst (v := nI 0) hx hb d_M_meets_186 (by decide) ?_
                  refine x_vi (y := zI (meP sg pg (sg 3 at0 + dx) (sg 4 at0 + dy) (sg 5 at0) (a + 1))) ((zI_f (x_me0 c_153 (fun h => c_164 h.1))).symm) ?_
                  exact J187 _ _ _ hw (lv_sub hl [0, 1, 2, 3, 4, 5, 6, 7, 8, 9, 10, 11] rfl)
                · refine lv_iload hx hb d_M_meets_167 (lv_at hl 2 rfl) ?_
                  refine lv_if_eq (tgt := 186) hx hb d_M_meets_169 (by decide) (fun c_169 => ?_) (fun c_169 => ?_)
                  · have c_169 := zI_0.mp c_169
                    refine lv_iconst (v := nI 0) hx hb d_M_meets_186 (by decide) ?_
                    refine x_vi (y := zI (meP sg pg (sg 3 at0 + dx) (sg 4 at0 + dy) (sg 5 at0) (a + 1))) ((zI_f (x_me0 c_153 (fun h => c_169 h.2.1))).symm) ?_
                    exact J187 _ _ _ hw (lv_sub hl [0, 1, 2, 3, 4, 5, 6, 7, 8, 9, 10, 11] rfl)
                  · have c_169 := zI_1.mp c_169
                    refine lv_iload hx hb d_M_meets_172 (lv_at hl 1 rfl) ?_
                    refine lv_if_eq (tgt := 186) hx hb d_M_meets_174 (by decide) (fun c_174 => ?_) (fun c_174 => ?_)
                    · have c_174 := zI_0.mp c_174
                      refine lv_iconst (v := nI 0) hx hb d_M_meets_186 (by decide) ?_
                      refine x_vi (y := zI (meP sg pg (sg 3 at0 + dx) (sg 4 at0 + dy) (sg 5 at0) (a + 1))) ((zI_f (x_me0 c_153 (fun h => c_174 h.2.2.1))).symm) ?_
                      exact J187 _ _ _ hw (lv_sub hl [0, 1, 2, 3, 4, 5, 6, 7, 8, 9, 10, 11] rfl)
                    · have c_174 := zI_1.mp c_174
                      refine lv_iload hx hb d_M_meets_177 (lv_at hl 0 rfl) ?_
                      refine lv_if_eq (tgt := 186) hx hb d_M_meets_179 (by decide) (fun c_179 => ?_) (fun c_179 => ?_)
                      · have c_179 := zI_0.mp c_179
                        refine lv_iconst (v := nI 0) hx hb d_M_meets_186 (by decide) ?_
                        refine x_vi (y := zI (meP sg pg (sg 3 at0 + dx) (sg 4 at0 + dy) (sg 5 at0) (a + 1))) ((zI_f (x_me0 c_153 (fun h => c_179 h.2.2.2))).symm) ?_
                        exact J187 _ _ _ hw (lv_sub hl [0, 1, 2, 3, 4, 5, 6, 7, 8, 9, 10, 11] rfl)
                      · have c_179 := zI_1.mp c_179
                        refine lv_iconst (v := nI 1) hx hb d_M_meets_182 (by decide) ?_
                        refine lv_goto (tgt := 187) hx hb d_M_meets_183 (by decide) ?_
                        refine x_vi (y := zI (meP sg pg (sg 3 at0 + dx) (sg 4 at0 + dy) (sg 5 at0) (a + 1))) ((zI_t (x_me1 (Or.inr ⟨c_164, c_169, c_174, c_179⟩))).symm) ?_
                        exact J187 _ _ _ hw (lv_sub hl [0, 1, 2, 3, 4, 5, 6, 7, 8, 9, 10, 11] rfl)
            refine lv_iload hx hb d_M_meets_109 (lv_at hl 8 rfl) ?_
            refine lv_aload_n hx hb d_M_meets_111 rfl (lv_at hl 2 rfl) ?_
            refine x_get hC hw hR.1 rfl 18 (by decide) (hts _ k_752) (fun _ h9 => h9) rfl d_M_meets_112 ?_
            refine lv_iload hx hb d_M_meets_115 (lv_at hl 10 rfl) ?_
            refine m_ldI hC hw hR 18 a rfl (rfl) (by show _ < 8; omega) (by decide) d_M_meets_117 ?_
            refine lv_aload_n hx hb d_M_meets_118 rfl (lv_at hl 2 rfl) ?_
            refine x_get hC hw hR.1 rfl 20 (by decide) (hts _ k_754) (fun _ h9 => h9) rfl d_M_meets_119 ?_
            refine lv_iload hx hb d_M_meets_122 (lv_at hl 10 rfl) ?_
            refine m_ldI hC hw hR 20 a rfl (rfl) (by show _ < 8; omega) (by decide) d_M_meets_124 ?_
            refine lv_iadd hx hb d_M_meets_125 ?_
            refine lv_icmp_ge (tgt := 148) hx hb d_M_meets_126 (by decide) (fun c_126 => ?_) (fun c_126 => ?_)
            · refine lv_iconst (v := nI 0) hx hb d_M_meets_148 (by decide) ?_
              refine x_vi (y := zI (¬ (sg 4 at0 + dy) ≥ sg 18 a + sg 20 a ∧ ¬ sg 18 a ≥ (sg 4 at0 + dy) + nI 10)) ((zI_f (by simp [c_33, c_126])).symm) ?_
              exact J149 _ _ _ hw (lv_sub hl [0, 1, 2, 3, 4, 5, 6, 7, 8, 9, 10] rfl)
            · refine lv_aload_n hx hb d_M_meets_129 rfl (lv_at hl 2 rfl) ?_
              refine x_get hC hw hR.1 rfl 18 (by decide) (hts _ k_752) (fun _ h9 => h9) rfl d_M_meets_130 ?_
              refine lv_iload hx hb d_M_meets_133 (lv_at hl 10 rfl) ?_
              refine m_ldI hC hw hR 18 a rfl (rfl) (by show _ < 8; omega) (by decide) d_M_meets_135 ?_
              refine lv_iload hx hb d_M_meets_136 (lv_at hl 8 rfl) ?_
              refine lv_bipush (v := nI 10) hx hb d_M_meets_138 (by decide) ?_
              refine lv_iadd hx hb d_M_meets_140 ?_
              refine lv_icmp_ge (tgt := 148) hx hb d_M_meets_141 (by decide) (fun c_141 => ?_) (fun c_141 => ?_)
              · refine lv_iconst (v := nI 0) hx hb d_M_meets_148 (by decide) ?_
                refine x_vi (y := zI (¬ (sg 4 at0 + dy) ≥ sg 18 a + sg 20 a ∧ ¬ sg 18 a ≥ (sg 4 at0 + dy) + nI 10)) ((zI_f (by simp [c_33, c_126, c_141])).symm) ?_
                exact J149 _ _ _ hw (lv_sub hl [0, 1, 2, 3, 4, 5, 6, 7, 8, 9, 10] rfl)
              · refine lv_iconst (v := nI 1) hx hb d_M_meets_144 (by decide) ?_
                refine lv_goto (tgt := 149) hx hb d_M_meets_145 (by decide) ?_
                refine x_vi (y := zI (¬ (sg 4 at0 + dy) ≥ sg 18 a + sg 20 a ∧ ¬ sg 18 a ≥ (sg 4 at0 + dy) + nI 10)) ((zI_t (by simp [c_33, c_126, c_141])).symm) ?_
                exact J149 _ _ _ hw (lv_sub hl [0, 1, 2, 3, 4, 5, 6, 7, 8, 9, 10] rfl)
          refine lv_iload hx hb d_M_meets_63 (lv_at hl 6 rfl) ?_
          refine lv_aload_n hx hb d_M_meets_65 rfl (lv_at hl 1 rfl) ?_
          refine x_get hC hw hR.1 rfl 17 (by decide) (hts _ k_751) (fun _ h9 => h9) rfl d_M_meets_66 ?_
          refine lv_iload hx hb d_M_meets_69 (lv_at hl 9 rfl) ?_
          refine m_ldI hC hw hR 17 a rfl (rfl) (by show _ < 8; omega) (by decide) d_M_meets_71 ?_
          refine lv_aload_n hx hb d_M_meets_72 rfl (lv_at hl 1 rfl) ?_
          refine x_get hC hw hR.1 rfl 19 (by decide) (hts _ k_753) (fun _ h9 => h9) rfl d_M_meets_73 ?_
          refine lv_iload hx hb d_M_meets_76 (lv_at hl 9 rfl) ?_
          refine m_ldI hC hw hR 19 a rfl (rfl) (by show _ < 8; omega) (by decide) d_M_meets_78 ?_
          refine lv_iadd hx hb d_M_meets_79 ?_
          refine lv_icmp_ge (tgt := 106) hx hb d_M_meets_80 (by decide) (fun c_80 => ?_) (fun c_80 => ?_)
          · refine lv_iconst (v := nI 0) hx hb d_M_meets_106 (by decide) ?_
            refine x_vi (y := zI (¬ (sg 3 at0 + dx) ≥ sg 17 a + sg 19 a ∧ ¬ sg 17 a ≥ (sg 3 at0 + dx) + sg 5 at0)) ((zI_f (by simp [c_33, c_80])).symm) ?_
            exact J107 _ _ _ hw (lv_sub hl [0, 1, 2, 3, 4, 5, 6, 7, 8, 9] rfl)
          · refine lv_aload_n hx hb d_M_meets_83 rfl (lv_at hl 1 rfl) ?_
            refine x_get hC hw hR.1 rfl 17 (by decide) (hts _ k_751) (fun _ h9 => h9) rfl d_M_meets_84 ?_
            refine lv_iload hx hb d_M_meets_87 (lv_at hl 9 rfl) ?_
            refine m_ldI hC hw hR 17 a rfl (rfl) (by show _ < 8; omega) (by decide) d_M_meets_89 ?_
            refine lv_iload hx hb d_M_meets_90 (lv_at hl 6 rfl) ?_
            refine lv_aload_n hx hb d_M_meets_92 rfl (lv_at hl 1 rfl) ?_
            refine x_get hC hw hR.1 rfl 5 (by decide) (hts _ k_739) (fun _ h9 => h9) rfl d_M_meets_93 ?_
            refine lv_iload_n hx hb d_M_meets_96 rfl (lv_at hl 2 rfl) ?_
            refine m_ldI hC hw hR 5 at0 rfl (rfl) (by show _ < 960; omega) (by decide) d_M_meets_97 ?_
            refine lv_iadd hx hb d_M_meets_98 ?_
            refine lv_icmp_ge (tgt := 106) hx hb d_M_meets_99 (by decide) (fun c_99 => ?_) (fun c_99 => ?_)
            · refine lv_iconst (v := nI 0) hx hb d_M_meets_106 (by decide) ?_
              refine x_vi (y := zI (¬ (sg 3 at0 + dx) ≥ sg 17 a + sg 19 a ∧ ¬ sg 17 a ≥ (sg 3 at0 + dx) + sg 5 at0)) ((zI_f (by simp [c_33, c_80, c_99])).symm) ?_
              exact J107 _ _ _ hw (lv_sub hl [0, 1, 2, 3, 4, 5, 6, 7, 8, 9] rfl)
            · refine lv_iconst (v := nI 1) hx hb d_M_meets_102 (by decide) ?_
              refine lv_goto (tgt := 107) hx hb d_M_meets_103 (by decide) ?_
              refine x_vi (y := zI (¬ (sg 3 at0 + dx) ≥ sg 17 a + sg 19 a ∧ ¬ sg 17 a ≥ (sg 3 at0 + dx) + sg 5 at0)) ((zI_t (by simp [c_33, c_80, c_99])).symm) ?_
              exact J107 _ _ _ hw (lv_sub hl [0, 1, 2, 3, 4, 5, 6, 7, 8, 9] rfl)
        refine lv_aload_n hx hb d_M_meets_36 rfl (lv_at hl 0 rfl) ?_
        refine x_get hC hw hR.1 rfl 19 (by decide) (hts _ k_753) (fun _ h9 => h9) rfl d_M_meets_37 ?_
        refine lv_iload hx hb d_M_meets_40 (lv_at hl 8 rfl) ?_
        refine m_ldI hC hw hR 19 a rfl (rfl) (by show _ < 8; omega) (by decide) d_M_meets_42 ?_
        refine lv_if_le (tgt := 60) hx hb d_M_meets_43 (by decide) (fun c_43 => ?_) (fun c_43 => ?_)
        · refine lv_iconst (v := nI 0) hx hb d_M_meets_60 (by decide) ?_
          refine x_vi (y := zI (¬ sg 19 a ≤ 0 ∧ ¬ sg 20 a ≤ 0)) ((zI_f (by simp [c_33, c_43])).symm) ?_
          exact J61 _ _ _ hw (lv_sub hl [0, 1, 2, 3, 4, 5, 6, 7, 8] rfl)
        · refine lv_aload_n hx hb d_M_meets_46 rfl (lv_at hl 0 rfl) ?_
          refine x_get hC hw hR.1 rfl 20 (by decide) (hts _ k_754) (fun _ h9 => h9) rfl d_M_meets_47 ?_
          refine lv_iload hx hb d_M_meets_50 (lv_at hl 8 rfl) ?_
          refine m_ldI hC hw hR 20 a rfl (rfl) (by show _ < 8; omega) (by decide) d_M_meets_52 ?_
          refine lv_if_le (tgt := 60) hx hb d_M_meets_53 (by decide) (fun c_53 => ?_) (fun c_53 => ?_)
          · refine lv_iconst (v := nI 0) hx hb d_M_meets_60 (by decide) ?_
            refine x_vi (y := zI (¬ sg 19 a ≤ 0 ∧ ¬ sg 20 a ≤ 0)) ((zI_f (by simp [c_33, c_43, c_53])).symm) ?_
            exact J61 _ _ _ hw (lv_sub hl [0, 1, 2, 3, 4, 5, 6, 7, 8] rfl)
          · refine lv_iconst (v := nI 1) hx hb d_M_meets_56 (by decide) ?_
            refine lv_goto (tgt := 61) hx hb d_M_meets_57 (by decide) ?_
            refine x_vi (y := zI (¬ sg 19 a ≤ 0 ∧ ¬ sg 20 a ≤ 0)) ((zI_t (by simp [c_33, c_43, c_53])).symm) ?_
            exact J61 _ _ _ hw (lv_sub hl [0, 1, 2, 3, 4, 5, 6, 7, 8] rfl)
  exact HL27 (nu 15 0 + 1) (0)  (by omega) (by omega)  _ _ _ hw (lv_sub hl [4, 5, 6, 7, 8, 3, 2, 1, 0] rfl)

set_option maxHeartbeats 1000000 in
set_option maxRecDepth 100000 in
/-- hasMark -/
theorem c_M_hasMark (l : Launch) (G : xT) (M : xMem) (sz : Nat) (md : Nat) (am : Nat → Nat) (nu : Nat → Nat → Nat) (sg : Nat → Nat → Int32) (hR : mRep G M md am nu sg) (u : Nat) (hu : u < 12) : xMet l G y_M_hasMark (Cond.code y_M_hasMark b_M_hasMark 4 (Option.some Jvm.ClassFile.FieldType.boolean) :: x_tbl) { frames := 1, cells := 0, slots := 0, locals := 25 } [.ref md, .int (nI u)] M sz (fun v M' => v = some (.int (zI (∃ j, j < 40 ∧ ¬ sg 27 (160 + 40 * u + j) = 0))) ∧ M' = M) (fun _ _ => False) := by
  refine xMet.of (by decide) (Nat.le_of_ble_eq_true rfl) ?_
  intro p e s m below meth c ls hC hr hnm hno hsz hw hl
  obtain ⟨hx, hb, hown, hts, hK, hml, hlk, hz⟩ := id hC
  have hl : lv_has ls 4 [(0, .ref md), (1, .int (nI u))] := hl
  have hF : xfr M M (mS md am) := xfr.rf
  refine lv_iconst (v := nI 0) hx hb d_M_hasMark_0 (by decide) ?_
  refine x_vi (y := zI (∃ j, j < 0 ∧ ¬ sg 27 (160 + 40 * u + j) = 0)) ((zI_f (fun h => by obtain ⟨a, h1, h2⟩ := h; omega)).symm) ?_
  refine lv_istore_n (lv' := [(2, .int (zI (∃ j, j < 0 ∧ ¬ sg 27 (160 + 40 * u + j) = 0))), (0, .ref md), (1, .int (nI u))]) hx hb d_M_hasMark_1 rfl hl (by decide) rfl (fun ls hl => ?_)
  refine lv_iconst (v := nI 0) hx hb d_M_hasMark_2 (by decide) ?_
  refine lv_istore_n (lv' := [(3, .int (nI 0)), (2, .int (zI (∃ j, j < 0 ∧ ¬ sg 27 (160 + 40 * u + j) = 0))), (0, .ref md), (1, .int (nI u))]) hx hb d_M_hasMark_3 rfl hl (by decide) rfl (fun ls hl => ?_)
  have HL4 : ∀ (z4 k : Nat), k ≤ 40 → 40 + 1 ≤ k + z4 → ∀ (H : Heap) (locs : List Loc) (ls : Array Slot), xWd G (xA M sz) s.heap M H locs → lv_has ls 4 [(0, .ref md), (1, .int (nI u)), (2, .int (zI (∃ j, j < k ∧ ¬ sg 27 (160 + 40 * u + j) = 0))), (3, .int (nI k))] → W p l e { frames := 1, cells := 0, slots := 0, locals := 25 } s m ([.ref md, .int (nI u)] : List Value).toArray below meth c H locs 0 0 (xMQ below G M sz (fun v M' => v = some (.int (zI (∃ j, j < 40 ∧ ¬ sg 27 (160 + 40 * u + j) = 0))) ∧ M' = M) (fun _ _ => False) s 0 0) (F0 m 4 ls []) := by
    intro z4
    induction z4 with
    | zero =>
      intro k  h1 h2
      omega
    | succ z4 ih4 =>
      intro k  hi4 hz4  H locs ls hw hl
      refine lv_iload_n hx hb d_M_hasMark_4 rfl (lv_at hl 3 rfl) ?_
      refine lv_bipush (v := nI 40) hx hb d_M_hasMark_5 (by decide) ?_
      refine lv_icmp_ge (tgt := 40) hx hb d_M_hasMark_7 (by decide) (fun c_7 => ?_) (fun c_7 => ?_)
      · have c_7 := (nI_leI (by omega) (by omega)).mp c_7
        refine lv_iload_n hx hb d_M_hasMark_40 rfl (lv_at hl 2 rfl) ?_
        exact x_zret hC hr hw (by first | exact zI_narV _ | rfl | assumption | decide +kernel) (⟨by rw [show k = 40 by omega], rfl⟩) (Nat.le_of_ble_eq_true rfl) (Nat.le_of_ble_eq_true rfl) d_M_hasMark_41
      · have c_7 := Nat.not_le.mp ((not_congr (nI_leI (by omega) (by omega))).mp c_7)
        have J33 : ∀ (H : Heap) (locs : List Loc) (ls : Array Slot), xWd G (xA M sz) s.heap M H locs → lv_has ls 4 [(0, .ref md), (1, .int (nI u)), (2, .int (zI (∃ j, j < k ∧ ¬ sg 27 (160 + 40 * u + j) = 0))), (3, .int (nI k))] → W p l e { frames := 1, cells := 0, slots := 0, locals := 25 } s m ([.ref md, .int (nI u)] : List Value).toArray below meth c H locs 0 0 (xMQ below G M sz (fun v M' => v = some (.int (zI (∃ j, j < 40 ∧ ¬ sg 27 (160 + 40 * u + j) = 0))) ∧ M' = M) (fun _ _ => False) s 0 0) (F0 m 33 ls [.int (zI (∃ j, j < (k + 1) ∧ ¬ sg 27 (160 + 40 * u + j) = 0))]) := by
          intro H locs ls hw hl
          refine lv_istore_n (lv' := [(2, .int (zI (∃ j, j < (k + 1) ∧ ¬ sg 27 (160 + 40 * u + j) = 0))), (0, .ref md), (1, .int (nI u)), (3, .int (nI k))]) hx hb d_M_hasMark_33 rfl hl (by decide) rfl (fun ls hl => ?_)
          refine lv_iinc (v := nI (k + 1)) (lv' := [(3, .int (nI (k + 1))), (2, .int (zI (∃ j, j < (k + 1) ∧ ¬ sg 27 (160 + 40 * u + j) = 0))), (0, .ref md), (1, .int (nI u))]) hx hb d_M_hasMark_34 hl (k := 3) rfl (by exact nI_1 _) (by decide) rfl (fun ls hl => ?_)
          refine lv_goto (tgt := 4) hx hb d_M_hasMark_37 (by decide) ?_
          exact ih4 (k + 1)  (by omega) (by omega)  _ _ _ hw (lv_sub hl [2, 3, 1, 0] rfl)
        refine lv_iload_n hx hb d_M_hasMark_10 rfl (lv_at hl 2 rfl) ?_
        refine lv_if_ne (tgt := 28) hx hb d_M_hasMark_11 (by decide) (fun c_11 => ?_) (fun c_11 => ?_)
        · have c_11 := zI_1.mp c_11
          refine lv_iconst (v := nI 1) hx hb d_M_hasMark_28 (by decide) ?_
          refine lv_goto (tgt := 33) hx hb d_M_hasMark_29 (by decide) ?_
          refine x_vi (y := zI (∃ j, j < (k + 1) ∧ ¬ sg 27 (160 + 40 * u + j) = 0)) ((zI_t (by obtain ⟨j, h1, h2⟩ := c_11; exact ⟨j, by omega, h2⟩)).symm) ?_
          exact J33 _ _ _ hw (lv_sub hl [0, 1, 2, 3] rfl)
        · have c_11 := zI_0.mp c_11
          refine lv_aload_n hx hb d_M_hasMark_14 rfl (lv_at hl 0 rfl) ?_
          refine x_get hC hw hR.1 rfl 27 (by decide) (hts _ k_761) (fun _ h9 => h9) rfl d_M_hasMark_15 ?_
          refine lv_iload_n hx hb d_M_hasMark_18 rfl (lv_at hl 1 rfl) ?_
          refine x_callG hC (c_M_markPlace l G M (Array.size H) u) k_909 k_13 ⟨Nat.le_of_ble_eq_true rfl, Nat.le_of_ble_eq_true rfl⟩ ⟨Nat.le_of_ble_eq_true rfl, Nat.le_of_ble_eq_true rfl⟩ hw hl.1 (Nat.le_of_ble_eq_true rfl) d_M_hasMark_19 (x_ivS hC k_909 k_907 k_908 k_13 (show _ ∧ _ ∧ _ = some 1 from by decide +kernel) rfl d_M_hasMark_19) (fun rv M3 H locs hq hw => ?_) (fun _ _ _ _ _ h _ _ => h.elim)
          obtain ⟨rfl, hM⟩ := hq
          subst M3
          refine W.eq (g2 := F0 m 22 ls [.int (nI (160 + 40 * u)), .ref (am 27)]) rfl ?_
          refine lv_iload_n hx hb d_M_hasMark_22 rfl (lv_at hl 3 rfl) ?_
          refine lv_iadd hx hb d_M_hasMark_23 ?_
          refine x_vi (y := nI ((160 + 40 * u) + k)) (nI_add _ _) ?_
          refine m_ldZ hC hw hR 27 ((160 + 40 * u) + k) rfl (rfl) (by show _ < 640; omega) (by decide) d_M_hasMark_24 ?_
          refine lv_if_eq (tgt := 32) hx hb d_M_hasMark_25 (by decide) (fun c_25 => ?_) (fun c_25 => ?_)
          · refine lv_iconst (v := nI 0) hx hb d_M_hasMark_32 (by decide) ?_
            refine x_vi (y := zI (∃ j, j < (k + 1) ∧ ¬ sg 27 (160 + 40 * u + j) = 0)) ((zI_f (x_exS c_11 (not_not_intro c_25))).symm) ?_
            exact J33 _ _ _ hw (lv_sub hl [0, 1, 2, 3] rfl)
          · refine lv_iconst (v := nI 1) hx hb d_M_hasMark_28 (by decide) ?_
            refine lv_goto (tgt := 33) hx hb d_M_hasMark_29 (by decide) ?_
            refine x_vi (y := zI (∃ j, j < (k + 1) ∧ ¬ sg 27 (160 + 40 * u + j) = 0)) ((zI_t ⟨k, by omega, c_25⟩).symm) ?_
            exact J33 _ _ _ hw (lv_sub hl [0, 1, 2, 3] rfl)
  exact HL4 (40 + 1) (0)  (by omega) (by omega)  _ _ _ hw (lv_sub hl [2, 3, 1, 0] rfl)

set_option maxHeartbeats 1000000 in
set_option maxRecDepth 100000 in
/-- areAlike -/
theorem c_M_areAlike (l : Launch) (G : xT) (M : xMem) (sz : Nat) (md : Nat) (am : Nat → Nat) (nu : Nat → Nat → Nat) (sg : Nat → Nat → Int32) (hR : mRep G M md am nu sg) (u w : Nat) (hu : u < 12) (hw12 : w < 12) (hf : ∀ u, u < 12 → nu 9 u < 2 ^ 31) : xMet l G y_M_areAlike (Cond.code y_M_areAlike b_M_areAlike 5 (Option.some Jvm.ClassFile.FieldType.boolean) :: x_tbl) { frames := 1, cells := 0, slots := 0, locals := 25 } [.ref md, .int (nI u), .int (nI w)] M sz (fun v M' => v = some (.int (zI (nu 9 u = nu 9 w ∧ ∀ j, j < 40 → sg 27 (160 + 40 * u + j) = sg 27 (160 + 40 * w + j)))) ∧ M' = M) (fun _ _ => False) := by
  refine xMet.of (by decide) (Nat.le_of_ble_eq_true rfl) ?_
  intro p e s m below meth c ls hC hr hnm hno hsz hw hl
  obtain ⟨hx, hb, hown, hts, hK, hml, hlk, hz⟩ := id hC
  have hl : lv_has ls 5 [(0, .ref md), (1, .int (nI u)), (2, .int (nI w))] := hl
  have hF : xfr M M (mS md am) := xfr.rf
  have hf1 := hf u hu
  have hf2 := hf w hw12
  have J20 : ∀ (H : Heap) (locs : List Loc) (ls : Array Slot), xWd G (xA M sz) s.heap M H locs → lv_has ls 5 [(0, .ref md), (1, .int (nI u)), (2, .int (nI w))] → W p l e { frames := 1, cells := 0, slots := 0, locals := 25 } s m ([.ref md, .int (nI u), .int (nI w)] : List Value).toArray below meth c H locs 0 0 (xMQ below G M sz (fun v M' => v = some (.int (zI (nu 9 u = nu 9 w ∧ ∀ j, j < 40 → sg 27 (160 + 40 * u + j) = sg 27 (160 + 40 * w + j)))) ∧ M' = M) (fun _ _ => False) s 0 0) (F0 m 20 ls [.int (zI (nu 9 u = nu 9 w ∧ ∀ j, j < 0 → sg 27 (160 + 40 * u + j) = sg 27 (160 + 40 * w + j)))]) := by
    intro H locs ls hw hl
    refine lv_istore_n (lv' := [(3, .int (zI (nu 9 u = nu 9 w ∧ ∀ j, j < 0 → sg 27 (160 + 40 * u + j) = sg 27 (160 + 40 * w + j)))), (0, .ref md), (1, .int (nI u)), (2, .int (nI w))]) hx hb d_M_areAlike_20 rfl hl (by decide) rfl (fun ls hl => ?_)
    refine lv_iconst (v := nI 0) hx hb d_M_areAlike_21 (by decide) ?_
    refine lv_istore (lv' := [(4, .int (nI 0)), (3, .int (zI (nu 9 u = nu 9 w ∧ ∀ j, j < 0 → sg 27 (160 + 40 * u + j) = sg 27 (160 + 40 * w + j)))), (0, .ref md), (1, .int (nI u)), (2, .int (nI w))]) hx hb d_M_areAlike_22 hl (by decide) rfl (fun ls hl => ?_)
    have HL24 : ∀ (z24 k : Nat), k ≤ 40 → 40 + 1 ≤ k + z24 → ∀ (H : Heap) (locs : List Loc) (ls : Array Slot), xWd G (xA M sz) s.heap M H locs → lv_has ls 5 [(0, .ref md), (1, .int (nI u)), (2, .int (nI w)), (3, .int (zI (nu 9 u = nu 9 w ∧ ∀ j, j < k → sg 27 (160 + 40 * u + j) = sg 27 (160 + 40 * w + j)))), (4, .int (nI k))] → W p l e { frames := 1, cells := 0, slots := 0, locals := 25 } s m ([.ref md, .int (nI u), .int (nI w)] : List Value).toArray below meth c H locs 0 0 (xMQ below G M sz (fun v M' => v = some (.int (zI (nu 9 u = nu 9 w ∧ ∀ j, j < 40 → sg 27 (160 + 40 * u + j) = sg 27 (160 + 40 * w + j)))) ∧ M' = M) (fun _ _ => False) s 0 0) (F0 m 24 ls []) := by
      intro z24
      induction z24 with
      | zero =>
        intro k  h1 h2
        omega
      | succ z24 ih24 =>
        intro k  hi24 hz24  H locs ls hw hl
        refine lv_iload hx hb d_M_areAlike_24 (lv_at hl 4 rfl) ?_
        refine lv_bipush (v := nI 40) hx hb d_M_areAlike_26 (by decide) ?_
        refine lv_icmp_ge (tgt := 74) hx hb d_M_areAlike_28 (by decide) (fun c_28 => ?_) (fun c_28 => ?_)
        · have c_28 := (nI_leI (by omega) (by omega)).mp c_28
          refine lv_iload_n hx hb d_M_areAlike_74 rfl (lv_at hl 3 rfl) ?_
          exact x_zret hC hr hw (by first | exact zI_narV _ | rfl | assumption | decide +kernel) (⟨by rw [show k = 40 by omega], rfl⟩) (Nat.le_of_ble_eq_true rfl) (Nat.le_of_ble_eq_true rfl) d_M_areAlike_75
        · have c_28 := Nat.not_le.mp ((not_congr (nI_leI (by omega) (by omega))).mp c_28)
          have J67 : ∀ (H : Heap) (locs : List Loc) (ls : Array Slot), xWd G (xA M sz) s.heap M H locs → lv_has ls 5 [(0, .ref md), (1, .int (nI u)), (2, .int (nI w)), (3, .int (zI (nu 9 u = nu 9 w ∧ ∀ j, j < k → sg 27 (160 + 40 * u + j) = sg 27 (160 + 40 * w + j)))), (4, .int (nI k))] → W p l e { frames := 1, cells := 0, slots := 0, locals := 25 } s m ([.ref md, .int (nI u), .int (nI w)] : List Value).toArray below meth c H locs 0 0 (xMQ below G M sz (fun v M' => v = some (.int (zI (nu 9 u = nu 9 w ∧ ∀ j, j < 40 → sg 27 (160 + 40 * u + j) = sg 27 (160 + 40 * w + j)))) ∧ M' = M) (fun _ _ => False) s 0 0) (F0 m 67 ls [.int (zI (nu 9 u = nu 9 w ∧ ∀ j, j < (k + 1) → sg 27 (160 + 40 * u + j) = sg 27 (160 + 40 * w + j)))]) := by
            intro H locs ls hw hl
            refine lv_istore_n (lv' := [(3, .int (zI (nu 9 u = nu 9 w ∧ ∀ j, j < (k + 1) → sg 27 (160 + 40 * u + j) = sg 27 (160 + 40 * w + j)))), (0, .ref md), (1, .int (nI u)), (2, .int (nI w)), (4, .int (nI k))]) hx hb d_M_areAlike_67 rfl hl (by decide) rfl (fun ls hl => ?_)
            refine lv_iinc (v := nI (k + 1)) (lv' := [(4, .int (nI (k + 1))), (3, .int (zI (nu 9 u = nu 9 w ∧ ∀ j, j < (k + 1) → sg 27 (160 + 40 * u + j) = sg 27 (160 + 40 * w + j)))), (0, .ref md), (1, .int (nI u)), (2, .int (nI w))]) hx hb d_M_areAlike_68 hl (k := 4) rfl (by exact nI_1 _) (by decide) rfl (fun ls hl => ?_)
            refine lv_goto (tgt := 24) hx hb d_M_areAlike_71 (by decide) ?_
            exact ih24 (k + 1)  (by omega) (by omega)  _ _ _ hw (lv_sub hl [2, 3, 4, 1, 0] rfl)
          refine lv_iload_n hx hb d_M_areAlike_31 rfl (lv_at hl 3 rfl) ?_
          refine lv_if_eq (tgt := 66) hx hb d_M_areAlike_32 (by decide) (fun c_32 => ?_) (fun c_32 => ?_)
          · have c_32 := zI_0.mp c_32
            refine lv_iconst (v := nI 0) hx hb d_M_areAlike_66 (by decide) ?_
            refine x_vi (y := zI (nu 9 u = nu 9 w ∧ ∀ j, j < (k + 1) → sg 27 (160 + 40 * u + j) = sg 27 (160 + 40 * w + j))) ((zI_f (fun h => c_32 ⟨h.1, fun j hj => h.2 j (by omega)⟩)).symm) ?_
            exact J67 _ _ _ hw (lv_sub hl [0, 1, 2, 3, 4] rfl)
          · have c_32 := zI_1.mp c_32
            refine lv_aload_n hx hb d_M_areAlike_35 rfl (lv_at hl 0 rfl) ?_
            refine x_get hC hw hR.1 rfl 27 (by decide) (hts _ k_761) (fun _ h9 => h9) rfl d_M_areAlike_36 ?_
            refine lv_iload_n hx hb d_M_areAlike_39 rfl (lv_at hl 1 rfl) ?_
            refine x_callG hC (c_M_markPlace l G M (Array.size H) u) k_909 k_13 ⟨Nat.le_of_ble_eq_true rfl, Nat.le_of_ble_eq_true rfl⟩ ⟨Nat.le_of_ble_eq_true rfl, Nat.le_of_ble_eq_true rfl⟩ hw hl.1 (Nat.le_of_ble_eq_true rfl) d_M_areAlike_40 (x_ivS hC k_909 k_907 k_908 k_13 (show _ ∧ _ ∧ _ = some 1 from by decide +kernel) rfl d_M_areAlike_40) (fun rv M3 H locs hq hw => ?_) (fun _ _ _ _ _ h _ _ => h.elim)
            obtain ⟨rfl, hM⟩ := hq
            subst M3
            refine W.eq (g2 := F0 m 43 ls [.int (nI (160 + 40 * u)), .ref (am 27)]) rfl ?_
            refine lv_iload hx hb d_M_areAlike_43 (lv_at hl 4 rfl) ?_
            refine lv_iadd hx hb d_M_areAlike_45 ?_
            refine x_vi (y := nI ((160 + 40 * u) + k)) (nI_add _ _) ?_
            refine m_ldZ hC hw hR 27 ((160 + 40 * u) + k) rfl (rfl) (by show _ < 640; omega) (by decide) d_M_areAlike_46 ?_
            refine lv_aload_n hx hb d_M_areAlike_47 rfl (lv_at hl 0 rfl) ?_
            refine x_get hC hw hR.1 rfl 27 (by decide) (hts _ k_761) (fun _ h9 => h9) rfl d_M_areAlike_48 ?_
            refine lv_iload_n hx hb d_M_areAlike_51 rfl (lv_at hl 2 rfl) ?_
            refine x_callG hC (c_M_markPlace l G M (Array.size H) w) k_909 k_13 ⟨Nat.le_of_ble_eq_true rfl, Nat.le_of_ble_eq_true rfl⟩ ⟨Nat.le_of_ble_eq_true rfl, Nat.le_of_ble_eq_true rfl⟩ hw hl.1 (Nat.le_of_ble_eq_true rfl) d_M_areAlike_52 (x_ivS hC k_909 k_907 k_908 k_13 (show _ ∧ _ ∧ _ = some 1 from by decide +kernel) rfl d_M_areAlike_52) (fun rv M4 H locs hq hw => ?_) (fun _ _ _ _ _ h _ _ => h.elim)
            obtain ⟨rfl, hM⟩ := hq
            subst M4
            refine W.eq (g2 := F0 m 55 ls [.int (nI (160 + 40 * w)), .ref (am 27), .int (sg 27 ((160 + 40 * u) + k))]) rfl ?_
            refine lv_iload hx hb d_M_areAlike_55 (lv_at hl 4 rfl) ?_
            refine lv_iadd hx hb d_M_areAlike_57 ?_
            refine x_vi (y := nI ((160 + 40 * w) + k)) (nI_add _ _) ?_
            refine m_ldZ hC hw hR 27 ((160 + 40 * w) + k) rfl (rfl) (by show _ < 640; omega) (by decide) d_M_areAlike_58 ?_
            refine lv_icmp_ne (tgt := 66) hx hb d_M_areAlike_59 (by decide) (fun c_59 => ?_) (fun c_59 => ?_)
            · refine lv_iconst (v := nI 0) hx hb d_M_areAlike_66 (by decide) ?_
              refine x_vi (y := zI (nu 9 u = nu 9 w ∧ ∀ j, j < (k + 1) → sg 27 (160 + 40 * u + j) = sg 27 (160 + 40 * w + j))) ((zI_f (fun h => c_59 (h.2 k (by omega)))).symm) ?_
              exact J67 _ _ _ hw (lv_sub hl [0, 1, 2, 3, 4] rfl)
            · refine lv_iconst (v := nI 1) hx hb d_M_areAlike_62 (by decide) ?_
              refine lv_goto (tgt := 67) hx hb d_M_areAlike_63 (by decide) ?_
              refine x_vi (y := zI (nu 9 u = nu 9 w ∧ ∀ j, j < (k + 1) → sg 27 (160 + 40 * u + j) = sg 27 (160 + 40 * w + j))) ((zI_t ⟨c_32.1, x_all1 c_32.2 c_59⟩).symm) ?_
              exact J67 _ _ _ hw (lv_sub hl [0, 1, 2, 3, 4] rfl)
    exact HL24 (40 + 1) (0)  (by omega) (by omega)  _ _ _ hw (lv_sub hl [2, 3, 4, 1, 0] rfl)
  refine lv_aload_n hx hb d_M_areAlike_0 rfl (lv_at hl 0 rfl) ?_
  refine x_get hC hw hR.1 rfl 9 (by decide) (hts _ k_743) (fun _ h9 => h9) rfl d_M_areAlike_1 ?_
  refine lv_iload_n hx hb d_M_areAlike_4 rfl (lv_at hl 1 rfl) ?_
  refine m_ldN hC hw hR 9 u rfl (rfl) (by show _ < 12; omega) (by decide) d_M_areAlike_5 ?_
  refine lv_aload_n hx hb d_M_areAlike_6 rfl (lv_at hl 0 rfl) ?_
  refine x_get hC hw hR.1 rfl 9 (by decide) (hts _ k_743) (fun _ h9 => h9) rfl d_M_areAlike_7 ?_
  refine lv_iload_n hx hb d_M_areAlike_10 rfl (lv_at hl 2 rfl) ?_
  refine m_ldN hC hw hR 9 w rfl (rfl) (by show _ < 12; omega) (by decide) d_M_areAlike_11 ?_
  refine lv_icmp_ne (tgt := 19) hx hb d_M_areAlike_12 (by decide) (fun c_12 => ?_) (fun c_12 => ?_)
  · have c_12 := (not_congr (nI_eq (by omega) (by omega))).mp c_12
    refine lv_iconst (v := nI 0) hx hb d_M_areAlike_19 (by decide) ?_
    refine x_vi (y := zI (nu 9 u = nu 9 w ∧ ∀ j, j < 0 → sg 27 (160 + 40 * u + j) = sg 27 (160 + 40 * w + j))) ((zI_f (fun h => c_12 h.1)).symm) ?_
    exact J20 _ _ _ hw (lv_sub hl [0, 1, 2] rfl)
  · have c_12 := (nI_eq (by omega) (by omega)).mp c_12
    refine lv_iconst (v := nI 1) hx hb d_M_areAlike_15 (by decide) ?_
    refine lv_goto (tgt := 20) hx hb d_M_areAlike_16 (by decide) ?_
    refine x_vi (y := zI (nu 9 u = nu 9 w ∧ ∀ j, j < 0 → sg 27 (160 + 40 * u + j) = sg 27 (160 + 40 * w + j))) ((zI_t ⟨c_12, fun j hj => absurd hj (Nat.not_lt_zero j)⟩).symm) ?_
    exact J20 _ _ _ hw (lv_sub hl [0, 1, 2] rfl)
