theorem kt_z {c : Prop} {a b : Nat} (h : kt c a b = 0) (ha : a ≠ 0) : ¬ c ∧ b = 0 := by
  by_cases hc : c
  · rw [kt_t hc] at h
    exact absurd h ha
  · rw [kt_f hc] at h
    exact ⟨hc, h⟩
theorem law_same {G : xT} {M M' M2 : xMem} {fz md out : Nat} {ad ad' : Nat → Nat → Nat} {am : Nat → Nat} {nu nu' nu2 : Nat → Nat → Nat} {sg sg' : Nat → Nat → Int32} {ov ov' : Nat → Int64} (hz9 : M2 fz = none) (hI : lawI G M fz ad md out am nu sg ov) (q1 : cRep G M' fz ad' nu' sg') (q6 : ∀ a, own ad' nu' a → own ad nu a ∨ M a = none) (ho : M' out = some (.inl (G.2.1 2, 1, .inr (.inl ov')))) (q5 : cFo M M' ad nu out) (hm : mRep G M2 md am nu2 sg) (fr : xfr M' M2 (mS md am)) (e : nu' = nu ∧ sg' = sg) (s1 : eqx [0] nu nu2) : lawI G M2 fz ad' md out am nu2 sg ov' := by
  obtain ⟨e1, e2⟩ := e
  rw [e1, e2] at q1
  rw [e1] at q6
  have ok := hI.2.2.1
  have hfm := ok.2.2.2.2.2.2.2.2.2.1
  exact law_step hz9 hI q1 q6 ho q5 hm fr (fun M9 hc9 => hc9.to hfm (trP_0 s1)) (rng_eqx s1 (by decide)) (okS_0 ok s1)
section KZ
variable {nu : Nat → Nat → Nat}
theorem addK_z {r : Nat} {a b c d : Int32} (h40 : ∀ r, nu 1 r ≤ 40) (h : addK nu r a b c d = 0) : nu 1 r < 40 := by
  have z := kt_z (kt_z h (by decide)).2 (by decide)
  have := h40 r
  omega
theorem signK_z {pg a b c d : Int32} (h40 : ∀ r, nu 1 r ≤ 40) (h : signK nu pg a b c d = 0) : cN pg < 4 + nu 6 0 ∧ nu 1 (cN pg) < 40 := by
  have z := kt_z h (by decide)
  have z1 := (Classical.not_not.mp z.1).2
  exact ⟨by omega, addK_z h40 z.2⟩
theorem formSignK_z {pg a b c d : Int32} (h40 : ∀ r, nu 1 r ≤ 40) (h : formSignK nu pg a b c d = 0) : 4 + cN pg < 4 + nu 6 0 ∧ nu 1 (4 + cN pg) < 40 := by
  have z := kt_z h (by decide)
  have z1 := (Classical.not_not.mp z.1).2
  exact ⟨by omega, addK_z h40 z.2⟩
theorem formK_z (h20 : nu 6 0 ≤ 20) (h : formK nu = 0) : nu 6 0 < 20 := by
  have := (kt_z h (by decide)).1
  omega
theorem wordK_z (h20 : nu 12 0 ≤ 4) (h : wordK nu = 0) : nu 12 0 < 4 := by
  have := (kt_z h (by decide)).1
  omega
theorem letterK_z {wo co : Int32} (h8 : ∀ w, nu 13 w ≤ 8) (h : letterK nu wo co = 0) : cN wo < nu 12 0 ∧ nu 13 (cN wo) < 8 ∧ ¬ co = 0 := by
  have z := kt_z h (by decide)
  have z2 := kt_z z.2 (by decide)
  have z3 := kt_z z2.2 (by decide)
  have := h8 (cN wo)
  refine ⟨(Classical.not_not.mp z.1).2, by omega, fun y => ?_⟩
  have w := (Classical.not_not.mp z2.1).1.1
  rw [y] at w
  exact absurd (by decide +kernel : (0 : Int32) < nI 33) w
theorem areaK_z {pg x y wd hg : Int32} (h8 : nu 15 0 ≤ 8) (h : areaK nu pg x y wd hg = 0) : nu 15 0 < 8 := by
  have z3 := kt_z (kt_z (kt_z h (by decide)).2 (by decide)).2 (by decide)
  omega
theorem storeK_z {en : Int32} (h8 : nu 21 0 ≤ 8) (h : storeK nu en = 0) : numP en 4 ∧ nu 21 0 < 8 := by
  have z := kt_z h (by decide)
  have z2 := kt_z z.2 (by decide)
  exact ⟨Classical.not_not.mp z.1, by omega⟩
theorem octetK_z {so : Int32} (h60 : ∀ t, nu 23 t ≤ 60) (h : octetK nu so = 0) : cN so < nu 21 0 ∧ nu 23 (cN so) < 60 := by
  have z := kt_z h (by decide)
  have z2 := kt_z z.2 (by decide)
  have := h60 (cN so)
  exact ⟨(Classical.not_not.mp z.1).2, by omega⟩
theorem useK_z {pg fo dx dy : Int32} (h12 : nu 7 0 ≤ 12) (h : useK nu pg fo dx dy = 0) : numP pg 4 ∧ numP fo (nu 6 0) ∧ nu 7 0 < 12 := by
  have z := kt_z h (by decide)
  have z3 := kt_z (kt_z z.2 (by decide)).2 (by decide)
  have z1 := Classical.not_not.mp z.1
  exact ⟨z1.1, z1.2, by omega⟩
theorem K0 {K : Nat} (h : K ≤ 3) : nI K = 0 ↔ K = 0 := by
  rw [← nI_0]
  exact nI_eq (by omega) (by decide)
end KZ
set_option maxHeartbeats 1000000 in
set_option maxRecDepth 100000 in
theorem l_case_0 {p : Program} {l : Launch} (hfl : l.flags = flags0) {e : Env} {s : State} {m : MethodId} {below : List Frame} {meth : Method} {c : Code} {G : xT} {M : xMem} {sz : Nat} {b L : Nat} {xs : Nat → Int32} {rc md out fz : Nat} {am : Nat → Nat} (hC : xC p s m ([.ref b] : List Value).toArray meth c b_L_law y_L_law.cls 7 G (xA M sz)) (hX : va_X b L xs s s.heap) (hbl : b < s.heap.size) (hbA : ¬ xA M sz b) {i : Nat} (hi : i + 6 ≤ L) (hL : L ≤ 3072) {Q : State → Prop}
    (hNext : ∀ (M1 : xMem) (ad : Nat → Nat → Nat) (nu : Nat → Nat → Nat) (sg : Nat → Nat → Int32) (ov : Nat → Int64) (H : Heap) (locs : List Loc) (ls : Array Slot), lawI G M1 fz ad md out am nu sg ov → ad 14 0 = rc → xWd G (xA M sz) s.heap M1 H locs → lv_has ls 7 [(0, .ref b), (1, .ref rc), (2, .ref md), (3, .ref out), (4, .int (nI (i + 6)))] → W p l e { frames := 13, cells := 601024, slots := 7293034, locals := 488 } s m ([.ref b] : List Value).toArray below meth c H locs (60 + 6 * (i + 6)) (7200 + 370 * (i + 6)) Q (F0 m 23 ls []))
    (M1 : xMem) (ad : Nat → Nat → Nat) (nu : Nat → Nat → Nat) (sg : Nat → Nat → Int32) (ov : Nat → Int64) (H : Heap) (locs : List Loc) (ls : Array Slot) (hI : lawI G M1 fz ad md out am nu sg ov) (h14 : ad 14 0 = rc) (hw : xWd G (xA M sz) s.heap M1 H locs) (hl : lv_has ls 7 [(0, .ref b), (1, .ref rc), (2, .ref md), (3, .ref out), (4, .int (nI i))]) : W p l e { frames := 13, cells := 601024, slots := 7293034, locals := 488 } s m ([.ref b] : List Value).toArray below meth c H locs (60 + 6 * i) (7200 + 370 * i) Q (F0 m 124 ls []) := by
  subst h14
  obtain ⟨hR, hM, ok, h_out, hoo, hos, hds⟩ := id hI
  obtain ⟨h20, h12, h4, h8a, hst8, h100, h40, h8, h60, hfm, hen, hok, hpg, hlt, hf0, hw0, ht0, hu9⟩ := id ok
  obtain ⟨hx, hb, hown, hts, hK9, hml, hlk, hz⟩ := id hC
  refine lv_aload_n hx hb d_L_law_124 rfl (lv_at hl 1 rfl) ?_
  refine lv_aload_n hx hb d_L_law_125 rfl (lv_at hl 0 rfl) ?_
  refine lv_iload hx hb d_L_law_126 (lv_at hl 4 rfl) ?_
  refine lv_iconst (v := nI 1) hx hb d_L_law_128 (by decide) ?_
  refine lv_iadd hx hb d_L_law_129 ?_
  refine x_vi (y := nI (i + 1)) (nI_add _ _) ?_
  refine va_sld hx hb hX hbl hbA hw.S (x_inr rfl (show (i + 1) < L by omega) (by omega)) d_L_law_130 ?_
  refine x_vi (y := xs ((i + 1))) (congrArg xs (nI_clamp (by omega))) ?_
  refine lv_aload_n hx hb d_L_law_131 rfl (lv_at hl 0 rfl) ?_
  refine lv_iload hx hb d_L_law_132 (lv_at hl 4 rfl) ?_
  refine lv_iconst (v := nI 2) hx hb d_L_law_134 (by decide) ?_
  refine lv_iadd hx hb d_L_law_135 ?_
  refine x_vi (y := nI (i + 2)) (nI_add _ _) ?_
  refine va_sld hx hb hX hbl hbA hw.S (x_inr rfl (show (i + 2) < L by omega) (by omega)) d_L_law_136 ?_
  refine x_vi (y := xs ((i + 2))) (congrArg xs (nI_clamp (by omega))) ?_
  refine lv_aload_n hx hb d_L_law_137 rfl (lv_at hl 0 rfl) ?_
  refine lv_iload hx hb d_L_law_138 (lv_at hl 4 rfl) ?_
  refine lv_iconst (v := nI 3) hx hb d_L_law_140 (by decide) ?_
  refine lv_iadd hx hb d_L_law_141 ?_
  refine x_vi (y := nI (i + 3)) (nI_add _ _) ?_
  refine va_sld hx hb hX hbl hbA hw.S (x_inr rfl (show (i + 3) < L by omega) (by omega)) d_L_law_142 ?_
  refine x_vi (y := xs ((i + 3))) (congrArg xs (nI_clamp (by omega))) ?_
  refine lv_aload_n hx hb d_L_law_143 rfl (lv_at hl 0 rfl) ?_
  refine lv_iload hx hb d_L_law_144 (lv_at hl 4 rfl) ?_
  refine lv_iconst (v := nI 4) hx hb d_L_law_146 (by decide) ?_
  refine lv_iadd hx hb d_L_law_147 ?_
  refine x_vi (y := nI (i + 4)) (nI_add _ _) ?_
  refine va_sld hx hb hX hbl hbA hw.S (x_inr rfl (show (i + 4) < L by omega) (by omega)) d_L_law_148 ?_
  refine x_vi (y := xs ((i + 4))) (congrArg xs (nI_clamp (by omega))) ?_
  refine lv_aload_n hx hb d_L_law_149 rfl (lv_at hl 0 rfl) ?_
  refine lv_iload hx hb d_L_law_150 (lv_at hl 4 rfl) ?_
  refine lv_iconst (v := nI 5) hx hb d_L_law_152 (by decide) ?_
  refine lv_iadd hx hb d_L_law_153 ?_
  refine x_vi (y := nI (i + 5)) (nI_add _ _) ?_
  refine va_sld hx hb hX hbl hbA hw.S (x_inr rfl (show (i + 5) < L by omega) (by omega)) d_L_law_154 ?_
  refine x_vi (y := xs ((i + 5))) (congrArg xs (nI_clamp (by omega))) ?_
  refine lv_aload_n hx hb d_L_law_155 rfl (lv_at hl 3 rfl) ?_
  refine x_callH hC (c_L_sign l hfl G M1 (Array.size H) fz ad nu sg hR out ov hoo (xs (i + 1)) (xs (i + 2)) (xs (i + 3)) (xs (i + 4)) (xs (i + 5)) h20 h40 hfm h_out) k_288 k_0 ⟨Nat.le_of_ble_eq_true rfl, Nat.le_of_ble_eq_true rfl⟩ ⟨(show 60 + 6 * i + 6 ≤ 601024 by omega), (show 7200 + 370 * i + 36 ≤ 7293034 by omega)⟩ hw hl.1 (Nat.le_of_ble_eq_true rfl) d_L_law_156 (x_ivSH hC k_288 k_286 k_287 k_0 (show _ ∧ _ ∧ _ = some 7 from by decide +kernel) rfl d_L_law_156) (fun rv M1 H locs hq hw => ?_) (fun _ _ _ _ _ h _ _ => h.elim)
  obtain ⟨rfl, ad', nu', sg', ov', q1, q7, q6, h_out', q5, qa, qb⟩ := hq
  have hM1 := hM.cfo q5 hds hos
  refine W.eq (g2 := F0 m 159 ls [.int (nI (signK nu (xs (i + 1)) (xs (i + 2)) (xs (i + 3)) (xs (i + 4)) (xs (i + 5))))]) rfl ?_
  refine lv_istore (lv' := [(5, .int (nI (signK nu (xs (i + 1)) (xs (i + 2)) (xs (i + 3)) (xs (i + 4)) (xs (i + 5))))), (0, .ref b), (1, .ref (ad 14 0)), (2, .ref md), (3, .ref out), (4, .int (nI i))]) hx hb d_L_law_159 hl (by decide) rfl (fun ls hl => ?_)
  refine lv_aload_n hx hb d_L_law_161 rfl (lv_at hl 3 rfl) ?_
  refine lv_aload_n hx hb d_L_law_162 rfl (lv_at hl 1 rfl) ?_
  refine lv_iload hx hb d_L_law_163 (lv_at hl 5 rfl) ?_
  refine lv_iconst (v := nI 1) hx hb d_L_law_165 (by decide) ?_
  refine lv_iadd hx hb d_L_law_166 ?_
  refine x_vi (y := nI (i + 1)) (nI_add _ _) ?_
  refine va_sld hx hb hX hbl hbA hw.S (x_inr rfl (show (i + 1) < L by omega) (by omega)) d_L_law_167 ?_
  refine x_vi (y := xs ((i + 1))) (congrArg xs (nI_clamp (by omega))) ?_
  refine lv_aload_n hx hb d_L_law_168 rfl (lv_at hl 1 rfl) ?_
  refine lv_iload hx hb d_L_law_169 (lv_at hl 5 rfl) ?_
  refine lv_iconst (v := nI 2) hx hb d_L_law_171 (by decide) ?_
  refine lv_iadd hx hb d_L_law_172 ?_
  refine x_vi (y := nI (i + 2)) (nI_add _ _) ?_
  refine va_sld hx hb hX hbl hbA hw.S (x_inr rfl (show (i + 2) < L by omega) (by omega)) d_L_law_173 ?_
  refine x_vi (y := xs ((i + 2))) (congrArg xs (nI_clamp (by omega))) ?_
  refine lv_aload_n hx hb d_L_law_174 rfl (lv_at hl 1 rfl) ?_
  refine lv_iload hx hb d_L_law_175 (lv_at hl 5 rfl) ?_
  refine lv_iconst (v := nI 3) hx hb d_L_law_177 (by decide) ?_
  refine lv_iadd hx hb d_L_law_178 ?_
  refine x_vi (y := nI (i + 3)) (nI_add _ _) ?_
  refine va_sld hx hb hX hbl hbA hw.S (x_inr rfl (show (i + 3) < L by omega) (by omega)) d_L_law_179 ?_
  refine x_vi (y := xs ((i + 3))) (congrArg xs (nI_clamp (by omega))) ?_
  refine lv_aload_n hx hb d_L_law_180 rfl (lv_at hl 1 rfl) ?_
  refine lv_iload hx hb d_L_law_181 (lv_at hl 5 rfl) ?_
  refine lv_iconst (v := nI 4) hx hb d_L_law_183 (by decide) ?_
  refine lv_iadd hx hb d_L_law_184 ?_
  refine x_vi (y := nI (i + 4)) (nI_add _ _) ?_
  refine va_sld hx hb hX hbl hbA hw.S (x_inr rfl (show (i + 4) < L by omega) (by omega)) d_L_law_185 ?_
  refine x_vi (y := xs ((i + 4))) (congrArg xs (nI_clamp (by omega))) ?_
  refine lv_aload_n hx hb d_L_law_186 rfl (lv_at hl 1 rfl) ?_
  refine lv_iload hx hb d_L_law_187 (lv_at hl 5 rfl) ?_
  refine lv_iconst (v := nI 5) hx hb d_L_law_189 (by decide) ?_
  refine lv_iadd hx hb d_L_law_190 ?_
  refine x_vi (y := nI (i + 5)) (nI_add _ _) ?_
  refine va_sld hx hb hX hbl hbA hw.S (x_inr rfl (show (i + 5) < L by omega) (by omega)) d_L_law_191 ?_
  refine x_vi (y := xs ((i + 5))) (congrArg xs (nI_clamp (by omega))) ?_
  refine x_callG hC (c_M_sign l G M1 (Array.size H) md am nu sg hM1 (xs (i + 1)) (xs (i + 2)) (xs (i + 3)) (xs (i + 4)) (xs (i + 5)) h40) k_839 k_13 ⟨Nat.le_of_ble_eq_true rfl, Nat.le_of_ble_eq_true rfl⟩ ⟨(show 60 + 6 * i + 6 ≤ 601024 by omega), (show 7200 + 370 * i + 36 ≤ 7293034 by omega)⟩ hw hl.1 (Nat.le_of_ble_eq_true rfl) d_L_law_192 (x_ivV hC k_839 k_836 k_837 k_838 (show _ ∧ _ ∧ _ = some 5 from by decide +kernel) (x_recv hC hw hM1.1 rfl) rfl d_L_law_192) (fun rv M2 H locs hq hw => ?_) (fun _ _ _ _ _ h _ _ => h.elim)
  obtain ⟨rfl, nu2, sg2, hm, mN, mS, fr, mK, m0, m1⟩ := hq
  refine W.eq (g2 := F0 m 195 ls [.int (nI (kt (signK nu (xs (i + 1)) (xs (i + 2)) (xs (i + 3)) (xs (i + 4)) (xs (i + 5)) = 0) (nu 1 (cN (xs (i + 1))) + 1) 0))]) rfl ?_
  have hfin : lawI G M2 fz ad' md out am nu2 sg2 ov' := by
    by_cases hz9 : signK nu (xs (i + 1)) (xs (i + 2)) (xs (i + 3)) (xs (i + 4)) (xs (i + 5)) = 0
    · have hcf := (qa hz9).2
      have hmf := m0 hz9
      have hzz := signK_z h40 hz9
      have hfm' : ∀ u, u < nu' 7 0 → nu' 9 u < nu' 6 0 := by rw [hcf.1 7 (by decide), hcf.1 9 (by decide), hcf.1 6 (by decide)]; exact hfm
      have htr := tr_laid hcf.2.2 hmf hcf.1 hcf.2.1 mN mS
      exact law_step (x_fz0 hC hw hI.1.2.1.1) hI q1 q6 h_out' q5 hm fr (fun M9 hc9 => hc9.to hfm' htr) htr.rng (ok_laid ok mN mS hmf hzz.1 hzz.2)
    · obtain ⟨rfl, rfl⟩ := qb hz9
      obtain ⟨s1, rfl⟩ := m1 hz9
      exact law_step (x_fz0 hC hw hI.1.2.1.1) hI q1 q6 h_out' q5 hm fr (fun M9 hc9 => hc9.to hfm (trP_0 s1)) (rng_eqx s1 (by decide)) (okS_0 ok s1)
  refine lv_istore (lv' := [(6, .int (nI (kt (signK nu (xs (i + 1)) (xs (i + 2)) (xs (i + 3)) (xs (i + 4)) (xs (i + 5)) = 0) (nu 1 (cN (xs (i + 1))) + 1) 0))), (5, .int (nI (signK nu (xs (i + 1)) (xs (i + 2)) (xs (i + 3)) (xs (i + 4)) (xs (i + 5))))), (0, .ref b), (1, .ref (ad 14 0)), (2, .ref md), (3, .ref out), (4, .int (nI i))]) hx hb d_L_law_195 hl (by decide) rfl (fun ls hl => ?_)
  refine lv_aload_n hx hb d_L_law_197 rfl (lv_at hl 4 rfl) ?_
  refine x_callG hC (c_M_thrown l G M2 (Array.size H) md am nu2 sg2 hm) k_835 k_13 ⟨Nat.le_of_ble_eq_true rfl, Nat.le_of_ble_eq_true rfl⟩ ⟨(show 60 + 6 * i + 6 ≤ 601024 by omega), (show 7200 + 370 * i + 36 ≤ 7293034 by omega)⟩ hw hl.1 (Nat.le_of_ble_eq_true rfl) d_L_law_198 (x_ivV hC k_835 k_832 k_833 k_834 (show _ ∧ _ ∧ _ = some 0 from by decide +kernel) (x_recv hC hw hm.1 rfl) rfl d_L_law_198) (fun rv M3 H locs hq hw => ?_) (fun _ _ _ _ _ h _ _ => h.elim)
  obtain ⟨rfl, hMe⟩ := hq
  subst M3
  refine W.eq (g2 := F0 m 201 ls [.int (nI (nu2 0 0))]) rfl ?_
  refine x_vi (y := nI (signK nu (xs (i + 1)) (xs (i + 2)) (xs (i + 3)) (xs (i + 4)) (xs (i + 5)))) (congrArg nI mK) ?_
  refine lv_iload hx hb d_L_law_201 (lv_at hl 1 rfl) ?_
  refine lv_icmp_eq (tgt := 208) hx hb d_L_law_203 (by decide) (fun _ => ?_) (fun z => absurd rfl z)
  refine lv_iload hx hb d_L_law_208 (lv_at hl 1 rfl) ?_
  have hKle : signK nu (xs (i + 1)) (xs (i + 2)) (xs (i + 3)) (xs (i + 4)) (xs (i + 5)) ≤ 3 := kt_le3 (by decide) (kt_le3 (by decide) (kt_le3 (by decide) (by decide)))
  refine lv_if_ne (tgt := 225) hx hb d_L_law_210 (by decide) (fun hz8 => ?_) (fun hz8 => ?_)
  · refine lv_goto (tgt := 1244) hx hb d_L_law_225 (by decide) ?_
    refine lv_iinc (v := nI (i + 6)) (lv' := [(4, .int (nI (i + 6))), (6, .int (nI (kt (signK nu (xs (i + 1)) (xs (i + 2)) (xs (i + 3)) (xs (i + 4)) (xs (i + 5)) = 0) (nu 1 (cN (xs (i + 1))) + 1) 0))), (5, .int (nI (signK nu (xs (i + 1)) (xs (i + 2)) (xs (i + 3)) (xs (i + 4)) (xs (i + 5))))), (0, .ref b), (1, .ref (ad 14 0)), (2, .ref md), (3, .ref out)]) hx hb d_L_law_1244 hl (k := 6) rfl (by exact nI_add _ 6) (by decide) rfl (fun ls hl => ?_)
    refine lv_goto (tgt := 23) hx hb d_L_law_1247 (by decide) ?_
    exact W.widen (show 60 + 6 * i + 6 ≤ 60 + 6 * (i + 6) by omega) (show 7200 + 370 * i + 36 ≤ 7200 + 370 * (i + 6) by omega) (hNext _ _ _ _ _ _ _ _ hfin q7 hw (lv_sub hl [3, 4, 5, 6, 0] rfl))
  · have hz9 : signK nu (xs (i + 1)) (xs (i + 2)) (xs (i + 3)) (xs (i + 4)) (xs (i + 5)) = 0 := (K0 hKle).mp hz8
    have ho3 := hfin.2.2.2.1
    refine lv_aload_n hx hb d_L_law_213 rfl (lv_at hl 5 rfl) ?_
    refine lv_iconst (v := nI 0) hx hb d_L_law_214 (by decide) ?_
    refine x_lald (j := 0) hC hw ho3 rfl (rfl) (by omega) (by omega) d_L_law_215 ?_
    refine lv_iload hx hb d_L_law_216 (lv_at hl 0 rfl) ?_
    refine lv_i2l (v := Int32.toInt64 (nI (kt (signK nu (xs (i + 1)) (xs (i + 2)) (xs (i + 3)) (xs (i + 4)) (xs (i + 5)) = 0) (nu 1 (cN (xs (i + 1))) + 1) 0))) hx hb d_L_law_218 rfl ?_
    refine W.lcmp hx hb d_L_law_219 ?_
    refine lv_if_eq (tgt := 225) hx hb d_L_law_220 (by decide) (fun _ => ?_) (fun z => absurd (x_lcmp.mpr (by rw [(qa hz9).1, kt_t hz9])) z)
    refine lv_goto (tgt := 1244) hx hb d_L_law_225 (by decide) ?_
    refine lv_iinc (v := nI (i + 6)) (lv' := [(4, .int (nI (i + 6))), (6, .int (nI (kt (signK nu (xs (i + 1)) (xs (i + 2)) (xs (i + 3)) (xs (i + 4)) (xs (i + 5)) = 0) (nu 1 (cN (xs (i + 1))) + 1) 0))), (5, .int (nI (signK nu (xs (i + 1)) (xs (i + 2)) (xs (i + 3)) (xs (i + 4)) (xs (i + 5))))), (0, .ref b), (1, .ref (ad 14 0)), (2, .ref md), (3, .ref out)]) hx hb d_L_law_1244 hl (k := 6) rfl (by exact nI_add _ 6) (by decide) rfl (fun ls hl => ?_)
    refine lv_goto (tgt := 23) hx hb d_L_law_1247 (by decide) ?_
    exact W.widen (show 60 + 6 * i + 6 ≤ 60 + 6 * (i + 6) by omega) (show 7200 + 370 * i + 36 ≤ 7200 + 370 * (i + 6) by omega) (hNext _ _ _ _ _ _ _ _ hfin q7 hw (lv_sub hl [3, 4, 5, 6, 0] rfl))
set_option maxHeartbeats 1000000 in
set_option maxRecDepth 100000 in
theorem l_case_1 {p : Program} {l : Launch} (hfl : l.flags = flags0) {e : Env} {s : State} {m : MethodId} {below : List Frame} {meth : Method} {c : Code} {G : xT} {M : xMem} {sz : Nat} {b L : Nat} {xs : Nat → Int32} {rc md out fz : Nat} {am : Nat → Nat} (hC : xC p s m ([.ref b] : List Value).toArray meth c b_L_law y_L_law.cls 7 G (xA M sz)) (hX : va_X b L xs s s.heap) (hbl : b < s.heap.size) (hbA : ¬ xA M sz b) {i : Nat} (hi : i + 6 ≤ L) (hL : L ≤ 3072) {Q : State → Prop}
    (hNext : ∀ (M1 : xMem) (ad : Nat → Nat → Nat) (nu : Nat → Nat → Nat) (sg : Nat → Nat → Int32) (ov : Nat → Int64) (H : Heap) (locs : List Loc) (ls : Array Slot), lawI G M1 fz ad md out am nu sg ov → ad 14 0 = rc → xWd G (xA M sz) s.heap M1 H locs → lv_has ls 7 [(0, .ref b), (1, .ref rc), (2, .ref md), (3, .ref out), (4, .int (nI (i + 6)))] → W p l e { frames := 13, cells := 601024, slots := 7293034, locals := 488 } s m ([.ref b] : List Value).toArray below meth c H locs (60 + 6 * (i + 6)) (7200 + 370 * (i + 6)) Q (F0 m 23 ls []))
    (M1 : xMem) (ad : Nat → Nat → Nat) (nu : Nat → Nat → Nat) (sg : Nat → Nat → Int32) (ov : Nat → Int64) (H : Heap) (locs : List Loc) (ls : Array Slot) (hI : lawI G M1 fz ad md out am nu sg ov) (h14 : ad 14 0 = rc) (hw : xWd G (xA M sz) s.heap M1 H locs) (hl : lv_has ls 7 [(0, .ref b), (1, .ref rc), (2, .ref md), (3, .ref out), (4, .int (nI i))]) : W p l e { frames := 13, cells := 601024, slots := 7293034, locals := 488 } s m ([.ref b] : List Value).toArray below meth c H locs (60 + 6 * i) (7200 + 370 * i) Q (F0 m 228 ls []) := by
  subst h14
  obtain ⟨hR, hM, ok, h_out, hoo, hos, hds⟩ := id hI
  obtain ⟨h20, h12, h4, h8a, hst8, h100, h40, h8, h60, hfm, hen, hok, hpg, hlt, hf0, hw0, ht0, hu9⟩ := id ok
  obtain ⟨hx, hb, hown, hts, hK9, hml, hlk, hz⟩ := id hC
  refine lv_aload_n hx hb d_L_law_228 rfl (lv_at hl 1 rfl) ?_
  refine lv_aload_n hx hb d_L_law_229 rfl (lv_at hl 3 rfl) ?_
  refine x_callH hC (c_L_form l hfl G M1 (Array.size H) fz ad nu sg hR out ov hoo h20 hf0 hfm h_out) k_418 k_0 ⟨Nat.le_of_ble_eq_true rfl, Nat.le_of_ble_eq_true rfl⟩ ⟨(show 60 + 6 * i + 4 ≤ 601024 by omega), (show 7200 + 370 * i + 191 ≤ 7293034 by omega)⟩ hw hl.1 (Nat.le_of_ble_eq_true rfl) d_L_law_230 (x_ivSH hC k_418 k_416 k_417 k_0 (show _ ∧ _ ∧ _ = some 2 from by decide +kernel) rfl d_L_law_230) (fun rv M1 H locs hq hw => ?_) (fun _ _ _ _ _ h _ _ => h.elim)
  obtain ⟨rfl, ad', nu', sg', ov', q1, q7, q6, h_out', q5, qa, qb⟩ := hq
  have hM1 := hM.cfo q5 hds hos
  refine W.eq (g2 := F0 m 233 ls [.int (nI (formK nu))]) rfl ?_
  refine lv_istore (lv' := [(5, .int (nI (formK nu))), (0, .ref b), (1, .ref (ad 14 0)), (2, .ref md), (3, .ref out), (4, .int (nI i))]) hx hb d_L_law_233 hl (by decide) rfl (fun ls hl => ?_)
  refine lv_aload_n hx hb d_L_law_235 rfl (lv_at hl 3 rfl) ?_
  refine x_callG hC (c_M_form l G M1 (Array.size H) md am nu sg hM1 h20) k_854 k_13 ⟨Nat.le_of_ble_eq_true rfl, Nat.le_of_ble_eq_true rfl⟩ ⟨(show 60 + 6 * i + 4 ≤ 601024 by omega), (show 7200 + 370 * i + 191 ≤ 7293034 by omega)⟩ hw hl.1 (Nat.le_of_ble_eq_true rfl) d_L_law_236 (x_ivV hC k_854 k_851 k_852 k_853 (show _ ∧ _ ∧ _ = some 0 from by decide +kernel) (x_recv hC hw hM1.1 rfl) rfl d_L_law_236) (fun rv M2 H locs hq hw => ?_) (fun _ _ _ _ _ h _ _ => h.elim)
  obtain ⟨rfl, nu2, sg2, hm, mN, mS, fr, mK, m0, m1⟩ := hq
  refine W.eq (g2 := F0 m 239 ls [.int (nI (kt (formK nu = 0) (nu 6 0) 0))]) rfl ?_
  have hfin : lawI G M2 fz ad' md out am nu2 sg2 ov' := by
    by_cases hz9 : formK nu = 0
    · have hcf := (qa hz9).2
      have hmf := m0 hz9
      have hfm' : ∀ u, u < nu' 7 0 → nu' 9 u < nu' 6 0 := by rw [hcf.1 7 (by decide), hcf.1 9 (by decide), hcf.2.2]; exact fun u hu => Nat.lt_succ_of_lt (hfm u hu)
      have htr := tr_form hcf.2.2 hmf hcf.1 hcf.2.1 mN mS
      exact law_step (x_fz0 hC hw hI.1.2.1.1) hI q1 q6 h_out' q5 hm fr (fun M9 hc9 => hc9.to hfm' htr) htr.rng (ok_form ok mN mS hmf (formK_z h20 hz9))
    · obtain ⟨rfl, rfl⟩ := qb hz9
      obtain ⟨s1, rfl⟩ := m1 hz9
      exact law_step (x_fz0 hC hw hI.1.2.1.1) hI q1 q6 h_out' q5 hm fr (fun M9 hc9 => hc9.to hfm (trP_0 s1)) (rng_eqx s1 (by decide)) (okS_0 ok s1)
  refine lv_istore (lv' := [(6, .int (nI (kt (formK nu = 0) (nu 6 0) 0))), (5, .int (nI (formK nu))), (0, .ref b), (1, .ref (ad 14 0)), (2, .ref md), (3, .ref out), (4, .int (nI i))]) hx hb d_L_law_239 hl (by decide) rfl (fun ls hl => ?_)
  refine lv_aload_n hx hb d_L_law_241 rfl (lv_at hl 4 rfl) ?_
  refine x_callG hC (c_M_thrown l G M2 (Array.size H) md am nu2 sg2 hm) k_835 k_13 ⟨Nat.le_of_ble_eq_true rfl, Nat.le_of_ble_eq_true rfl⟩ ⟨(show 60 + 6 * i + 4 ≤ 601024 by omega), (show 7200 + 370 * i + 191 ≤ 7293034 by omega)⟩ hw hl.1 (Nat.le_of_ble_eq_true rfl) d_L_law_242 (x_ivV hC k_835 k_832 k_833 k_834 (show _ ∧ _ ∧ _ = some 0 from by decide +kernel) (x_recv hC hw hm.1 rfl) rfl d_L_law_242) (fun rv M3 H locs hq hw => ?_) (fun _ _ _ _ _ h _ _ => h.elim)
  obtain ⟨rfl, hMe⟩ := hq
  subst M3
  refine W.eq (g2 := F0 m 245 ls [.int (nI (nu2 0 0))]) rfl ?_
  refine x_vi (y := nI (formK nu)) (congrArg nI mK) ?_
  refine lv_iload hx hb d_L_law_245 (lv_at hl 1 rfl) ?_
  refine lv_icmp_eq (tgt := 252) hx hb d_L_law_247 (by decide) (fun _ => ?_) (fun z => absurd rfl z)
  refine lv_iload hx hb d_L_law_252 (lv_at hl 1 rfl) ?_
  have hKle : formK nu ≤ 3 := kt_le3 (by decide) (by decide)
  refine lv_if_ne (tgt := 269) hx hb d_L_law_254 (by decide) (fun hz8 => ?_) (fun hz8 => ?_)
  · refine lv_goto (tgt := 1244) hx hb d_L_law_269 (by decide) ?_
    refine lv_iinc (v := nI (i + 6)) (lv' := [(4, .int (nI (i + 6))), (6, .int (nI (kt (formK nu = 0) (nu 6 0) 0))), (5, .int (nI (formK nu))), (0, .ref b), (1, .ref (ad 14 0)), (2, .ref md), (3, .ref out)]) hx hb d_L_law_1244 hl (k := 6) rfl (by exact nI_add _ 6) (by decide) rfl (fun ls hl => ?_)
    refine lv_goto (tgt := 23) hx hb d_L_law_1247 (by decide) ?_
    exact W.widen (show 60 + 6 * i + 4 ≤ 60 + 6 * (i + 6) by omega) (show 7200 + 370 * i + 191 ≤ 7200 + 370 * (i + 6) by omega) (hNext _ _ _ _ _ _ _ _ hfin q7 hw (lv_sub hl [3, 4, 5, 6, 0] rfl))
  · have hz9 : formK nu = 0 := (K0 hKle).mp hz8
    have ho3 := hfin.2.2.2.1
    refine lv_aload_n hx hb d_L_law_257 rfl (lv_at hl 5 rfl) ?_
    refine lv_iconst (v := nI 0) hx hb d_L_law_258 (by decide) ?_
    refine x_lald (j := 0) hC hw ho3 rfl (rfl) (by omega) (by omega) d_L_law_259 ?_
    refine lv_iload hx hb d_L_law_260 (lv_at hl 0 rfl) ?_
    refine lv_i2l (v := Int32.toInt64 (nI (kt (formK nu = 0) (nu 6 0) 0))) hx hb d_L_law_262 rfl ?_
    refine W.lcmp hx hb d_L_law_263 ?_
    refine lv_if_eq (tgt := 269) hx hb d_L_law_264 (by decide) (fun _ => ?_) (fun z => absurd (x_lcmp.mpr (by rw [(qa hz9).1, kt_t hz9])) z)
    refine lv_goto (tgt := 1244) hx hb d_L_law_269 (by decide) ?_
    refine lv_iinc (v := nI (i + 6)) (lv' := [(4, .int (nI (i + 6))), (6, .int (nI (kt (formK nu = 0) (nu 6 0) 0))), (5, .int (nI (formK nu))), (0, .ref b), (1, .ref (ad 14 0)), (2, .ref md), (3, .ref out)]) hx hb d_L_law_1244 hl (k := 6) rfl (by exact nI_add _ 6) (by decide) rfl (fun ls hl => ?_)
    refine lv_goto (tgt := 23) hx hb d_L_law_1247 (by decide) ?_
    exact W.widen (show 60 + 6 * i + 4 ≤ 60 + 6 * (i + 6) by omega) (show 7200 + 370 * i + 191 ≤ 7200 + 370 * (i + 6) by omega) (hNext _ _ _ _ _ _ _ _ hfin q7 hw (lv_sub hl [3, 4, 5, 6, 0] rfl))
set_option maxHeartbeats 1000000 in
set_option maxRecDepth 100000 in
theorem l_case_2 {p : Program} {l : Launch} (hfl : l.flags = flags0) {e : Env} {s : State} {m : MethodId} {below : List Frame} {meth : Method} {c : Code} {G : xT} {M : xMem} {sz : Nat} {b L : Nat} {xs : Nat → Int32} {rc md out fz : Nat} {am : Nat → Nat} (hC : xC p s m ([.ref b] : List Value).toArray meth c b_L_law y_L_law.cls 7 G (xA M sz)) (hX : va_X b L xs s s.heap) (hbl : b < s.heap.size) (hbA : ¬ xA M sz b) {i : Nat} (hi : i + 6 ≤ L) (hL : L ≤ 3072) {Q : State → Prop}
    (hNext : ∀ (M1 : xMem) (ad : Nat → Nat → Nat) (nu : Nat → Nat → Nat) (sg : Nat → Nat → Int32) (ov : Nat → Int64) (H : Heap) (locs : List Loc) (ls : Array Slot), lawI G M1 fz ad md out am nu sg ov → ad 14 0 = rc → xWd G (xA M sz) s.heap M1 H locs → lv_has ls 7 [(0, .ref b), (1, .ref rc), (2, .ref md), (3, .ref out), (4, .int (nI (i + 6)))] → W p l e { frames := 13, cells := 601024, slots := 7293034, locals := 488 } s m ([.ref b] : List Value).toArray below meth c H locs (60 + 6 * (i + 6)) (7200 + 370 * (i + 6)) Q (F0 m 23 ls []))
    (M1 : xMem) (ad : Nat → Nat → Nat) (nu : Nat → Nat → Nat) (sg : Nat → Nat → Int32) (ov : Nat → Int64) (H : Heap) (locs : List Loc) (ls : Array Slot) (hI : lawI G M1 fz ad md out am nu sg ov) (h14 : ad 14 0 = rc) (hw : xWd G (xA M sz) s.heap M1 H locs) (hl : lv_has ls 7 [(0, .ref b), (1, .ref rc), (2, .ref md), (3, .ref out), (4, .int (nI i))]) : W p l e { frames := 13, cells := 601024, slots := 7293034, locals := 488 } s m ([.ref b] : List Value).toArray below meth c H locs (60 + 6 * i) (7200 + 370 * i) Q (F0 m 272 ls []) := by
  subst h14
  obtain ⟨hR, hM, ok, h_out, hoo, hos, hds⟩ := id hI
  obtain ⟨h20, h12, h4, h8a, hst8, h100, h40, h8, h60, hfm, hen, hok, hpg, hlt, hf0, hw0, ht0, hu9⟩ := id ok
  obtain ⟨hx, hb, hown, hts, hK9, hml, hlk, hz⟩ := id hC
  refine lv_aload_n hx hb d_L_law_272 rfl (lv_at hl 1 rfl) ?_
  refine lv_aload_n hx hb d_L_law_273 rfl (lv_at hl 0 rfl) ?_
  refine lv_iload hx hb d_L_law_274 (lv_at hl 4 rfl) ?_
  refine lv_iconst (v := nI 1) hx hb d_L_law_276 (by decide) ?_
  refine lv_iadd hx hb d_L_law_277 ?_
  refine x_vi (y := nI (i + 1)) (nI_add _ _) ?_
  refine va_sld hx hb hX hbl hbA hw.S (x_inr rfl (show (i + 1) < L by omega) (by omega)) d_L_law_278 ?_
  refine x_vi (y := xs ((i + 1))) (congrArg xs (nI_clamp (by omega))) ?_
  refine lv_aload_n hx hb d_L_law_279 rfl (lv_at hl 0 rfl) ?_
  refine lv_iload hx hb d_L_law_280 (lv_at hl 4 rfl) ?_
  refine lv_iconst (v := nI 2) hx hb d_L_law_282 (by decide) ?_
  refine lv_iadd hx hb d_L_law_283 ?_
  refine x_vi (y := nI (i + 2)) (nI_add _ _) ?_
  refine va_sld hx hb hX hbl hbA hw.S (x_inr rfl (show (i + 2) < L by omega) (by omega)) d_L_law_284 ?_
  refine x_vi (y := xs ((i + 2))) (congrArg xs (nI_clamp (by omega))) ?_
  refine lv_aload_n hx hb d_L_law_285 rfl (lv_at hl 0 rfl) ?_
  refine lv_iload hx hb d_L_law_286 (lv_at hl 4 rfl) ?_
  refine lv_iconst (v := nI 3) hx hb d_L_law_288 (by decide) ?_
  refine lv_iadd hx hb d_L_law_289 ?_
  refine x_vi (y := nI (i + 3)) (nI_add _ _) ?_
  refine va_sld hx hb hX hbl hbA hw.S (x_inr rfl (show (i + 3) < L by omega) (by omega)) d_L_law_290 ?_
  refine x_vi (y := xs ((i + 3))) (congrArg xs (nI_clamp (by omega))) ?_
  refine lv_aload_n hx hb d_L_law_291 rfl (lv_at hl 0 rfl) ?_
  refine lv_iload hx hb d_L_law_292 (lv_at hl 4 rfl) ?_
  refine lv_iconst (v := nI 4) hx hb d_L_law_294 (by decide) ?_
  refine lv_iadd hx hb d_L_law_295 ?_
  refine x_vi (y := nI (i + 4)) (nI_add _ _) ?_
  refine va_sld hx hb hX hbl hbA hw.S (x_inr rfl (show (i + 4) < L by omega) (by omega)) d_L_law_296 ?_
  refine x_vi (y := xs ((i + 4))) (congrArg xs (nI_clamp (by omega))) ?_
  refine lv_aload_n hx hb d_L_law_297 rfl (lv_at hl 0 rfl) ?_
  refine lv_iload hx hb d_L_law_298 (lv_at hl 4 rfl) ?_
  refine lv_iconst (v := nI 5) hx hb d_L_law_300 (by decide) ?_
  refine lv_iadd hx hb d_L_law_301 ?_
  refine x_vi (y := nI (i + 5)) (nI_add _ _) ?_
  refine va_sld hx hb hX hbl hbA hw.S (x_inr rfl (show (i + 5) < L by omega) (by omega)) d_L_law_302 ?_
  refine x_vi (y := xs ((i + 5))) (congrArg xs (nI_clamp (by omega))) ?_
  refine lv_aload_n hx hb d_L_law_303 rfl (lv_at hl 3 rfl) ?_
  refine x_callH hC (c_L_formSign l hfl G M1 (Array.size H) fz ad nu sg hR out ov hoo (xs (i + 1)) (xs (i + 2)) (xs (i + 3)) (xs (i + 4)) (xs (i + 5)) h20 h40 hfm h_out) k_425 k_0 ⟨Nat.le_of_ble_eq_true rfl, Nat.le_of_ble_eq_true rfl⟩ ⟨(show 60 + 6 * i + 6 ≤ 601024 by omega), (show 7200 + 370 * i + 36 ≤ 7293034 by omega)⟩ hw hl.1 (Nat.le_of_ble_eq_true rfl) d_L_law_304 (x_ivSH hC k_425 k_423 k_424 k_0 (show _ ∧ _ ∧ _ = some 7 from by decide +kernel) rfl d_L_law_304) (fun rv M1 H locs hq hw => ?_) (fun _ _ _ _ _ h _ _ => h.elim)
  obtain ⟨rfl, ad', nu', sg', ov', q1, q7, q6, h_out', q5, qa, qb⟩ := hq
  have hM1 := hM.cfo q5 hds hos
  refine W.eq (g2 := F0 m 307 ls [.int (nI (formSignK nu (xs (i + 1)) (xs (i + 2)) (xs (i + 3)) (xs (i + 4)) (xs (i + 5))))]) rfl ?_
  refine lv_istore (lv' := [(5, .int (nI (formSignK nu (xs (i + 1)) (xs (i + 2)) (xs (i + 3)) (xs (i + 4)) (xs (i + 5))))), (0, .ref b), (1, .ref (ad 14 0)), (2, .ref md), (3, .ref out), (4, .int (nI i))]) hx hb d_L_law_307 hl (by decide) rfl (fun ls hl => ?_)
  refine lv_aload_n hx hb d_L_law_309 rfl (lv_at hl 3 rfl) ?_
  refine lv_aload_n hx hb d_L_law_310 rfl (lv_at hl 1 rfl) ?_
  refine lv_iload hx hb d_L_law_311 (lv_at hl 5 rfl) ?_
  refine lv_iconst (v := nI 1) hx hb d_L_law_313 (by decide) ?_
  refine lv_iadd hx hb d_L_law_314 ?_
  refine x_vi (y := nI (i + 1)) (nI_add _ _) ?_
  refine va_sld hx hb hX hbl hbA hw.S (x_inr rfl (show (i + 1) < L by omega) (by omega)) d_L_law_315 ?_
  refine x_vi (y := xs ((i + 1))) (congrArg xs (nI_clamp (by omega))) ?_
  refine lv_aload_n hx hb d_L_law_316 rfl (lv_at hl 1 rfl) ?_
  refine lv_iload hx hb d_L_law_317 (lv_at hl 5 rfl) ?_
  refine lv_iconst (v := nI 2) hx hb d_L_law_319 (by decide) ?_
  refine lv_iadd hx hb d_L_law_320 ?_
  refine x_vi (y := nI (i + 2)) (nI_add _ _) ?_
  refine va_sld hx hb hX hbl hbA hw.S (x_inr rfl (show (i + 2) < L by omega) (by omega)) d_L_law_321 ?_
  refine x_vi (y := xs ((i + 2))) (congrArg xs (nI_clamp (by omega))) ?_
  refine lv_aload_n hx hb d_L_law_322 rfl (lv_at hl 1 rfl) ?_
  refine lv_iload hx hb d_L_law_323 (lv_at hl 5 rfl) ?_
  refine lv_iconst (v := nI 3) hx hb d_L_law_325 (by decide) ?_
  refine lv_iadd hx hb d_L_law_326 ?_
  refine x_vi (y := nI (i + 3)) (nI_add _ _) ?_
  refine va_sld hx hb hX hbl hbA hw.S (x_inr rfl (show (i + 3) < L by omega) (by omega)) d_L_law_327 ?_
  refine x_vi (y := xs ((i + 3))) (congrArg xs (nI_clamp (by omega))) ?_
  refine lv_aload_n hx hb d_L_law_328 rfl (lv_at hl 1 rfl) ?_
  refine lv_iload hx hb d_L_law_329 (lv_at hl 5 rfl) ?_
  refine lv_iconst (v := nI 4) hx hb d_L_law_331 (by decide) ?_
  refine lv_iadd hx hb d_L_law_332 ?_
  refine x_vi (y := nI (i + 4)) (nI_add _ _) ?_
  refine va_sld hx hb hX hbl hbA hw.S (x_inr rfl (show (i + 4) < L by omega) (by omega)) d_L_law_333 ?_
  refine x_vi (y := xs ((i + 4))) (congrArg xs (nI_clamp (by omega))) ?_
  refine lv_aload_n hx hb d_L_law_334 rfl (lv_at hl 1 rfl) ?_
  refine lv_iload hx hb d_L_law_335 (lv_at hl 5 rfl) ?_
  refine lv_iconst (v := nI 5) hx hb d_L_law_337 (by decide) ?_
  refine lv_iadd hx hb d_L_law_338 ?_
  refine x_vi (y := nI (i + 5)) (nI_add _ _) ?_
  refine va_sld hx hb hX hbl hbA hw.S (x_inr rfl (show (i + 5) < L by omega) (by omega)) d_L_law_339 ?_
  refine x_vi (y := xs ((i + 5))) (congrArg xs (nI_clamp (by omega))) ?_
  refine x_callG hC (c_M_formSign l G M1 (Array.size H) md am nu sg hM1 (xs (i + 1)) (xs (i + 2)) (xs (i + 3)) (xs (i + 4)) (xs (i + 5)) h40 h20) k_858 k_13 ⟨Nat.le_of_ble_eq_true rfl, Nat.le_of_ble_eq_true rfl⟩ ⟨(show 60 + 6 * i + 6 ≤ 601024 by omega), (show 7200 + 370 * i + 36 ≤ 7293034 by omega)⟩ hw hl.1 (Nat.le_of_ble_eq_true rfl) d_L_law_340 (x_ivV hC k_858 k_855 k_856 k_857 (show _ ∧ _ ∧ _ = some 5 from by decide +kernel) (x_recv hC hw hM1.1 rfl) rfl d_L_law_340) (fun rv M2 H locs hq hw => ?_) (fun _ _ _ _ _ h _ _ => h.elim)
  obtain ⟨rfl, nu2, sg2, hm, mN, mS, fr, mK, m0, m1⟩ := hq
  refine W.eq (g2 := F0 m 343 ls [.int (nI (kt (formSignK nu (xs (i + 1)) (xs (i + 2)) (xs (i + 3)) (xs (i + 4)) (xs (i + 5)) = 0) (nu 1 (4 + cN (xs (i + 1))) + 1) 0))]) rfl ?_
  have hfin : lawI G M2 fz ad' md out am nu2 sg2 ov' := by
    by_cases hz9 : formSignK nu (xs (i + 1)) (xs (i + 2)) (xs (i + 3)) (xs (i + 4)) (xs (i + 5)) = 0
    · have hcf := (qa hz9).2
      have hmf := m0 hz9
      have hzz := formSignK_z h40 hz9
      have hfm' : ∀ u, u < nu' 7 0 → nu' 9 u < nu' 6 0 := by rw [hcf.1 7 (by decide), hcf.1 9 (by decide), hcf.1 6 (by decide)]; exact hfm
      have htr := tr_laid hcf.2.2 hmf hcf.1 hcf.2.1 mN mS
      exact law_step (x_fz0 hC hw hI.1.2.1.1) hI q1 q6 h_out' q5 hm fr (fun M9 hc9 => hc9.to hfm' htr) htr.rng (ok_laid ok mN mS hmf hzz.1 hzz.2)
    · obtain ⟨rfl, rfl⟩ := qb hz9
      obtain ⟨s1, rfl⟩ := m1 hz9
      exact law_step (x_fz0 hC hw hI.1.2.1.1) hI q1 q6 h_out' q5 hm fr (fun M9 hc9 => hc9.to hfm (trP_0 s1)) (rng_eqx s1 (by decide)) (okS_0 ok s1)
  refine lv_istore (lv' := [(6, .int (nI (kt (formSignK nu (xs (i + 1)) (xs (i + 2)) (xs (i + 3)) (xs (i + 4)) (xs (i + 5)) = 0) (nu 1 (4 + cN (xs (i + 1))) + 1) 0))), (5, .int (nI (formSignK nu (xs (i + 1)) (xs (i + 2)) (xs (i + 3)) (xs (i + 4)) (xs (i + 5))))), (0, .ref b), (1, .ref (ad 14 0)), (2, .ref md), (3, .ref out), (4, .int (nI i))]) hx hb d_L_law_343 hl (by decide) rfl (fun ls hl => ?_)
  refine lv_aload_n hx hb d_L_law_345 rfl (lv_at hl 4 rfl) ?_
  refine x_callG hC (c_M_thrown l G M2 (Array.size H) md am nu2 sg2 hm) k_835 k_13 ⟨Nat.le_of_ble_eq_true rfl, Nat.le_of_ble_eq_true rfl⟩ ⟨(show 60 + 6 * i + 6 ≤ 601024 by omega), (show 7200 + 370 * i + 36 ≤ 7293034 by omega)⟩ hw hl.1 (Nat.le_of_ble_eq_true rfl) d_L_law_346 (x_ivV hC k_835 k_832 k_833 k_834 (show _ ∧ _ ∧ _ = some 0 from by decide +kernel) (x_recv hC hw hm.1 rfl) rfl d_L_law_346) (fun rv M3 H locs hq hw => ?_) (fun _ _ _ _ _ h _ _ => h.elim)
  obtain ⟨rfl, hMe⟩ := hq
  subst M3
  refine W.eq (g2 := F0 m 349 ls [.int (nI (nu2 0 0))]) rfl ?_
  refine x_vi (y := nI (formSignK nu (xs (i + 1)) (xs (i + 2)) (xs (i + 3)) (xs (i + 4)) (xs (i + 5)))) (congrArg nI mK) ?_
  refine lv_iload hx hb d_L_law_349 (lv_at hl 1 rfl) ?_
  refine lv_icmp_eq (tgt := 356) hx hb d_L_law_351 (by decide) (fun _ => ?_) (fun z => absurd rfl z)
  refine lv_iload hx hb d_L_law_356 (lv_at hl 1 rfl) ?_
  have hKle : formSignK nu (xs (i + 1)) (xs (i + 2)) (xs (i + 3)) (xs (i + 4)) (xs (i + 5)) ≤ 3 := kt_le3 (by decide) (kt_le3 (by decide) (kt_le3 (by decide) (by decide)))
  refine lv_if_ne (tgt := 373) hx hb d_L_law_358 (by decide) (fun hz8 => ?_) (fun hz8 => ?_)
  · refine lv_goto (tgt := 1244) hx hb d_L_law_373 (by decide) ?_
    refine lv_iinc (v := nI (i + 6)) (lv' := [(4, .int (nI (i + 6))), (6, .int (nI (kt (formSignK nu (xs (i + 1)) (xs (i + 2)) (xs (i + 3)) (xs (i + 4)) (xs (i + 5)) = 0) (nu 1 (4 + cN (xs (i + 1))) + 1) 0))), (5, .int (nI (formSignK nu (xs (i + 1)) (xs (i + 2)) (xs (i + 3)) (xs (i + 4)) (xs (i + 5))))), (0, .ref b), (1, .ref (ad 14 0)), (2, .ref md), (3, .ref out)]) hx hb d_L_law_1244 hl (k := 6) rfl (by exact nI_add _ 6) (by decide) rfl (fun ls hl => ?_)
    refine lv_goto (tgt := 23) hx hb d_L_law_1247 (by decide) ?_
    exact W.widen (show 60 + 6 * i + 6 ≤ 60 + 6 * (i + 6) by omega) (show 7200 + 370 * i + 36 ≤ 7200 + 370 * (i + 6) by omega) (hNext _ _ _ _ _ _ _ _ hfin q7 hw (lv_sub hl [3, 4, 5, 6, 0] rfl))
  · have hz9 : formSignK nu (xs (i + 1)) (xs (i + 2)) (xs (i + 3)) (xs (i + 4)) (xs (i + 5)) = 0 := (K0 hKle).mp hz8
    have ho3 := hfin.2.2.2.1
    refine lv_aload_n hx hb d_L_law_361 rfl (lv_at hl 5 rfl) ?_
    refine lv_iconst (v := nI 0) hx hb d_L_law_362 (by decide) ?_
    refine x_lald (j := 0) hC hw ho3 rfl (rfl) (by omega) (by omega) d_L_law_363 ?_
    refine lv_iload hx hb d_L_law_364 (lv_at hl 0 rfl) ?_
    refine lv_i2l (v := Int32.toInt64 (nI (kt (formSignK nu (xs (i + 1)) (xs (i + 2)) (xs (i + 3)) (xs (i + 4)) (xs (i + 5)) = 0) (nu 1 (4 + cN (xs (i + 1))) + 1) 0))) hx hb d_L_law_366 rfl ?_
    refine W.lcmp hx hb d_L_law_367 ?_
    refine lv_if_eq (tgt := 373) hx hb d_L_law_368 (by decide) (fun _ => ?_) (fun z => absurd (x_lcmp.mpr (by rw [(qa hz9).1, kt_t hz9])) z)
    refine lv_goto (tgt := 1244) hx hb d_L_law_373 (by decide) ?_
    refine lv_iinc (v := nI (i + 6)) (lv' := [(4, .int (nI (i + 6))), (6, .int (nI (kt (formSignK nu (xs (i + 1)) (xs (i + 2)) (xs (i + 3)) (xs (i + 4)) (xs (i + 5)) = 0) (nu 1 (4 + cN (xs (i + 1))) + 1) 0))), (5, .int (nI (formSignK nu (xs (i + 1)) (xs (i + 2)) (xs (i + 3)) (xs (i + 4)) (xs (i + 5))))), (0, .ref b), (1, .ref (ad 14 0)), (2, .ref md), (3, .ref out)]) hx hb d_L_law_1244 hl (k := 6) rfl (by exact nI_add _ 6) (by decide) rfl (fun ls hl => ?_)
    refine lv_goto (tgt := 23) hx hb d_L_law_1247 (by decide) ?_
    exact W.widen (show 60 + 6 * i + 6 ≤ 60 + 6 * (i + 6) by omega) (show 7200 + 370 * i + 36 ≤ 7200 + 370 * (i + 6) by omega) (hNext _ _ _ _ _ _ _ _ hfin q7 hw (lv_sub hl [3, 4, 5, 6, 0] rfl))
set_option maxHeartbeats 1000000 in
set_option maxRecDepth 100000 in
theorem l_case_3 {p : Program} {l : Launch} (hfl : l.flags = flags0) {e : Env} {s : State} {m : MethodId} {below : List Frame} {meth : Method} {c : Code} {G : xT} {M : xMem} {sz : Nat} {b L : Nat} {xs : Nat → Int32} {rc md out fz : Nat} {am : Nat → Nat} (hC : xC p s m ([.ref b] : List Value).toArray meth c b_L_law y_L_law.cls 7 G (xA M sz)) (hX : va_X b L xs s s.heap) (hbl : b < s.heap.size) (hbA : ¬ xA M sz b) {i : Nat} (hi : i + 6 ≤ L) (hL : L ≤ 3072) {Q : State → Prop}
    (hNext : ∀ (M1 : xMem) (ad : Nat → Nat → Nat) (nu : Nat → Nat → Nat) (sg : Nat → Nat → Int32) (ov : Nat → Int64) (H : Heap) (locs : List Loc) (ls : Array Slot), lawI G M1 fz ad md out am nu sg ov → ad 14 0 = rc → xWd G (xA M sz) s.heap M1 H locs → lv_has ls 7 [(0, .ref b), (1, .ref rc), (2, .ref md), (3, .ref out), (4, .int (nI (i + 6)))] → W p l e { frames := 13, cells := 601024, slots := 7293034, locals := 488 } s m ([.ref b] : List Value).toArray below meth c H locs (60 + 6 * (i + 6)) (7200 + 370 * (i + 6)) Q (F0 m 23 ls []))
    (M1 : xMem) (ad : Nat → Nat → Nat) (nu : Nat → Nat → Nat) (sg : Nat → Nat → Int32) (ov : Nat → Int64) (H : Heap) (locs : List Loc) (ls : Array Slot) (hI : lawI G M1 fz ad md out am nu sg ov) (h14 : ad 14 0 = rc) (hw : xWd G (xA M sz) s.heap M1 H locs) (hl : lv_has ls 7 [(0, .ref b), (1, .ref rc), (2, .ref md), (3, .ref out), (4, .int (nI i))]) : W p l e { frames := 13, cells := 601024, slots := 7293034, locals := 488 } s m ([.ref b] : List Value).toArray below meth c H locs (60 + 6 * i) (7200 + 370 * i) Q (F0 m 376 ls []) := by
  subst h14
  obtain ⟨hR, hM, ok, h_out, hoo, hos, hds⟩ := id hI
  obtain ⟨h20, h12, h4, h8a, hst8, h100, h40, h8, h60, hfm, hen, hok, hpg, hlt, hf0, hw0, ht0, hu9⟩ := id ok
  obtain ⟨hx, hb, hown, hts, hK9, hml, hlk, hz⟩ := id hC
  refine lv_aload_n hx hb d_L_law_376 rfl (lv_at hl 1 rfl) ?_
  refine lv_aload_n hx hb d_L_law_377 rfl (lv_at hl 0 rfl) ?_
  refine lv_iload hx hb d_L_law_378 (lv_at hl 4 rfl) ?_
  refine lv_iconst (v := nI 1) hx hb d_L_law_380 (by decide) ?_
  refine lv_iadd hx hb d_L_law_381 ?_
  refine x_vi (y := nI (i + 1)) (nI_add _ _) ?_
  refine va_sld hx hb hX hbl hbA hw.S (x_inr rfl (show (i + 1) < L by omega) (by omega)) d_L_law_382 ?_
  refine x_vi (y := xs ((i + 1))) (congrArg xs (nI_clamp (by omega))) ?_
  refine lv_aload_n hx hb d_L_law_383 rfl (lv_at hl 0 rfl) ?_
  refine lv_iload hx hb d_L_law_384 (lv_at hl 4 rfl) ?_
  refine lv_iconst (v := nI 2) hx hb d_L_law_386 (by decide) ?_
  refine lv_iadd hx hb d_L_law_387 ?_
  refine x_vi (y := nI (i + 2)) (nI_add _ _) ?_
  refine va_sld hx hb hX hbl hbA hw.S (x_inr rfl (show (i + 2) < L by omega) (by omega)) d_L_law_388 ?_
  refine x_vi (y := xs ((i + 2))) (congrArg xs (nI_clamp (by omega))) ?_
  refine lv_aload_n hx hb d_L_law_389 rfl (lv_at hl 0 rfl) ?_
  refine lv_iload hx hb d_L_law_390 (lv_at hl 4 rfl) ?_
  refine lv_iconst (v := nI 3) hx hb d_L_law_392 (by decide) ?_
  refine lv_iadd hx hb d_L_law_393 ?_
  refine x_vi (y := nI (i + 3)) (nI_add _ _) ?_
  refine va_sld hx hb hX hbl hbA hw.S (x_inr rfl (show (i + 3) < L by omega) (by omega)) d_L_law_394 ?_
  refine x_vi (y := xs ((i + 3))) (congrArg xs (nI_clamp (by omega))) ?_
  refine lv_aload_n hx hb d_L_law_395 rfl (lv_at hl 0 rfl) ?_
  refine lv_iload hx hb d_L_law_396 (lv_at hl 4 rfl) ?_
  refine lv_iconst (v := nI 4) hx hb d_L_law_398 (by decide) ?_
  refine lv_iadd hx hb d_L_law_399 ?_
  refine x_vi (y := nI (i + 4)) (nI_add _ _) ?_
  refine va_sld hx hb hX hbl hbA hw.S (x_inr rfl (show (i + 4) < L by omega) (by omega)) d_L_law_400 ?_
  refine x_vi (y := xs ((i + 4))) (congrArg xs (nI_clamp (by omega))) ?_
  refine lv_aload_n hx hb d_L_law_401 rfl (lv_at hl 3 rfl) ?_
  refine x_callH hC (c_L_use l hfl G M1 (Array.size H) fz ad nu sg hR out ov hoo (xs (i + 1)) (xs (i + 2)) (xs (i + 3)) (xs (i + 4)) h20 h12 hfm h_out) k_432 k_0 ⟨Nat.le_of_ble_eq_true rfl, Nat.le_of_ble_eq_true rfl⟩ ⟨(show 60 + 6 * i + 7 ≤ 601024 by omega), (show 7200 + 370 * i + 58 ≤ 7293034 by omega)⟩ hw hl.1 (Nat.le_of_ble_eq_true rfl) d_L_law_402 (x_ivSH hC k_432 k_430 k_431 k_0 (show _ ∧ _ ∧ _ = some 6 from by decide +kernel) rfl d_L_law_402) (fun rv M1 H locs hq hw => ?_) (fun _ _ _ _ _ h _ _ => h.elim)
  obtain ⟨rfl, ad', nu', sg', ov', q1, q7, q6, h_out', q5, qa, qb⟩ := hq
  have hM1 := hM.cfo q5 hds hos
  refine W.eq (g2 := F0 m 405 ls [.int (nI (useK nu (xs (i + 1)) (xs (i + 2)) (xs (i + 3)) (xs (i + 4))))]) rfl ?_
  refine lv_istore (lv' := [(5, .int (nI (useK nu (xs (i + 1)) (xs (i + 2)) (xs (i + 3)) (xs (i + 4))))), (0, .ref b), (1, .ref (ad 14 0)), (2, .ref md), (3, .ref out), (4, .int (nI i))]) hx hb d_L_law_405 hl (by decide) rfl (fun ls hl => ?_)
  refine lv_aload_n hx hb d_L_law_407 rfl (lv_at hl 3 rfl) ?_
  refine lv_aload_n hx hb d_L_law_408 rfl (lv_at hl 1 rfl) ?_
  refine lv_iload hx hb d_L_law_409 (lv_at hl 5 rfl) ?_
  refine lv_iconst (v := nI 1) hx hb d_L_law_411 (by decide) ?_
  refine lv_iadd hx hb d_L_law_412 ?_
  refine x_vi (y := nI (i + 1)) (nI_add _ _) ?_
  refine va_sld hx hb hX hbl hbA hw.S (x_inr rfl (show (i + 1) < L by omega) (by omega)) d_L_law_413 ?_
  refine x_vi (y := xs ((i + 1))) (congrArg xs (nI_clamp (by omega))) ?_
  refine lv_aload_n hx hb d_L_law_414 rfl (lv_at hl 1 rfl) ?_
  refine lv_iload hx hb d_L_law_415 (lv_at hl 5 rfl) ?_
  refine lv_iconst (v := nI 2) hx hb d_L_law_417 (by decide) ?_
  refine lv_iadd hx hb d_L_law_418 ?_
  refine x_vi (y := nI (i + 2)) (nI_add _ _) ?_
  refine va_sld hx hb hX hbl hbA hw.S (x_inr rfl (show (i + 2) < L by omega) (by omega)) d_L_law_419 ?_
  refine x_vi (y := xs ((i + 2))) (congrArg xs (nI_clamp (by omega))) ?_
  refine lv_aload_n hx hb d_L_law_420 rfl (lv_at hl 1 rfl) ?_
  refine lv_iload hx hb d_L_law_421 (lv_at hl 5 rfl) ?_
  refine lv_iconst (v := nI 3) hx hb d_L_law_423 (by decide) ?_
  refine lv_iadd hx hb d_L_law_424 ?_
  refine x_vi (y := nI (i + 3)) (nI_add _ _) ?_
  refine va_sld hx hb hX hbl hbA hw.S (x_inr rfl (show (i + 3) < L by omega) (by omega)) d_L_law_425 ?_
  refine x_vi (y := xs ((i + 3))) (congrArg xs (nI_clamp (by omega))) ?_
  refine lv_aload_n hx hb d_L_law_426 rfl (lv_at hl 1 rfl) ?_
  refine lv_iload hx hb d_L_law_427 (lv_at hl 5 rfl) ?_
  refine lv_iconst (v := nI 4) hx hb d_L_law_429 (by decide) ?_
  refine lv_iadd hx hb d_L_law_430 ?_
  refine x_vi (y := nI (i + 4)) (nI_add _ _) ?_
  refine va_sld hx hb hX hbl hbA hw.S (x_inr rfl (show (i + 4) < L by omega) (by omega)) d_L_law_431 ?_
  refine x_vi (y := xs ((i + 4))) (congrArg xs (nI_clamp (by omega))) ?_
  refine x_callG hC (c_M_use l G M1 (Array.size H) md am nu sg hM1 (xs (i + 1)) (xs (i + 2)) (xs (i + 3)) (xs (i + 4)) h20 h12) k_862 k_13 ⟨Nat.le_of_ble_eq_true rfl, Nat.le_of_ble_eq_true rfl⟩ ⟨(show 60 + 6 * i + 7 ≤ 601024 by omega), (show 7200 + 370 * i + 58 ≤ 7293034 by omega)⟩ hw hl.1 (Nat.le_of_ble_eq_true rfl) d_L_law_432 (x_ivV hC k_862 k_859 k_860 k_861 (show _ ∧ _ ∧ _ = some 4 from by decide +kernel) (x_recv hC hw hM1.1 rfl) rfl d_L_law_432) (fun rv M2 H locs hq hw => ?_) (fun _ _ _ _ _ h _ _ => h.elim)
  obtain ⟨rfl, nu2, sg2, hm, mN, mS, fr, mK, m0, m1⟩ := hq
  refine W.eq (g2 := F0 m 435 ls [.int (nI (kt (useK nu (xs (i + 1)) (xs (i + 2)) (xs (i + 3)) (xs (i + 4)) = 0) (nu 7 0) 0))]) rfl ?_
  have hfin : lawI G M2 fz ad' md out am nu2 sg2 ov' := by
    by_cases hz9 : useK nu (xs (i + 1)) (xs (i + 2)) (xs (i + 3)) (xs (i + 4)) = 0
    · have hcf := (qa hz9).2
      have hmf := m0 hz9
      have hzz := useK_z h12 hz9
      have hmf2 := hmf
      rw [hzz.1.1] at hmf2
      have hfm' : ∀ u, u < nu' 7 0 → nu' 9 u < nu' 6 0 := use_fm hfm (congrFun (hcf.1 6 (by decide)) 0) hcf.2.2.1 hcf.2.2.2.1 (useK_z h12 hz9).2.1.2
      have htr := tr_use hcf.2.2 hmf hcf.1 hcf.2.1 mN mS
      exact law_step (x_fz0 hC hw hI.1.2.1.1) hI q1 q6 h_out' q5 hm fr (fun M9 hc9 => hc9.to hfm' htr) htr.rng (ok_use (dx := (xs (i + 3))) (dy := (xs (i + 4))) ok mN mS hzz.1.2 hzz.2.1.2 hmf2 hzz.2.2)
    · obtain ⟨rfl, rfl⟩ := qb hz9
      obtain ⟨s1, rfl⟩ := m1 hz9
      exact law_step (x_fz0 hC hw hI.1.2.1.1) hI q1 q6 h_out' q5 hm fr (fun M9 hc9 => hc9.to hfm (trP_0 s1)) (rng_eqx s1 (by decide)) (okS_0 ok s1)
  refine lv_istore (lv' := [(6, .int (nI (kt (useK nu (xs (i + 1)) (xs (i + 2)) (xs (i + 3)) (xs (i + 4)) = 0) (nu 7 0) 0))), (5, .int (nI (useK nu (xs (i + 1)) (xs (i + 2)) (xs (i + 3)) (xs (i + 4))))), (0, .ref b), (1, .ref (ad 14 0)), (2, .ref md), (3, .ref out), (4, .int (nI i))]) hx hb d_L_law_435 hl (by decide) rfl (fun ls hl => ?_)
  refine lv_aload_n hx hb d_L_law_437 rfl (lv_at hl 4 rfl) ?_
  refine x_callG hC (c_M_thrown l G M2 (Array.size H) md am nu2 sg2 hm) k_835 k_13 ⟨Nat.le_of_ble_eq_true rfl, Nat.le_of_ble_eq_true rfl⟩ ⟨(show 60 + 6 * i + 7 ≤ 601024 by omega), (show 7200 + 370 * i + 58 ≤ 7293034 by omega)⟩ hw hl.1 (Nat.le_of_ble_eq_true rfl) d_L_law_438 (x_ivV hC k_835 k_832 k_833 k_834 (show _ ∧ _ ∧ _ = some 0 from by decide +kernel) (x_recv hC hw hm.1 rfl) rfl d_L_law_438) (fun rv M3 H locs hq hw => ?_) (fun _ _ _ _ _ h _ _ => h.elim)
  obtain ⟨rfl, hMe⟩ := hq
  subst M3
  refine W.eq (g2 := F0 m 441 ls [.int (nI (nu2 0 0))]) rfl ?_
  refine x_vi (y := nI (useK nu (xs (i + 1)) (xs (i + 2)) (xs (i + 3)) (xs (i + 4)))) (congrArg nI mK) ?_
  refine lv_iload hx hb d_L_law_441 (lv_at hl 1 rfl) ?_
  refine lv_icmp_eq (tgt := 448) hx hb d_L_law_443 (by decide) (fun _ => ?_) (fun z => absurd rfl z)
  refine lv_iload hx hb d_L_law_448 (lv_at hl 1 rfl) ?_
  have hKle : useK nu (xs (i + 1)) (xs (i + 2)) (xs (i + 3)) (xs (i + 4)) ≤ 3 := kt_le3 (by decide) (kt_le3 (by decide) (kt_le3 (by decide) (by decide)))
  refine lv_if_ne (tgt := 465) hx hb d_L_law_450 (by decide) (fun hz8 => ?_) (fun hz8 => ?_)
  · refine lv_goto (tgt := 1244) hx hb d_L_law_465 (by decide) ?_
    refine lv_iinc (v := nI (i + 6)) (lv' := [(4, .int (nI (i + 6))), (6, .int (nI (kt (useK nu (xs (i + 1)) (xs (i + 2)) (xs (i + 3)) (xs (i + 4)) = 0) (nu 7 0) 0))), (5, .int (nI (useK nu (xs (i + 1)) (xs (i + 2)) (xs (i + 3)) (xs (i + 4))))), (0, .ref b), (1, .ref (ad 14 0)), (2, .ref md), (3, .ref out)]) hx hb d_L_law_1244 hl (k := 6) rfl (by exact nI_add _ 6) (by decide) rfl (fun ls hl => ?_)
    refine lv_goto (tgt := 23) hx hb d_L_law_1247 (by decide) ?_
    exact W.widen (show 60 + 6 * i + 7 ≤ 60 + 6 * (i + 6) by omega) (show 7200 + 370 * i + 58 ≤ 7200 + 370 * (i + 6) by omega) (hNext _ _ _ _ _ _ _ _ hfin q7 hw (lv_sub hl [3, 4, 5, 6, 0] rfl))
  · have hz9 : useK nu (xs (i + 1)) (xs (i + 2)) (xs (i + 3)) (xs (i + 4)) = 0 := (K0 hKle).mp hz8
    have ho3 := hfin.2.2.2.1
    refine lv_aload_n hx hb d_L_law_453 rfl (lv_at hl 5 rfl) ?_
    refine lv_iconst (v := nI 0) hx hb d_L_law_454 (by decide) ?_
    refine x_lald (j := 0) hC hw ho3 rfl (rfl) (by omega) (by omega) d_L_law_455 ?_
    refine lv_iload hx hb d_L_law_456 (lv_at hl 0 rfl) ?_
    refine lv_i2l (v := Int32.toInt64 (nI (kt (useK nu (xs (i + 1)) (xs (i + 2)) (xs (i + 3)) (xs (i + 4)) = 0) (nu 7 0) 0))) hx hb d_L_law_458 rfl ?_
    refine W.lcmp hx hb d_L_law_459 ?_
    refine lv_if_eq (tgt := 465) hx hb d_L_law_460 (by decide) (fun _ => ?_) (fun z => absurd (x_lcmp.mpr (by rw [(qa hz9).1, kt_t hz9])) z)
    refine lv_goto (tgt := 1244) hx hb d_L_law_465 (by decide) ?_
    refine lv_iinc (v := nI (i + 6)) (lv' := [(4, .int (nI (i + 6))), (6, .int (nI (kt (useK nu (xs (i + 1)) (xs (i + 2)) (xs (i + 3)) (xs (i + 4)) = 0) (nu 7 0) 0))), (5, .int (nI (useK nu (xs (i + 1)) (xs (i + 2)) (xs (i + 3)) (xs (i + 4))))), (0, .ref b), (1, .ref (ad 14 0)), (2, .ref md), (3, .ref out)]) hx hb d_L_law_1244 hl (k := 6) rfl (by exact nI_add _ 6) (by decide) rfl (fun ls hl => ?_)
    refine lv_goto (tgt := 23) hx hb d_L_law_1247 (by decide) ?_
    exact W.widen (show 60 + 6 * i + 7 ≤ 60 + 6 * (i + 6) by omega) (show 7200 + 370 * i + 58 ≤ 7200 + 370 * (i + 6) by omega) (hNext _ _ _ _ _ _ _ _ hfin q7 hw (lv_sub hl [3, 4, 5, 6, 0] rfl))
set_option maxHeartbeats 1000000 in
set_option maxRecDepth 100000 in
theorem l_case_4 {p : Program} {l : Launch} (hfl : l.flags = flags0) {e : Env} {s : State} {m : MethodId} {below : List Frame} {meth : Method} {c : Code} {G : xT} {M : xMem} {sz : Nat} {b L : Nat} {xs : Nat → Int32} {rc md out fz : Nat} {am : Nat → Nat} (hC : xC p s m ([.ref b] : List Value).toArray meth c b_L_law y_L_law.cls 7 G (xA M sz)) (hX : va_X b L xs s s.heap) (hbl : b < s.heap.size) (hbA : ¬ xA M sz b) {i : Nat} (hi : i + 6 ≤ L) (hL : L ≤ 3072) {Q : State → Prop}
    (hNext : ∀ (M1 : xMem) (ad : Nat → Nat → Nat) (nu : Nat → Nat → Nat) (sg : Nat → Nat → Int32) (ov : Nat → Int64) (H : Heap) (locs : List Loc) (ls : Array Slot), lawI G M1 fz ad md out am nu sg ov → ad 14 0 = rc → xWd G (xA M sz) s.heap M1 H locs → lv_has ls 7 [(0, .ref b), (1, .ref rc), (2, .ref md), (3, .ref out), (4, .int (nI (i + 6)))] → W p l e { frames := 13, cells := 601024, slots := 7293034, locals := 488 } s m ([.ref b] : List Value).toArray below meth c H locs (60 + 6 * (i + 6)) (7200 + 370 * (i + 6)) Q (F0 m 23 ls []))
    (M1 : xMem) (ad : Nat → Nat → Nat) (nu : Nat → Nat → Nat) (sg : Nat → Nat → Int32) (ov : Nat → Int64) (H : Heap) (locs : List Loc) (ls : Array Slot) (hI : lawI G M1 fz ad md out am nu sg ov) (h14 : ad 14 0 = rc) (hw : xWd G (xA M sz) s.heap M1 H locs) (hl : lv_has ls 7 [(0, .ref b), (1, .ref rc), (2, .ref md), (3, .ref out), (4, .int (nI i))]) : W p l e { frames := 13, cells := 601024, slots := 7293034, locals := 488 } s m ([.ref b] : List Value).toArray below meth c H locs (60 + 6 * i) (7200 + 370 * i) Q (F0 m 468 ls []) := by
  subst h14
  obtain ⟨hR, hM, ok, h_out, hoo, hos, hds⟩ := id hI
  obtain ⟨h20, h12, h4, h8a, hst8, h100, h40, h8, h60, hfm, hen, hok, hpg, hlt, hf0, hw0, ht0, hu9⟩ := id ok
  obtain ⟨hx, hb, hown, hts, hK9, hml, hlk, hz⟩ := id hC
  refine lv_aload_n hx hb d_L_law_468 rfl (lv_at hl 1 rfl) ?_
  refine lv_aload_n hx hb d_L_law_469 rfl (lv_at hl 3 rfl) ?_
  refine x_callH hC (c_L_word l hfl G M1 (Array.size H) fz ad nu sg hR out ov hoo h4 hw0 hfm h_out) k_471 k_0 ⟨Nat.le_of_ble_eq_true rfl, Nat.le_of_ble_eq_true rfl⟩ ⟨(show 60 + 6 * i + 4 ≤ 601024 by omega), (show 7200 + 370 * i + 38 ≤ 7293034 by omega)⟩ hw hl.1 (Nat.le_of_ble_eq_true rfl) d_L_law_470 (x_ivSH hC k_471 k_469 k_470 k_0 (show _ ∧ _ ∧ _ = some 2 from by decide +kernel) rfl d_L_law_470) (fun rv M1 H locs hq hw => ?_) (fun _ _ _ _ _ h _ _ => h.elim)
  obtain ⟨rfl, ad', nu', sg', ov', q1, q7, q6, h_out', q5, qa, qb⟩ := hq
  have hM1 := hM.cfo q5 hds hos
  refine W.eq (g2 := F0 m 473 ls [.int (nI (wordK nu))]) rfl ?_
  refine lv_istore (lv' := [(5, .int (nI (wordK nu))), (0, .ref b), (1, .ref (ad 14 0)), (2, .ref md), (3, .ref out), (4, .int (nI i))]) hx hb d_L_law_473 hl (by decide) rfl (fun ls hl => ?_)
  refine lv_aload_n hx hb d_L_law_475 rfl (lv_at hl 3 rfl) ?_
  refine x_callG hC (c_M_word l G M1 (Array.size H) md am nu sg hM1 h4) k_866 k_13 ⟨Nat.le_of_ble_eq_true rfl, Nat.le_of_ble_eq_true rfl⟩ ⟨(show 60 + 6 * i + 4 ≤ 601024 by omega), (show 7200 + 370 * i + 38 ≤ 7293034 by omega)⟩ hw hl.1 (Nat.le_of_ble_eq_true rfl) d_L_law_476 (x_ivV hC k_866 k_863 k_864 k_865 (show _ ∧ _ ∧ _ = some 0 from by decide +kernel) (x_recv hC hw hM1.1 rfl) rfl d_L_law_476) (fun rv M2 H locs hq hw => ?_) (fun _ _ _ _ _ h _ _ => h.elim)
  obtain ⟨rfl, nu2, sg2, hm, mN, mS, fr, mK, m0, m1⟩ := hq
  refine W.eq (g2 := F0 m 479 ls [.int (nI (kt (wordK nu = 0) (nu 12 0) 0))]) rfl ?_
  have hfin : lawI G M2 fz ad' md out am nu2 sg2 ov' := by
    by_cases hz9 : wordK nu = 0
    · have hcf := (qa hz9).2
      have hmf := m0 hz9
      have hfm' : ∀ u, u < nu' 7 0 → nu' 9 u < nu' 6 0 := by rw [hcf.1 7 (by decide), hcf.1 9 (by decide), hcf.1 6 (by decide)]; exact hfm
      have htr := tr_word hcf.2.2 hmf hcf.1 hcf.2.1 mN mS
      exact law_step (x_fz0 hC hw hI.1.2.1.1) hI q1 q6 h_out' q5 hm fr (fun M9 hc9 => hc9.to hfm' htr) htr.rng (ok_word ok mN mS hmf (wordK_z h4 hz9))
    · obtain ⟨rfl, rfl⟩ := qb hz9
      obtain ⟨s1, rfl⟩ := m1 hz9
      exact law_step (x_fz0 hC hw hI.1.2.1.1) hI q1 q6 h_out' q5 hm fr (fun M9 hc9 => hc9.to hfm (trP_0 s1)) (rng_eqx s1 (by decide)) (okS_0 ok s1)
  refine lv_istore (lv' := [(6, .int (nI (kt (wordK nu = 0) (nu 12 0) 0))), (5, .int (nI (wordK nu))), (0, .ref b), (1, .ref (ad 14 0)), (2, .ref md), (3, .ref out), (4, .int (nI i))]) hx hb d_L_law_479 hl (by decide) rfl (fun ls hl => ?_)
  refine lv_aload_n hx hb d_L_law_481 rfl (lv_at hl 4 rfl) ?_
  refine x_callG hC (c_M_thrown l G M2 (Array.size H) md am nu2 sg2 hm) k_835 k_13 ⟨Nat.le_of_ble_eq_true rfl, Nat.le_of_ble_eq_true rfl⟩ ⟨(show 60 + 6 * i + 4 ≤ 601024 by omega), (show 7200 + 370 * i + 38 ≤ 7293034 by omega)⟩ hw hl.1 (Nat.le_of_ble_eq_true rfl) d_L_law_482 (x_ivV hC k_835 k_832 k_833 k_834 (show _ ∧ _ ∧ _ = some 0 from by decide +kernel) (x_recv hC hw hm.1 rfl) rfl d_L_law_482) (fun rv M3 H locs hq hw => ?_) (fun _ _ _ _ _ h _ _ => h.elim)
  obtain ⟨rfl, hMe⟩ := hq
  subst M3
  refine W.eq (g2 := F0 m 485 ls [.int (nI (nu2 0 0))]) rfl ?_
  refine x_vi (y := nI (wordK nu)) (congrArg nI mK) ?_
  refine lv_iload hx hb d_L_law_485 (lv_at hl 1 rfl) ?_
  refine lv_icmp_eq (tgt := 492) hx hb d_L_law_487 (by decide) (fun _ => ?_) (fun z => absurd rfl z)
  refine lv_iload hx hb d_L_law_492 (lv_at hl 1 rfl) ?_
  have hKle : wordK nu ≤ 3 := kt_le3 (by decide) (by decide)
  refine lv_if_ne (tgt := 509) hx hb d_L_law_494 (by decide) (fun hz8 => ?_) (fun hz8 => ?_)
  · refine lv_goto (tgt := 1244) hx hb d_L_law_509 (by decide) ?_
    refine lv_iinc (v := nI (i + 6)) (lv' := [(4, .int (nI (i + 6))), (6, .int (nI (kt (wordK nu = 0) (nu 12 0) 0))), (5, .int (nI (wordK nu))), (0, .ref b), (1, .ref (ad 14 0)), (2, .ref md), (3, .ref out)]) hx hb d_L_law_1244 hl (k := 6) rfl (by exact nI_add _ 6) (by decide) rfl (fun ls hl => ?_)
    refine lv_goto (tgt := 23) hx hb d_L_law_1247 (by decide) ?_
    exact W.widen (show 60 + 6 * i + 4 ≤ 60 + 6 * (i + 6) by omega) (show 7200 + 370 * i + 38 ≤ 7200 + 370 * (i + 6) by omega) (hNext _ _ _ _ _ _ _ _ hfin q7 hw (lv_sub hl [3, 4, 5, 6, 0] rfl))
  · have hz9 : wordK nu = 0 := (K0 hKle).mp hz8
    have ho3 := hfin.2.2.2.1
    refine lv_aload_n hx hb d_L_law_497 rfl (lv_at hl 5 rfl) ?_
    refine lv_iconst (v := nI 0) hx hb d_L_law_498 (by decide) ?_
    refine x_lald (j := 0) hC hw ho3 rfl (rfl) (by omega) (by omega) d_L_law_499 ?_
    refine lv_iload hx hb d_L_law_500 (lv_at hl 0 rfl) ?_
    refine lv_i2l (v := Int32.toInt64 (nI (kt (wordK nu = 0) (nu 12 0) 0))) hx hb d_L_law_502 rfl ?_
    refine W.lcmp hx hb d_L_law_503 ?_
    refine lv_if_eq (tgt := 509) hx hb d_L_law_504 (by decide) (fun _ => ?_) (fun z => absurd (x_lcmp.mpr (by rw [(qa hz9).1, kt_t hz9])) z)
    refine lv_goto (tgt := 1244) hx hb d_L_law_509 (by decide) ?_
    refine lv_iinc (v := nI (i + 6)) (lv' := [(4, .int (nI (i + 6))), (6, .int (nI (kt (wordK nu = 0) (nu 12 0) 0))), (5, .int (nI (wordK nu))), (0, .ref b), (1, .ref (ad 14 0)), (2, .ref md), (3, .ref out)]) hx hb d_L_law_1244 hl (k := 6) rfl (by exact nI_add _ 6) (by decide) rfl (fun ls hl => ?_)
    refine lv_goto (tgt := 23) hx hb d_L_law_1247 (by decide) ?_
    exact W.widen (show 60 + 6 * i + 4 ≤ 60 + 6 * (i + 6) by omega) (show 7200 + 370 * i + 38 ≤ 7200 + 370 * (i + 6) by omega) (hNext _ _ _ _ _ _ _ _ hfin q7 hw (lv_sub hl [3, 4, 5, 6, 0] rfl))
set_option maxHeartbeats 1000000 in
set_option maxRecDepth 100000 in
theorem l_case_5 {p : Program} {l : Launch} (hfl : l.flags = flags0) {e : Env} {s : State} {m : MethodId} {below : List Frame} {meth : Method} {c : Code} {G : xT} {M : xMem} {sz : Nat} {b L : Nat} {xs : Nat → Int32} {rc md out fz : Nat} {am : Nat → Nat} (hC : xC p s m ([.ref b] : List Value).toArray meth c b_L_law y_L_law.cls 7 G (xA M sz)) (hX : va_X b L xs s s.heap) (hbl : b < s.heap.size) (hbA : ¬ xA M sz b) {i : Nat} (hi : i + 6 ≤ L) (hL : L ≤ 3072) {Q : State → Prop}
    (hNext : ∀ (M1 : xMem) (ad : Nat → Nat → Nat) (nu : Nat → Nat → Nat) (sg : Nat → Nat → Int32) (ov : Nat → Int64) (H : Heap) (locs : List Loc) (ls : Array Slot), lawI G M1 fz ad md out am nu sg ov → ad 14 0 = rc → xWd G (xA M sz) s.heap M1 H locs → lv_has ls 7 [(0, .ref b), (1, .ref rc), (2, .ref md), (3, .ref out), (4, .int (nI (i + 6)))] → W p l e { frames := 13, cells := 601024, slots := 7293034, locals := 488 } s m ([.ref b] : List Value).toArray below meth c H locs (60 + 6 * (i + 6)) (7200 + 370 * (i + 6)) Q (F0 m 23 ls []))
    (M1 : xMem) (ad : Nat → Nat → Nat) (nu : Nat → Nat → Nat) (sg : Nat → Nat → Int32) (ov : Nat → Int64) (H : Heap) (locs : List Loc) (ls : Array Slot) (hI : lawI G M1 fz ad md out am nu sg ov) (h14 : ad 14 0 = rc) (hw : xWd G (xA M sz) s.heap M1 H locs) (hl : lv_has ls 7 [(0, .ref b), (1, .ref rc), (2, .ref md), (3, .ref out), (4, .int (nI i))]) : W p l e { frames := 13, cells := 601024, slots := 7293034, locals := 488 } s m ([.ref b] : List Value).toArray below meth c H locs (60 + 6 * i) (7200 + 370 * i) Q (F0 m 512 ls []) := by
  subst h14
  obtain ⟨hR, hM, ok, h_out, hoo, hos, hds⟩ := id hI
  obtain ⟨h20, h12, h4, h8a, hst8, h100, h40, h8, h60, hfm, hen, hok, hpg, hlt, hf0, hw0, ht0, hu9⟩ := id ok
  obtain ⟨hx, hb, hown, hts, hK9, hml, hlk, hz⟩ := id hC
  refine lv_aload_n hx hb d_L_law_512 rfl (lv_at hl 1 rfl) ?_
  refine lv_aload_n hx hb d_L_law_513 rfl (lv_at hl 0 rfl) ?_
  refine lv_iload hx hb d_L_law_514 (lv_at hl 4 rfl) ?_
  refine lv_iconst (v := nI 1) hx hb d_L_law_516 (by decide) ?_
  refine lv_iadd hx hb d_L_law_517 ?_
  refine x_vi (y := nI (i + 1)) (nI_add _ _) ?_
  refine va_sld hx hb hX hbl hbA hw.S (x_inr rfl (show (i + 1) < L by omega) (by omega)) d_L_law_518 ?_
  refine x_vi (y := xs ((i + 1))) (congrArg xs (nI_clamp (by omega))) ?_
  refine lv_aload_n hx hb d_L_law_519 rfl (lv_at hl 0 rfl) ?_
  refine lv_iload hx hb d_L_law_520 (lv_at hl 4 rfl) ?_
  refine lv_iconst (v := nI 2) hx hb d_L_law_522 (by decide) ?_
  refine lv_iadd hx hb d_L_law_523 ?_
  refine x_vi (y := nI (i + 2)) (nI_add _ _) ?_
  refine va_sld hx hb hX hbl hbA hw.S (x_inr rfl (show (i + 2) < L by omega) (by omega)) d_L_law_524 ?_
  refine x_vi (y := xs ((i + 2))) (congrArg xs (nI_clamp (by omega))) ?_
  refine lv_aload_n hx hb d_L_law_525 rfl (lv_at hl 3 rfl) ?_
  refine x_callH hC (c_L_letter l hfl G M1 (Array.size H) fz ad nu sg hR out ov hoo (xs (i + 1)) (xs (i + 2)) h4 h8 hfm h_out) k_491 k_0 ⟨Nat.le_of_ble_eq_true rfl, Nat.le_of_ble_eq_true rfl⟩ ⟨(show 60 + 6 * i + 3 ≤ 601024 by omega), (show 7200 + 370 * i + 18 ≤ 7293034 by omega)⟩ hw hl.1 (Nat.le_of_ble_eq_true rfl) d_L_law_526 (x_ivSH hC k_491 k_489 k_490 k_0 (show _ ∧ _ ∧ _ = some 4 from by decide +kernel) rfl d_L_law_526) (fun rv M1 H locs hq hw => ?_) (fun _ _ _ _ _ h _ _ => h.elim)
  obtain ⟨rfl, ad', nu', sg', ov', q1, q7, q6, h_out', q5, qa, qb⟩ := hq
  have hM1 := hM.cfo q5 hds hos
  refine W.eq (g2 := F0 m 529 ls [.int (nI (letterK nu (xs (i + 1)) (xs (i + 2))))]) rfl ?_
  refine lv_istore (lv' := [(5, .int (nI (letterK nu (xs (i + 1)) (xs (i + 2))))), (0, .ref b), (1, .ref (ad 14 0)), (2, .ref md), (3, .ref out), (4, .int (nI i))]) hx hb d_L_law_529 hl (by decide) rfl (fun ls hl => ?_)
  refine lv_aload_n hx hb d_L_law_531 rfl (lv_at hl 3 rfl) ?_
  refine lv_aload_n hx hb d_L_law_532 rfl (lv_at hl 1 rfl) ?_
  refine lv_iload hx hb d_L_law_533 (lv_at hl 5 rfl) ?_
  refine lv_iconst (v := nI 1) hx hb d_L_law_535 (by decide) ?_
  refine lv_iadd hx hb d_L_law_536 ?_
  refine x_vi (y := nI (i + 1)) (nI_add _ _) ?_
  refine va_sld hx hb hX hbl hbA hw.S (x_inr rfl (show (i + 1) < L by omega) (by omega)) d_L_law_537 ?_
  refine x_vi (y := xs ((i + 1))) (congrArg xs (nI_clamp (by omega))) ?_
  refine lv_aload_n hx hb d_L_law_538 rfl (lv_at hl 1 rfl) ?_
  refine lv_iload hx hb d_L_law_539 (lv_at hl 5 rfl) ?_
  refine lv_iconst (v := nI 2) hx hb d_L_law_541 (by decide) ?_
  refine lv_iadd hx hb d_L_law_542 ?_
  refine x_vi (y := nI (i + 2)) (nI_add _ _) ?_
  refine va_sld hx hb hX hbl hbA hw.S (x_inr rfl (show (i + 2) < L by omega) (by omega)) d_L_law_543 ?_
  refine x_vi (y := xs ((i + 2))) (congrArg xs (nI_clamp (by omega))) ?_
  refine x_callG hC (c_M_letter l G M1 (Array.size H) md am nu sg hM1 (xs (i + 1)) (xs (i + 2)) h4 h8) k_870 k_13 ⟨Nat.le_of_ble_eq_true rfl, Nat.le_of_ble_eq_true rfl⟩ ⟨(show 60 + 6 * i + 3 ≤ 601024 by omega), (show 7200 + 370 * i + 18 ≤ 7293034 by omega)⟩ hw hl.1 (Nat.le_of_ble_eq_true rfl) d_L_law_544 (x_ivV hC k_870 k_867 k_868 k_869 (show _ ∧ _ ∧ _ = some 2 from by decide +kernel) (x_recv hC hw hM1.1 rfl) rfl d_L_law_544) (fun rv M2 H locs hq hw => ?_) (fun _ _ _ _ _ h _ _ => h.elim)
  obtain ⟨rfl, nu2, sg2, hm, mN, mS, fr, mK, m0, m1⟩ := hq
  refine W.eq (g2 := F0 m 547 ls [.int (nI (kt (letterK nu (xs (i + 1)) (xs (i + 2)) = 0) (nu 13 (cN (xs (i + 1))) + 1) 0))]) rfl ?_
  have hfin : lawI G M2 fz ad' md out am nu2 sg2 ov' := by
    by_cases hz9 : letterK nu (xs (i + 1)) (xs (i + 2)) = 0
    · have hcf := (qa hz9).2
      have hmf := m0 hz9
      have hzz := letterK_z h8 hz9
      have hfm' : ∀ u, u < nu' 7 0 → nu' 9 u < nu' 6 0 := by rw [hcf.1 7 (by decide), hcf.1 9 (by decide), hcf.1 6 (by decide)]; exact hfm
      have htr := tr_letter hcf.2.2 hmf hcf.1 hcf.2.1 mN mS
      exact law_step (x_fz0 hC hw hI.1.2.1.1) hI q1 q6 h_out' q5 hm fr (fun M9 hc9 => hc9.to hfm' htr) htr.rng (ok_letter ok mN mS hmf hzz.1 hzz.2.1 hzz.2.2)
    · obtain ⟨rfl, rfl⟩ := qb hz9
      obtain ⟨s1, rfl⟩ := m1 hz9
      exact law_step (x_fz0 hC hw hI.1.2.1.1) hI q1 q6 h_out' q5 hm fr (fun M9 hc9 => hc9.to hfm (trP_0 s1)) (rng_eqx s1 (by decide)) (okS_0 ok s1)
  refine lv_istore (lv' := [(6, .int (nI (kt (letterK nu (xs (i + 1)) (xs (i + 2)) = 0) (nu 13 (cN (xs (i + 1))) + 1) 0))), (5, .int (nI (letterK nu (xs (i + 1)) (xs (i + 2))))), (0, .ref b), (1, .ref (ad 14 0)), (2, .ref md), (3, .ref out), (4, .int (nI i))]) hx hb d_L_law_547 hl (by decide) rfl (fun ls hl => ?_)
  refine lv_aload_n hx hb d_L_law_549 rfl (lv_at hl 4 rfl) ?_
  refine x_callG hC (c_M_thrown l G M2 (Array.size H) md am nu2 sg2 hm) k_835 k_13 ⟨Nat.le_of_ble_eq_true rfl, Nat.le_of_ble_eq_true rfl⟩ ⟨(show 60 + 6 * i + 3 ≤ 601024 by omega), (show 7200 + 370 * i + 18 ≤ 7293034 by omega)⟩ hw hl.1 (Nat.le_of_ble_eq_true rfl) d_L_law_550 (x_ivV hC k_835 k_832 k_833 k_834 (show _ ∧ _ ∧ _ = some 0 from by decide +kernel) (x_recv hC hw hm.1 rfl) rfl d_L_law_550) (fun rv M3 H locs hq hw => ?_) (fun _ _ _ _ _ h _ _ => h.elim)
  obtain ⟨rfl, hMe⟩ := hq
  subst M3
  refine W.eq (g2 := F0 m 553 ls [.int (nI (nu2 0 0))]) rfl ?_
  refine x_vi (y := nI (letterK nu (xs (i + 1)) (xs (i + 2)))) (congrArg nI mK) ?_
  refine lv_iload hx hb d_L_law_553 (lv_at hl 1 rfl) ?_
  refine lv_icmp_eq (tgt := 560) hx hb d_L_law_555 (by decide) (fun _ => ?_) (fun z => absurd rfl z)
  refine lv_iload hx hb d_L_law_560 (lv_at hl 1 rfl) ?_
  have hKle : letterK nu (xs (i + 1)) (xs (i + 2)) ≤ 3 := kt_le3 (by decide) (kt_le3 (by decide) (kt_le3 (by decide) (by decide)))
  refine lv_if_ne (tgt := 577) hx hb d_L_law_562 (by decide) (fun hz8 => ?_) (fun hz8 => ?_)
  · refine lv_goto (tgt := 1244) hx hb d_L_law_577 (by decide) ?_
    refine lv_iinc (v := nI (i + 6)) (lv' := [(4, .int (nI (i + 6))), (6, .int (nI (kt (letterK nu (xs (i + 1)) (xs (i + 2)) = 0) (nu 13 (cN (xs (i + 1))) + 1) 0))), (5, .int (nI (letterK nu (xs (i + 1)) (xs (i + 2))))), (0, .ref b), (1, .ref (ad 14 0)), (2, .ref md), (3, .ref out)]) hx hb d_L_law_1244 hl (k := 6) rfl (by exact nI_add _ 6) (by decide) rfl (fun ls hl => ?_)
    refine lv_goto (tgt := 23) hx hb d_L_law_1247 (by decide) ?_
    exact W.widen (show 60 + 6 * i + 3 ≤ 60 + 6 * (i + 6) by omega) (show 7200 + 370 * i + 18 ≤ 7200 + 370 * (i + 6) by omega) (hNext _ _ _ _ _ _ _ _ hfin q7 hw (lv_sub hl [3, 4, 5, 6, 0] rfl))
  · have hz9 : letterK nu (xs (i + 1)) (xs (i + 2)) = 0 := (K0 hKle).mp hz8
    have ho3 := hfin.2.2.2.1
    refine lv_aload_n hx hb d_L_law_565 rfl (lv_at hl 5 rfl) ?_
    refine lv_iconst (v := nI 0) hx hb d_L_law_566 (by decide) ?_
    refine x_lald (j := 0) hC hw ho3 rfl (rfl) (by omega) (by omega) d_L_law_567 ?_
    refine lv_iload hx hb d_L_law_568 (lv_at hl 0 rfl) ?_
    refine lv_i2l (v := Int32.toInt64 (nI (kt (letterK nu (xs (i + 1)) (xs (i + 2)) = 0) (nu 13 (cN (xs (i + 1))) + 1) 0))) hx hb d_L_law_570 rfl ?_
    refine W.lcmp hx hb d_L_law_571 ?_
    refine lv_if_eq (tgt := 577) hx hb d_L_law_572 (by decide) (fun _ => ?_) (fun z => absurd (x_lcmp.mpr (by rw [(qa hz9).1, kt_t hz9])) z)
    refine lv_goto (tgt := 1244) hx hb d_L_law_577 (by decide) ?_
    refine lv_iinc (v := nI (i + 6)) (lv' := [(4, .int (nI (i + 6))), (6, .int (nI (kt (letterK nu (xs (i + 1)) (xs (i + 2)) = 0) (nu 13 (cN (xs (i + 1))) + 1) 0))), (5, .int (nI (letterK nu (xs (i + 1)) (xs (i + 2))))), (0, .ref b), (1, .ref (ad 14 0)), (2, .ref md), (3, .ref out)]) hx hb d_L_law_1244 hl (k := 6) rfl (by exact nI_add _ 6) (by decide) rfl (fun ls hl => ?_)
    refine lv_goto (tgt := 23) hx hb d_L_law_1247 (by decide) ?_
    exact W.widen (show 60 + 6 * i + 3 ≤ 60 + 6 * (i + 6) by omega) (show 7200 + 370 * i + 18 ≤ 7200 + 370 * (i + 6) by omega) (hNext _ _ _ _ _ _ _ _ hfin q7 hw (lv_sub hl [3, 4, 5, 6, 0] rfl))
set_option maxHeartbeats 1000000 in
set_option maxRecDepth 100000 in
theorem l_case_6 {p : Program} {l : Launch} (hfl : l.flags = flags0) {e : Env} {s : State} {m : MethodId} {below : List Frame} {meth : Method} {c : Code} {G : xT} {M : xMem} {sz : Nat} {b L : Nat} {xs : Nat → Int32} {rc md out fz : Nat} {am : Nat → Nat} (hC : xC p s m ([.ref b] : List Value).toArray meth c b_L_law y_L_law.cls 7 G (xA M sz)) (hX : va_X b L xs s s.heap) (hbl : b < s.heap.size) (hbA : ¬ xA M sz b) {i : Nat} (hi : i + 6 ≤ L) (hL : L ≤ 3072) {Q : State → Prop}
    (hNext : ∀ (M1 : xMem) (ad : Nat → Nat → Nat) (nu : Nat → Nat → Nat) (sg : Nat → Nat → Int32) (ov : Nat → Int64) (H : Heap) (locs : List Loc) (ls : Array Slot), lawI G M1 fz ad md out am nu sg ov → ad 14 0 = rc → xWd G (xA M sz) s.heap M1 H locs → lv_has ls 7 [(0, .ref b), (1, .ref rc), (2, .ref md), (3, .ref out), (4, .int (nI (i + 6)))] → W p l e { frames := 13, cells := 601024, slots := 7293034, locals := 488 } s m ([.ref b] : List Value).toArray below meth c H locs (60 + 6 * (i + 6)) (7200 + 370 * (i + 6)) Q (F0 m 23 ls []))
    (M1 : xMem) (ad : Nat → Nat → Nat) (nu : Nat → Nat → Nat) (sg : Nat → Nat → Int32) (ov : Nat → Int64) (H : Heap) (locs : List Loc) (ls : Array Slot) (hI : lawI G M1 fz ad md out am nu sg ov) (h14 : ad 14 0 = rc) (hw : xWd G (xA M sz) s.heap M1 H locs) (hl : lv_has ls 7 [(0, .ref b), (1, .ref rc), (2, .ref md), (3, .ref out), (4, .int (nI i))]) : W p l e { frames := 13, cells := 601024, slots := 7293034, locals := 488 } s m ([.ref b] : List Value).toArray below meth c H locs (60 + 6 * i) (7200 + 370 * i) Q (F0 m 580 ls []) := by
  subst h14
  obtain ⟨hR, hM, ok, h_out, hoo, hos, hds⟩ := id hI
  obtain ⟨h20, h12, h4, h8a, hst8, h100, h40, h8, h60, hfm, hen, hok, hpg, hlt, hf0, hw0, ht0, hu9⟩ := id ok
  obtain ⟨hx, hb, hown, hts, hK9, hml, hlk, hz⟩ := id hC
  refine lv_aload_n hx hb d_L_law_580 rfl (lv_at hl 1 rfl) ?_
  refine lv_aload_n hx hb d_L_law_581 rfl (lv_at hl 0 rfl) ?_
  refine lv_iload hx hb d_L_law_582 (lv_at hl 4 rfl) ?_
  refine lv_iconst (v := nI 1) hx hb d_L_law_584 (by decide) ?_
  refine lv_iadd hx hb d_L_law_585 ?_
  refine x_vi (y := nI (i + 1)) (nI_add _ _) ?_
  refine va_sld hx hb hX hbl hbA hw.S (x_inr rfl (show (i + 1) < L by omega) (by omega)) d_L_law_586 ?_
  refine x_vi (y := xs ((i + 1))) (congrArg xs (nI_clamp (by omega))) ?_
  refine lv_aload_n hx hb d_L_law_587 rfl (lv_at hl 0 rfl) ?_
  refine lv_iload hx hb d_L_law_588 (lv_at hl 4 rfl) ?_
  refine lv_iconst (v := nI 2) hx hb d_L_law_590 (by decide) ?_
  refine lv_iadd hx hb d_L_law_591 ?_
  refine x_vi (y := nI (i + 2)) (nI_add _ _) ?_
  refine va_sld hx hb hX hbl hbA hw.S (x_inr rfl (show (i + 2) < L by omega) (by omega)) d_L_law_592 ?_
  refine x_vi (y := xs ((i + 2))) (congrArg xs (nI_clamp (by omega))) ?_
  refine lv_aload_n hx hb d_L_law_593 rfl (lv_at hl 0 rfl) ?_
  refine lv_iload hx hb d_L_law_594 (lv_at hl 4 rfl) ?_
  refine lv_iconst (v := nI 3) hx hb d_L_law_596 (by decide) ?_
  refine lv_iadd hx hb d_L_law_597 ?_
  refine x_vi (y := nI (i + 3)) (nI_add _ _) ?_
  refine va_sld hx hb hX hbl hbA hw.S (x_inr rfl (show (i + 3) < L by omega) (by omega)) d_L_law_598 ?_
  refine x_vi (y := xs ((i + 3))) (congrArg xs (nI_clamp (by omega))) ?_
  refine lv_aload_n hx hb d_L_law_599 rfl (lv_at hl 0 rfl) ?_
  refine lv_iload hx hb d_L_law_600 (lv_at hl 4 rfl) ?_
  refine lv_iconst (v := nI 4) hx hb d_L_law_602 (by decide) ?_
  refine lv_iadd hx hb d_L_law_603 ?_
  refine x_vi (y := nI (i + 4)) (nI_add _ _) ?_
  refine va_sld hx hb hX hbl hbA hw.S (x_inr rfl (show (i + 4) < L by omega) (by omega)) d_L_law_604 ?_
  refine x_vi (y := xs ((i + 4))) (congrArg xs (nI_clamp (by omega))) ?_
  refine lv_aload_n hx hb d_L_law_605 rfl (lv_at hl 0 rfl) ?_
  refine lv_iload hx hb d_L_law_606 (lv_at hl 4 rfl) ?_
  refine lv_iconst (v := nI 5) hx hb d_L_law_608 (by decide) ?_
  refine lv_iadd hx hb d_L_law_609 ?_
  refine x_vi (y := nI (i + 5)) (nI_add _ _) ?_
  refine va_sld hx hb hX hbl hbA hw.S (x_inr rfl (show (i + 5) < L by omega) (by omega)) d_L_law_610 ?_
  refine x_vi (y := xs ((i + 5))) (congrArg xs (nI_clamp (by omega))) ?_
  refine lv_aload_n hx hb d_L_law_611 rfl (lv_at hl 3 rfl) ?_
  refine x_callH hC (c_L_area l hfl G M1 (Array.size H) fz ad nu sg hR out ov hoo (xs (i + 1)) (xs (i + 2)) (xs (i + 3)) (xs (i + 4)) (xs (i + 5)) h8a hfm h_out) k_508 k_0 ⟨Nat.le_of_ble_eq_true rfl, Nat.le_of_ble_eq_true rfl⟩ ⟨(show 60 + 6 * i + 8 ≤ 601024 by omega), (show 7200 + 370 * i + 63 ≤ 7293034 by omega)⟩ hw hl.1 (Nat.le_of_ble_eq_true rfl) d_L_law_612 (x_ivSH hC k_508 k_506 k_507 k_0 (show _ ∧ _ ∧ _ = some 7 from by decide +kernel) rfl d_L_law_612) (fun rv M1 H locs hq hw => ?_) (fun _ _ _ _ _ h _ _ => h.elim)
  obtain ⟨rfl, ad', nu', sg', ov', q1, q7, q6, h_out', q5, qa, qb⟩ := hq
  have hM1 := hM.cfo q5 hds hos
  refine W.eq (g2 := F0 m 615 ls [.int (nI (areaK nu (xs (i + 1)) (xs (i + 2)) (xs (i + 3)) (xs (i + 4)) (xs (i + 5))))]) rfl ?_
  refine lv_istore (lv' := [(5, .int (nI (areaK nu (xs (i + 1)) (xs (i + 2)) (xs (i + 3)) (xs (i + 4)) (xs (i + 5))))), (0, .ref b), (1, .ref (ad 14 0)), (2, .ref md), (3, .ref out), (4, .int (nI i))]) hx hb d_L_law_615 hl (by decide) rfl (fun ls hl => ?_)
  refine lv_aload_n hx hb d_L_law_617 rfl (lv_at hl 3 rfl) ?_
  refine lv_aload_n hx hb d_L_law_618 rfl (lv_at hl 1 rfl) ?_
  refine lv_iload hx hb d_L_law_619 (lv_at hl 5 rfl) ?_
  refine lv_iconst (v := nI 1) hx hb d_L_law_621 (by decide) ?_
  refine lv_iadd hx hb d_L_law_622 ?_
  refine x_vi (y := nI (i + 1)) (nI_add _ _) ?_
  refine va_sld hx hb hX hbl hbA hw.S (x_inr rfl (show (i + 1) < L by omega) (by omega)) d_L_law_623 ?_
  refine x_vi (y := xs ((i + 1))) (congrArg xs (nI_clamp (by omega))) ?_
  refine lv_aload_n hx hb d_L_law_624 rfl (lv_at hl 1 rfl) ?_
  refine lv_iload hx hb d_L_law_625 (lv_at hl 5 rfl) ?_
  refine lv_iconst (v := nI 2) hx hb d_L_law_627 (by decide) ?_
  refine lv_iadd hx hb d_L_law_628 ?_
  refine x_vi (y := nI (i + 2)) (nI_add _ _) ?_
  refine va_sld hx hb hX hbl hbA hw.S (x_inr rfl (show (i + 2) < L by omega) (by omega)) d_L_law_629 ?_
  refine x_vi (y := xs ((i + 2))) (congrArg xs (nI_clamp (by omega))) ?_
  refine lv_aload_n hx hb d_L_law_630 rfl (lv_at hl 1 rfl) ?_
  refine lv_iload hx hb d_L_law_631 (lv_at hl 5 rfl) ?_
  refine lv_iconst (v := nI 3) hx hb d_L_law_633 (by decide) ?_
  refine lv_iadd hx hb d_L_law_634 ?_
  refine x_vi (y := nI (i + 3)) (nI_add _ _) ?_
  refine va_sld hx hb hX hbl hbA hw.S (x_inr rfl (show (i + 3) < L by omega) (by omega)) d_L_law_635 ?_
  refine x_vi (y := xs ((i + 3))) (congrArg xs (nI_clamp (by omega))) ?_
  refine lv_aload_n hx hb d_L_law_636 rfl (lv_at hl 1 rfl) ?_
  refine lv_iload hx hb d_L_law_637 (lv_at hl 5 rfl) ?_
  refine lv_iconst (v := nI 4) hx hb d_L_law_639 (by decide) ?_
  refine lv_iadd hx hb d_L_law_640 ?_
  refine x_vi (y := nI (i + 4)) (nI_add _ _) ?_
  refine va_sld hx hb hX hbl hbA hw.S (x_inr rfl (show (i + 4) < L by omega) (by omega)) d_L_law_641 ?_
  refine x_vi (y := xs ((i + 4))) (congrArg xs (nI_clamp (by omega))) ?_
  refine lv_aload_n hx hb d_L_law_642 rfl (lv_at hl 1 rfl) ?_
  refine lv_iload hx hb d_L_law_643 (lv_at hl 5 rfl) ?_
  refine lv_iconst (v := nI 5) hx hb d_L_law_645 (by decide) ?_
  refine lv_iadd hx hb d_L_law_646 ?_
  refine x_vi (y := nI (i + 5)) (nI_add _ _) ?_
  refine va_sld hx hb hX hbl hbA hw.S (x_inr rfl (show (i + 5) < L by omega) (by omega)) d_L_law_647 ?_
  refine x_vi (y := xs ((i + 5))) (congrArg xs (nI_clamp (by omega))) ?_
  refine x_callG hC (c_M_area l G M1 (Array.size H) md am nu sg hM1 (xs (i + 1)) (xs (i + 2)) (xs (i + 3)) (xs (i + 4)) (xs (i + 5)) h8a) k_874 k_13 ⟨Nat.le_of_ble_eq_true rfl, Nat.le_of_ble_eq_true rfl⟩ ⟨(show 60 + 6 * i + 8 ≤ 601024 by omega), (show 7200 + 370 * i + 63 ≤ 7293034 by omega)⟩ hw hl.1 (Nat.le_of_ble_eq_true rfl) d_L_law_648 (x_ivV hC k_874 k_871 k_872 k_873 (show _ ∧ _ ∧ _ = some 5 from by decide +kernel) (x_recv hC hw hM1.1 rfl) rfl d_L_law_648) (fun rv M2 H locs hq hw => ?_) (fun _ _ _ _ _ h _ _ => h.elim)
  obtain ⟨rfl, nu2, sg2, hm, mN, mS, fr, mK, m0, m1⟩ := hq
  refine W.eq (g2 := F0 m 651 ls [.int (nI (kt (areaK nu (xs (i + 1)) (xs (i + 2)) (xs (i + 3)) (xs (i + 4)) (xs (i + 5)) = 0) (nu 15 0 + 1) 0))]) rfl ?_
  have hfin : lawI G M2 fz ad' md out am nu2 sg2 ov' := by
    by_cases hz9 : areaK nu (xs (i + 1)) (xs (i + 2)) (xs (i + 3)) (xs (i + 4)) (xs (i + 5)) = 0
    · have hcf := (qa hz9).2
      have hmf := m0 hz9
      have hfm' : ∀ u, u < nu' 7 0 → nu' 9 u < nu' 6 0 := by rw [hcf.1 7 (by decide), hcf.1 9 (by decide), hcf.1 6 (by decide)]; exact hfm
      have htr := tr_area hcf.2.2 hmf hcf.1 hcf.2.1 mN mS
      exact law_step (x_fz0 hC hw hI.1.2.1.1) hI q1 q6 h_out' q5 hm fr (fun M9 hc9 => hc9.to hfm' htr) htr.rng (ok_area ok mN mS hmf.1 (areaK_z h8a hz9))
    · obtain ⟨rfl, rfl⟩ := qb hz9
      obtain ⟨s1, rfl⟩ := m1 hz9
      exact law_step (x_fz0 hC hw hI.1.2.1.1) hI q1 q6 h_out' q5 hm fr (fun M9 hc9 => hc9.to hfm (trP_0 s1)) (rng_eqx s1 (by decide)) (okS_0 ok s1)
  refine lv_istore (lv' := [(6, .int (nI (kt (areaK nu (xs (i + 1)) (xs (i + 2)) (xs (i + 3)) (xs (i + 4)) (xs (i + 5)) = 0) (nu 15 0 + 1) 0))), (5, .int (nI (areaK nu (xs (i + 1)) (xs (i + 2)) (xs (i + 3)) (xs (i + 4)) (xs (i + 5))))), (0, .ref b), (1, .ref (ad 14 0)), (2, .ref md), (3, .ref out), (4, .int (nI i))]) hx hb d_L_law_651 hl (by decide) rfl (fun ls hl => ?_)
  refine lv_aload_n hx hb d_L_law_653 rfl (lv_at hl 4 rfl) ?_
  refine x_callG hC (c_M_thrown l G M2 (Array.size H) md am nu2 sg2 hm) k_835 k_13 ⟨Nat.le_of_ble_eq_true rfl, Nat.le_of_ble_eq_true rfl⟩ ⟨(show 60 + 6 * i + 8 ≤ 601024 by omega), (show 7200 + 370 * i + 63 ≤ 7293034 by omega)⟩ hw hl.1 (Nat.le_of_ble_eq_true rfl) d_L_law_654 (x_ivV hC k_835 k_832 k_833 k_834 (show _ ∧ _ ∧ _ = some 0 from by decide +kernel) (x_recv hC hw hm.1 rfl) rfl d_L_law_654) (fun rv M3 H locs hq hw => ?_) (fun _ _ _ _ _ h _ _ => h.elim)
  obtain ⟨rfl, hMe⟩ := hq
  subst M3
  refine W.eq (g2 := F0 m 657 ls [.int (nI (nu2 0 0))]) rfl ?_
  refine x_vi (y := nI (areaK nu (xs (i + 1)) (xs (i + 2)) (xs (i + 3)) (xs (i + 4)) (xs (i + 5)))) (congrArg nI mK) ?_
  refine lv_iload hx hb d_L_law_657 (lv_at hl 1 rfl) ?_
  refine lv_icmp_eq (tgt := 664) hx hb d_L_law_659 (by decide) (fun _ => ?_) (fun z => absurd rfl z)
  refine lv_iload hx hb d_L_law_664 (lv_at hl 1 rfl) ?_
  have hKle : areaK nu (xs (i + 1)) (xs (i + 2)) (xs (i + 3)) (xs (i + 4)) (xs (i + 5)) ≤ 3 := kt_le3 (by decide) (kt_le3 (by decide) (kt_le3 (by decide) (by decide)))
  refine lv_if_ne (tgt := 681) hx hb d_L_law_666 (by decide) (fun hz8 => ?_) (fun hz8 => ?_)
  · refine lv_goto (tgt := 1244) hx hb d_L_law_681 (by decide) ?_
    refine lv_iinc (v := nI (i + 6)) (lv' := [(4, .int (nI (i + 6))), (6, .int (nI (kt (areaK nu (xs (i + 1)) (xs (i + 2)) (xs (i + 3)) (xs (i + 4)) (xs (i + 5)) = 0) (nu 15 0 + 1) 0))), (5, .int (nI (areaK nu (xs (i + 1)) (xs (i + 2)) (xs (i + 3)) (xs (i + 4)) (xs (i + 5))))), (0, .ref b), (1, .ref (ad 14 0)), (2, .ref md), (3, .ref out)]) hx hb d_L_law_1244 hl (k := 6) rfl (by exact nI_add _ 6) (by decide) rfl (fun ls hl => ?_)
    refine lv_goto (tgt := 23) hx hb d_L_law_1247 (by decide) ?_
    exact W.widen (show 60 + 6 * i + 8 ≤ 60 + 6 * (i + 6) by omega) (show 7200 + 370 * i + 63 ≤ 7200 + 370 * (i + 6) by omega) (hNext _ _ _ _ _ _ _ _ hfin q7 hw (lv_sub hl [3, 4, 5, 6, 0] rfl))
  · have hz9 : areaK nu (xs (i + 1)) (xs (i + 2)) (xs (i + 3)) (xs (i + 4)) (xs (i + 5)) = 0 := (K0 hKle).mp hz8
    have ho3 := hfin.2.2.2.1
    refine lv_aload_n hx hb d_L_law_669 rfl (lv_at hl 5 rfl) ?_
    refine lv_iconst (v := nI 0) hx hb d_L_law_670 (by decide) ?_
    refine x_lald (j := 0) hC hw ho3 rfl (rfl) (by omega) (by omega) d_L_law_671 ?_
    refine lv_iload hx hb d_L_law_672 (lv_at hl 0 rfl) ?_
    refine lv_i2l (v := Int32.toInt64 (nI (kt (areaK nu (xs (i + 1)) (xs (i + 2)) (xs (i + 3)) (xs (i + 4)) (xs (i + 5)) = 0) (nu 15 0 + 1) 0))) hx hb d_L_law_674 rfl ?_
    refine W.lcmp hx hb d_L_law_675 ?_
    refine lv_if_eq (tgt := 681) hx hb d_L_law_676 (by decide) (fun _ => ?_) (fun z => absurd (x_lcmp.mpr (by rw [(qa hz9).1, kt_t hz9])) z)
    refine lv_goto (tgt := 1244) hx hb d_L_law_681 (by decide) ?_
    refine lv_iinc (v := nI (i + 6)) (lv' := [(4, .int (nI (i + 6))), (6, .int (nI (kt (areaK nu (xs (i + 1)) (xs (i + 2)) (xs (i + 3)) (xs (i + 4)) (xs (i + 5)) = 0) (nu 15 0 + 1) 0))), (5, .int (nI (areaK nu (xs (i + 1)) (xs (i + 2)) (xs (i + 3)) (xs (i + 4)) (xs (i + 5))))), (0, .ref b), (1, .ref (ad 14 0)), (2, .ref md), (3, .ref out)]) hx hb d_L_law_1244 hl (k := 6) rfl (by exact nI_add _ 6) (by decide) rfl (fun ls hl => ?_)
    refine lv_goto (tgt := 23) hx hb d_L_law_1247 (by decide) ?_
    exact W.widen (show 60 + 6 * i + 8 ≤ 60 + 6 * (i + 6) by omega) (show 7200 + 370 * i + 63 ≤ 7200 + 370 * (i + 6) by omega) (hNext _ _ _ _ _ _ _ _ hfin q7 hw (lv_sub hl [3, 4, 5, 6, 0] rfl))
set_option maxHeartbeats 1000000 in
set_option maxRecDepth 100000 in
theorem l_case_7 {p : Program} {l : Launch} (hfl : l.flags = flags0) {e : Env} {s : State} {m : MethodId} {below : List Frame} {meth : Method} {c : Code} {G : xT} {M : xMem} {sz : Nat} {b L : Nat} {xs : Nat → Int32} {rc md out fz : Nat} {am : Nat → Nat} (hC : xC p s m ([.ref b] : List Value).toArray meth c b_L_law y_L_law.cls 7 G (xA M sz)) (hX : va_X b L xs s s.heap) (hbl : b < s.heap.size) (hbA : ¬ xA M sz b) {i : Nat} (hi : i + 6 ≤ L) (hL : L ≤ 3072) {Q : State → Prop}
    (hNext : ∀ (M1 : xMem) (ad : Nat → Nat → Nat) (nu : Nat → Nat → Nat) (sg : Nat → Nat → Int32) (ov : Nat → Int64) (H : Heap) (locs : List Loc) (ls : Array Slot), lawI G M1 fz ad md out am nu sg ov → ad 14 0 = rc → xWd G (xA M sz) s.heap M1 H locs → lv_has ls 7 [(0, .ref b), (1, .ref rc), (2, .ref md), (3, .ref out), (4, .int (nI (i + 6)))] → W p l e { frames := 13, cells := 601024, slots := 7293034, locals := 488 } s m ([.ref b] : List Value).toArray below meth c H locs (60 + 6 * (i + 6)) (7200 + 370 * (i + 6)) Q (F0 m 23 ls []))
    (M1 : xMem) (ad : Nat → Nat → Nat) (nu : Nat → Nat → Nat) (sg : Nat → Nat → Int32) (ov : Nat → Int64) (H : Heap) (locs : List Loc) (ls : Array Slot) (hI : lawI G M1 fz ad md out am nu sg ov) (h14 : ad 14 0 = rc) (hw : xWd G (xA M sz) s.heap M1 H locs) (hl : lv_has ls 7 [(0, .ref b), (1, .ref rc), (2, .ref md), (3, .ref out), (4, .int (nI i))]) : W p l e { frames := 13, cells := 601024, slots := 7293034, locals := 488 } s m ([.ref b] : List Value).toArray below meth c H locs (60 + 6 * i) (7200 + 370 * i) Q (F0 m 684 ls []) := by
  subst h14
  obtain ⟨hR, hM, ok, h_out, hoo, hos, hds⟩ := id hI
  obtain ⟨h20, h12, h4, h8a, hst8, h100, h40, h8, h60, hfm, hen, hok, hpg, hlt, hf0, hw0, ht0, hu9⟩ := id ok
  obtain ⟨hx, hb, hown, hts, hK9, hml, hlk, hz⟩ := id hC
  refine lv_aload_n hx hb d_L_law_684 rfl (lv_at hl 1 rfl) ?_
  refine lv_aload_n hx hb d_L_law_685 rfl (lv_at hl 0 rfl) ?_
  refine lv_iload hx hb d_L_law_686 (lv_at hl 4 rfl) ?_
  refine lv_iconst (v := nI 1) hx hb d_L_law_688 (by decide) ?_
  refine lv_iadd hx hb d_L_law_689 ?_
  refine x_vi (y := nI (i + 1)) (nI_add _ _) ?_
  refine va_sld hx hb hX hbl hbA hw.S (x_inr rfl (show (i + 1) < L by omega) (by omega)) d_L_law_690 ?_
  refine x_vi (y := xs ((i + 1))) (congrArg xs (nI_clamp (by omega))) ?_
  refine lv_aload_n hx hb d_L_law_691 rfl (lv_at hl 3 rfl) ?_
  refine x_callH hC (c_L_store l hfl G M1 (Array.size H) fz ad nu sg hR out ov hoo (xs (i + 1)) hst8 ht0 hfm h_out) k_538 k_0 ⟨Nat.le_of_ble_eq_true rfl, Nat.le_of_ble_eq_true rfl⟩ ⟨(show 60 + 6 * i + 5 ≤ 601024 by omega), (show 7200 + 370 * i + 97 ≤ 7293034 by omega)⟩ hw hl.1 (Nat.le_of_ble_eq_true rfl) d_L_law_692 (x_ivSH hC k_538 k_536 k_537 k_0 (show _ ∧ _ ∧ _ = some 3 from by decide +kernel) rfl d_L_law_692) (fun rv M1 H locs hq hw => ?_) (fun _ _ _ _ _ h _ _ => h.elim)
  obtain ⟨rfl, ad', nu', sg', ov', q1, q7, q6, h_out', q5, qa, qb⟩ := hq
  have hM1 := hM.cfo q5 hds hos
  refine W.eq (g2 := F0 m 695 ls [.int (nI (storeK nu (xs (i + 1))))]) rfl ?_
  refine lv_istore (lv' := [(5, .int (nI (storeK nu (xs (i + 1))))), (0, .ref b), (1, .ref (ad 14 0)), (2, .ref md), (3, .ref out), (4, .int (nI i))]) hx hb d_L_law_695 hl (by decide) rfl (fun ls hl => ?_)
  refine lv_aload_n hx hb d_L_law_697 rfl (lv_at hl 3 rfl) ?_
  refine lv_aload_n hx hb d_L_law_698 rfl (lv_at hl 1 rfl) ?_
  refine lv_iload hx hb d_L_law_699 (lv_at hl 5 rfl) ?_
  refine lv_iconst (v := nI 1) hx hb d_L_law_701 (by decide) ?_
  refine lv_iadd hx hb d_L_law_702 ?_
  refine x_vi (y := nI (i + 1)) (nI_add _ _) ?_
  refine va_sld hx hb hX hbl hbA hw.S (x_inr rfl (show (i + 1) < L by omega) (by omega)) d_L_law_703 ?_
  refine x_vi (y := xs ((i + 1))) (congrArg xs (nI_clamp (by omega))) ?_
  refine x_callG hC (c_M_store l G M1 (Array.size H) md am nu sg hM1 (xs (i + 1)) hst8) k_878 k_13 ⟨Nat.le_of_ble_eq_true rfl, Nat.le_of_ble_eq_true rfl⟩ ⟨(show 60 + 6 * i + 5 ≤ 601024 by omega), (show 7200 + 370 * i + 97 ≤ 7293034 by omega)⟩ hw hl.1 (Nat.le_of_ble_eq_true rfl) d_L_law_704 (x_ivV hC k_878 k_875 k_876 k_877 (show _ ∧ _ ∧ _ = some 1 from by decide +kernel) (x_recv hC hw hM1.1 rfl) rfl d_L_law_704) (fun rv M2 H locs hq hw => ?_) (fun _ _ _ _ _ h _ _ => h.elim)
  obtain ⟨rfl, nu2, sg2, hm, mN, mS, fr, mK, m0, m1⟩ := hq
  refine W.eq (g2 := F0 m 707 ls [.int (nI (kt (storeK nu (xs (i + 1)) = 0) (nu 21 0) 0))]) rfl ?_
  have hfin : lawI G M2 fz ad' md out am nu2 sg2 ov' := by
    by_cases hz9 : storeK nu (xs (i + 1)) = 0
    · have hcf := (qa hz9).2
      have hmf := m0 hz9
      have hzz := storeK_z hst8 hz9
      have hmf2 := hmf
      rw [hzz.1.1] at hmf2
      have hfm' : ∀ u, u < nu' 7 0 → nu' 9 u < nu' 6 0 := by rw [hcf.1 7 (by decide), hcf.1 9 (by decide), hcf.1 6 (by decide)]; exact hfm
      have htr := tr_store hcf.2.2 hmf hcf.1 hcf.2.1 mN mS
      exact law_step (x_fz0 hC hw hI.1.2.1.1) hI q1 q6 h_out' q5 hm fr (fun M9 hc9 => hc9.to hfm' htr) htr.rng (ok_store ok mN mS hzz.1.2 hmf2 hzz.2)
    · obtain ⟨rfl, rfl⟩ := qb hz9
      obtain ⟨s1, rfl⟩ := m1 hz9
      exact law_step (x_fz0 hC hw hI.1.2.1.1) hI q1 q6 h_out' q5 hm fr (fun M9 hc9 => hc9.to hfm (trP_0 s1)) (rng_eqx s1 (by decide)) (okS_0 ok s1)
  refine lv_istore (lv' := [(6, .int (nI (kt (storeK nu (xs (i + 1)) = 0) (nu 21 0) 0))), (5, .int (nI (storeK nu (xs (i + 1))))), (0, .ref b), (1, .ref (ad 14 0)), (2, .ref md), (3, .ref out), (4, .int (nI i))]) hx hb d_L_law_707 hl (by decide) rfl (fun ls hl => ?_)
  refine lv_aload_n hx hb d_L_law_709 rfl (lv_at hl 4 rfl) ?_
  refine x_callG hC (c_M_thrown l G M2 (Array.size H) md am nu2 sg2 hm) k_835 k_13 ⟨Nat.le_of_ble_eq_true rfl, Nat.le_of_ble_eq_true rfl⟩ ⟨(show 60 + 6 * i + 5 ≤ 601024 by omega), (show 7200 + 370 * i + 97 ≤ 7293034 by omega)⟩ hw hl.1 (Nat.le_of_ble_eq_true rfl) d_L_law_710 (x_ivV hC k_835 k_832 k_833 k_834 (show _ ∧ _ ∧ _ = some 0 from by decide +kernel) (x_recv hC hw hm.1 rfl) rfl d_L_law_710) (fun rv M3 H locs hq hw => ?_) (fun _ _ _ _ _ h _ _ => h.elim)
  obtain ⟨rfl, hMe⟩ := hq
  subst M3
  refine W.eq (g2 := F0 m 713 ls [.int (nI (nu2 0 0))]) rfl ?_
  refine x_vi (y := nI (storeK nu (xs (i + 1)))) (congrArg nI mK) ?_
  refine lv_iload hx hb d_L_law_713 (lv_at hl 1 rfl) ?_
  refine lv_icmp_eq (tgt := 720) hx hb d_L_law_715 (by decide) (fun _ => ?_) (fun z => absurd rfl z)
  refine lv_iload hx hb d_L_law_720 (lv_at hl 1 rfl) ?_
  have hKle : storeK nu (xs (i + 1)) ≤ 3 := kt_le3 (by decide) (kt_le3 (by decide) (by decide))
  refine lv_if_ne (tgt := 737) hx hb d_L_law_722 (by decide) (fun hz8 => ?_) (fun hz8 => ?_)
  · refine lv_goto (tgt := 1244) hx hb d_L_law_737 (by decide) ?_
    refine lv_iinc (v := nI (i + 6)) (lv' := [(4, .int (nI (i + 6))), (6, .int (nI (kt (storeK nu (xs (i + 1)) = 0) (nu 21 0) 0))), (5, .int (nI (storeK nu (xs (i + 1))))), (0, .ref b), (1, .ref (ad 14 0)), (2, .ref md), (3, .ref out)]) hx hb d_L_law_1244 hl (k := 6) rfl (by exact nI_add _ 6) (by decide) rfl (fun ls hl => ?_)
    refine lv_goto (tgt := 23) hx hb d_L_law_1247 (by decide) ?_
    exact W.widen (show 60 + 6 * i + 5 ≤ 60 + 6 * (i + 6) by omega) (show 7200 + 370 * i + 97 ≤ 7200 + 370 * (i + 6) by omega) (hNext _ _ _ _ _ _ _ _ hfin q7 hw (lv_sub hl [3, 4, 5, 6, 0] rfl))
  · have hz9 : storeK nu (xs (i + 1)) = 0 := (K0 hKle).mp hz8
    have ho3 := hfin.2.2.2.1
    refine lv_aload_n hx hb d_L_law_725 rfl (lv_at hl 5 rfl) ?_
    refine lv_iconst (v := nI 0) hx hb d_L_law_726 (by decide) ?_
    refine x_lald (j := 0) hC hw ho3 rfl (rfl) (by omega) (by omega) d_L_law_727 ?_
    refine lv_iload hx hb d_L_law_728 (lv_at hl 0 rfl) ?_
    refine lv_i2l (v := Int32.toInt64 (nI (kt (storeK nu (xs (i + 1)) = 0) (nu 21 0) 0))) hx hb d_L_law_730 rfl ?_
    refine W.lcmp hx hb d_L_law_731 ?_
    refine lv_if_eq (tgt := 737) hx hb d_L_law_732 (by decide) (fun _ => ?_) (fun z => absurd (x_lcmp.mpr (by rw [(qa hz9).1, kt_t hz9])) z)
    refine lv_goto (tgt := 1244) hx hb d_L_law_737 (by decide) ?_
    refine lv_iinc (v := nI (i + 6)) (lv' := [(4, .int (nI (i + 6))), (6, .int (nI (kt (storeK nu (xs (i + 1)) = 0) (nu 21 0) 0))), (5, .int (nI (storeK nu (xs (i + 1))))), (0, .ref b), (1, .ref (ad 14 0)), (2, .ref md), (3, .ref out)]) hx hb d_L_law_1244 hl (k := 6) rfl (by exact nI_add _ 6) (by decide) rfl (fun ls hl => ?_)
    refine lv_goto (tgt := 23) hx hb d_L_law_1247 (by decide) ?_
    exact W.widen (show 60 + 6 * i + 5 ≤ 60 + 6 * (i + 6) by omega) (show 7200 + 370 * i + 97 ≤ 7200 + 370 * (i + 6) by omega) (hNext _ _ _ _ _ _ _ _ hfin q7 hw (lv_sub hl [3, 4, 5, 6, 0] rfl))
set_option maxHeartbeats 1000000 in
set_option maxRecDepth 100000 in
theorem l_case_8 {p : Program} {l : Launch} (hfl : l.flags = flags0) {e : Env} {s : State} {m : MethodId} {below : List Frame} {meth : Method} {c : Code} {G : xT} {M : xMem} {sz : Nat} {b L : Nat} {xs : Nat → Int32} {rc md out fz : Nat} {am : Nat → Nat} (hC : xC p s m ([.ref b] : List Value).toArray meth c b_L_law y_L_law.cls 7 G (xA M sz)) (hX : va_X b L xs s s.heap) (hbl : b < s.heap.size) (hbA : ¬ xA M sz b) {i : Nat} (hi : i + 6 ≤ L) (hL : L ≤ 3072) {Q : State → Prop}
    (hNext : ∀ (M1 : xMem) (ad : Nat → Nat → Nat) (nu : Nat → Nat → Nat) (sg : Nat → Nat → Int32) (ov : Nat → Int64) (H : Heap) (locs : List Loc) (ls : Array Slot), lawI G M1 fz ad md out am nu sg ov → ad 14 0 = rc → xWd G (xA M sz) s.heap M1 H locs → lv_has ls 7 [(0, .ref b), (1, .ref rc), (2, .ref md), (3, .ref out), (4, .int (nI (i + 6)))] → W p l e { frames := 13, cells := 601024, slots := 7293034, locals := 488 } s m ([.ref b] : List Value).toArray below meth c H locs (60 + 6 * (i + 6)) (7200 + 370 * (i + 6)) Q (F0 m 23 ls []))
    (M1 : xMem) (ad : Nat → Nat → Nat) (nu : Nat → Nat → Nat) (sg : Nat → Nat → Int32) (ov : Nat → Int64) (H : Heap) (locs : List Loc) (ls : Array Slot) (hI : lawI G M1 fz ad md out am nu sg ov) (h14 : ad 14 0 = rc) (hw : xWd G (xA M sz) s.heap M1 H locs) (hl : lv_has ls 7 [(0, .ref b), (1, .ref rc), (2, .ref md), (3, .ref out), (4, .int (nI i))]) : W p l e { frames := 13, cells := 601024, slots := 7293034, locals := 488 } s m ([.ref b] : List Value).toArray below meth c H locs (60 + 6 * i) (7200 + 370 * i) Q (F0 m 740 ls []) := by
  subst h14
  obtain ⟨hR, hM, ok, h_out, hoo, hos, hds⟩ := id hI
  obtain ⟨h20, h12, h4, h8a, hst8, h100, h40, h8, h60, hfm, hen, hok, hpg, hlt, hf0, hw0, ht0, hu9⟩ := id ok
  obtain ⟨hx, hb, hown, hts, hK9, hml, hlk, hz⟩ := id hC
  refine lv_aload_n hx hb d_L_law_740 rfl (lv_at hl 1 rfl) ?_
  refine lv_aload_n hx hb d_L_law_741 rfl (lv_at hl 0 rfl) ?_
  refine lv_iload hx hb d_L_law_742 (lv_at hl 4 rfl) ?_
  refine lv_iconst (v := nI 1) hx hb d_L_law_744 (by decide) ?_
  refine lv_iadd hx hb d_L_law_745 ?_
  refine x_vi (y := nI (i + 1)) (nI_add _ _) ?_
  refine va_sld hx hb hX hbl hbA hw.S (x_inr rfl (show (i + 1) < L by omega) (by omega)) d_L_law_746 ?_
  refine x_vi (y := xs ((i + 1))) (congrArg xs (nI_clamp (by omega))) ?_
  refine lv_aload_n hx hb d_L_law_747 rfl (lv_at hl 0 rfl) ?_
  refine lv_iload hx hb d_L_law_748 (lv_at hl 4 rfl) ?_
  refine lv_iconst (v := nI 2) hx hb d_L_law_750 (by decide) ?_
  refine lv_iadd hx hb d_L_law_751 ?_
  refine x_vi (y := nI (i + 2)) (nI_add _ _) ?_
  refine va_sld hx hb hX hbl hbA hw.S (x_inr rfl (show (i + 2) < L by omega) (by omega)) d_L_law_752 ?_
  refine x_vi (y := xs ((i + 2))) (congrArg xs (nI_clamp (by omega))) ?_
  refine lv_i2b (v := (Int32.toInt8 (xs ((i + 2)))).toInt32) hx hb d_L_law_753 rfl ?_
  refine lv_aload_n hx hb d_L_law_754 rfl (lv_at hl 3 rfl) ?_
  refine x_callH hC (c_L_octet l hfl G M1 (Array.size H) fz ad nu sg hR out ov hoo (xs (i + 1)) ((Int32.toInt8 (xs (i + 2))).toInt32) (x_i2bV _) hst8 h60 hfm h_out) k_561 k_0 ⟨Nat.le_of_ble_eq_true rfl, Nat.le_of_ble_eq_true rfl⟩ ⟨(show 60 + 6 * i + 2 ≤ 601024 by omega), (show 7200 + 370 * i + 12 ≤ 7293034 by omega)⟩ hw hl.1 (Nat.le_of_ble_eq_true rfl) d_L_law_755 (x_ivSH hC k_561 k_559 k_560 k_0 (show _ ∧ _ ∧ _ = some 4 from by decide +kernel) rfl d_L_law_755) (fun rv M1 H locs hq hw => ?_) (fun _ _ _ _ _ h _ _ => h.elim)
  obtain ⟨rfl, ad', nu', sg', ov', q1, q7, q6, h_out', q5, qa, qb⟩ := hq
  have hM1 := hM.cfo q5 hds hos
  refine W.eq (g2 := F0 m 758 ls [.int (nI (octetK nu (xs (i + 1))))]) rfl ?_
  refine lv_istore (lv' := [(5, .int (nI (octetK nu (xs (i + 1))))), (0, .ref b), (1, .ref (ad 14 0)), (2, .ref md), (3, .ref out), (4, .int (nI i))]) hx hb d_L_law_758 hl (by decide) rfl (fun ls hl => ?_)
  refine lv_aload_n hx hb d_L_law_760 rfl (lv_at hl 3 rfl) ?_
  refine lv_aload_n hx hb d_L_law_761 rfl (lv_at hl 1 rfl) ?_
  refine lv_iload hx hb d_L_law_762 (lv_at hl 5 rfl) ?_
  refine lv_iconst (v := nI 1) hx hb d_L_law_764 (by decide) ?_
  refine lv_iadd hx hb d_L_law_765 ?_
  refine x_vi (y := nI (i + 1)) (nI_add _ _) ?_
  refine va_sld hx hb hX hbl hbA hw.S (x_inr rfl (show (i + 1) < L by omega) (by omega)) d_L_law_766 ?_
  refine x_vi (y := xs ((i + 1))) (congrArg xs (nI_clamp (by omega))) ?_
  refine lv_aload_n hx hb d_L_law_767 rfl (lv_at hl 1 rfl) ?_
  refine lv_iload hx hb d_L_law_768 (lv_at hl 5 rfl) ?_
  refine lv_iconst (v := nI 2) hx hb d_L_law_770 (by decide) ?_
  refine lv_iadd hx hb d_L_law_771 ?_
  refine x_vi (y := nI (i + 2)) (nI_add _ _) ?_
  refine va_sld hx hb hX hbl hbA hw.S (x_inr rfl (show (i + 2) < L by omega) (by omega)) d_L_law_772 ?_
  refine x_vi (y := xs ((i + 2))) (congrArg xs (nI_clamp (by omega))) ?_
  refine lv_i2b (v := (Int32.toInt8 (xs ((i + 2)))).toInt32) hx hb d_L_law_773 rfl ?_
  refine x_callG hC (c_M_octet l G M1 (Array.size H) md am nu sg hM1 (xs (i + 1)) ((Int32.toInt8 (xs (i + 2))).toInt32) hst8 h60) k_882 k_13 ⟨Nat.le_of_ble_eq_true rfl, Nat.le_of_ble_eq_true rfl⟩ ⟨(show 60 + 6 * i + 2 ≤ 601024 by omega), (show 7200 + 370 * i + 12 ≤ 7293034 by omega)⟩ hw hl.1 (Nat.le_of_ble_eq_true rfl) d_L_law_774 (x_ivV hC k_882 k_879 k_880 k_881 (show _ ∧ _ ∧ _ = some 2 from by decide +kernel) (x_recv hC hw hM1.1 rfl) rfl d_L_law_774) (fun rv M2 H locs hq hw => ?_) (fun _ _ _ _ _ h _ _ => h.elim)
  obtain ⟨rfl, nu2, sg2, hm, mN, mS, fr, mK, m0, m1⟩ := hq
  refine W.eq (g2 := F0 m 777 ls [.int (nI (kt (octetK nu (xs (i + 1)) = 0) (nu 23 (cN (xs (i + 1))) + 1) 0))]) rfl ?_
  have hfin : lawI G M2 fz ad' md out am nu2 sg2 ov' := by
    by_cases hz9 : octetK nu (xs (i + 1)) = 0
    · have hcf := (qa hz9).2
      have hmf := m0 hz9
      have hzz := octetK_z h60 hz9
      have hfm' : ∀ u, u < nu' 7 0 → nu' 9 u < nu' 6 0 := by rw [hcf.1 7 (by decide), hcf.1 9 (by decide), hcf.1 6 (by decide)]; exact hfm
      have htr := tr_octet hcf.2.2 hmf hcf.1 hcf.2.1 mN mS
      exact law_step (x_fz0 hC hw hI.1.2.1.1) hI q1 q6 h_out' q5 hm fr (fun M9 hc9 => hc9.to hfm' htr) htr.rng (ok_octet ok mN mS (x_i2bV _) hmf hzz.1 hzz.2)
    · obtain ⟨rfl, rfl⟩ := qb hz9
      obtain ⟨s1, rfl⟩ := m1 hz9
      exact law_step (x_fz0 hC hw hI.1.2.1.1) hI q1 q6 h_out' q5 hm fr (fun M9 hc9 => hc9.to hfm (trP_0 s1)) (rng_eqx s1 (by decide)) (okS_0 ok s1)
  refine lv_istore (lv' := [(6, .int (nI (kt (octetK nu (xs (i + 1)) = 0) (nu 23 (cN (xs (i + 1))) + 1) 0))), (5, .int (nI (octetK nu (xs (i + 1))))), (0, .ref b), (1, .ref (ad 14 0)), (2, .ref md), (3, .ref out), (4, .int (nI i))]) hx hb d_L_law_777 hl (by decide) rfl (fun ls hl => ?_)
  refine lv_aload_n hx hb d_L_law_779 rfl (lv_at hl 4 rfl) ?_
  refine x_callG hC (c_M_thrown l G M2 (Array.size H) md am nu2 sg2 hm) k_835 k_13 ⟨Nat.le_of_ble_eq_true rfl, Nat.le_of_ble_eq_true rfl⟩ ⟨(show 60 + 6 * i + 2 ≤ 601024 by omega), (show 7200 + 370 * i + 12 ≤ 7293034 by omega)⟩ hw hl.1 (Nat.le_of_ble_eq_true rfl) d_L_law_780 (x_ivV hC k_835 k_832 k_833 k_834 (show _ ∧ _ ∧ _ = some 0 from by decide +kernel) (x_recv hC hw hm.1 rfl) rfl d_L_law_780) (fun rv M3 H locs hq hw => ?_) (fun _ _ _ _ _ h _ _ => h.elim)
  obtain ⟨rfl, hMe⟩ := hq
  subst M3
  refine W.eq (g2 := F0 m 783 ls [.int (nI (nu2 0 0))]) rfl ?_
  refine x_vi (y := nI (octetK nu (xs (i + 1)))) (congrArg nI mK) ?_
  refine lv_iload hx hb d_L_law_783 (lv_at hl 1 rfl) ?_
  refine lv_icmp_eq (tgt := 790) hx hb d_L_law_785 (by decide) (fun _ => ?_) (fun z => absurd rfl z)
  refine lv_iload hx hb d_L_law_790 (lv_at hl 1 rfl) ?_
  have hKle : octetK nu (xs (i + 1)) ≤ 3 := kt_le3 (by decide) (kt_le3 (by decide) (by decide))
  refine lv_if_ne (tgt := 807) hx hb d_L_law_792 (by decide) (fun hz8 => ?_) (fun hz8 => ?_)
  · refine lv_goto (tgt := 1244) hx hb d_L_law_807 (by decide) ?_
    refine lv_iinc (v := nI (i + 6)) (lv' := [(4, .int (nI (i + 6))), (6, .int (nI (kt (octetK nu (xs (i + 1)) = 0) (nu 23 (cN (xs (i + 1))) + 1) 0))), (5, .int (nI (octetK nu (xs (i + 1))))), (0, .ref b), (1, .ref (ad 14 0)), (2, .ref md), (3, .ref out)]) hx hb d_L_law_1244 hl (k := 6) rfl (by exact nI_add _ 6) (by decide) rfl (fun ls hl => ?_)
    refine lv_goto (tgt := 23) hx hb d_L_law_1247 (by decide) ?_
    exact W.widen (show 60 + 6 * i + 2 ≤ 60 + 6 * (i + 6) by omega) (show 7200 + 370 * i + 12 ≤ 7200 + 370 * (i + 6) by omega) (hNext _ _ _ _ _ _ _ _ hfin q7 hw (lv_sub hl [3, 4, 5, 6, 0] rfl))
  · have hz9 : octetK nu (xs (i + 1)) = 0 := (K0 hKle).mp hz8
    have ho3 := hfin.2.2.2.1
    refine lv_aload_n hx hb d_L_law_795 rfl (lv_at hl 5 rfl) ?_
    refine lv_iconst (v := nI 0) hx hb d_L_law_796 (by decide) ?_
    refine x_lald (j := 0) hC hw ho3 rfl (rfl) (by omega) (by omega) d_L_law_797 ?_
    refine lv_iload hx hb d_L_law_798 (lv_at hl 0 rfl) ?_
    refine lv_i2l (v := Int32.toInt64 (nI (kt (octetK nu (xs (i + 1)) = 0) (nu 23 (cN (xs (i + 1))) + 1) 0))) hx hb d_L_law_800 rfl ?_
    refine W.lcmp hx hb d_L_law_801 ?_
    refine lv_if_eq (tgt := 807) hx hb d_L_law_802 (by decide) (fun _ => ?_) (fun z => absurd (x_lcmp.mpr (by rw [(qa hz9).1, kt_t hz9])) z)
    refine lv_goto (tgt := 1244) hx hb d_L_law_807 (by decide) ?_
    refine lv_iinc (v := nI (i + 6)) (lv' := [(4, .int (nI (i + 6))), (6, .int (nI (kt (octetK nu (xs (i + 1)) = 0) (nu 23 (cN (xs (i + 1))) + 1) 0))), (5, .int (nI (octetK nu (xs (i + 1))))), (0, .ref b), (1, .ref (ad 14 0)), (2, .ref md), (3, .ref out)]) hx hb d_L_law_1244 hl (k := 6) rfl (by exact nI_add _ 6) (by decide) rfl (fun ls hl => ?_)
    refine lv_goto (tgt := 23) hx hb d_L_law_1247 (by decide) ?_
    exact W.widen (show 60 + 6 * i + 2 ≤ 60 + 6 * (i + 6) by omega) (show 7200 + 370 * i + 12 ≤ 7200 + 370 * (i + 6) by omega) (hNext _ _ _ _ _ _ _ _ hfin q7 hw (lv_sub hl [3, 4, 5, 6, 0] rfl))
section BF
variable {nu nu' nu2 : Nat → Nat → Nat} {sg sg' sg2 : Nat → Nat → Int32}
theorem black_fm (h : blackP nu sg nu' sg') (ok : okS nu sg) (hk : blackK nu sg = 0) : ∀ u, u < nu' 7 0 → nu' 9 u < nu' 6 0 := by
  obtain ⟨gN, gS, g6, gpg, gfo, gcu, grs, guf, guo, gst, gso⟩ := h
  have h10 := ok.2.2.2.2.2.2.2.2.2.1
  rw [gN 7 (by decide)]
  intro u hu
  by_cases hh : hasU nu sg u
  · have := (((guf u hu).1 hh).lt hu).2
    omega
  · rw [(guf u hu).2 hh]
    have := h10 u hu
    omega
theorem trP_b (hN : eqx [0, 29] nu nu2) (hS : eqx [27, 28, 30, 31] sg sg2) : trP nu nu2 sg sg2 := by
  refine ⟨fun x hx => hN x (fun z => ?_), fun x hx => congrFun (hN x (fun z => ?_)) 0, fun x hx => hS x hx⟩
  · simp only [List.mem_cons, List.not_mem_nil, or_false] at hx z
    omega
  · simp only [List.mem_cons, List.not_mem_nil, or_false] at hx z
    omega
theorem okS_b (h : okS nu sg) (hN : eqx [0, 29] nu nu2) (hS : eqx [27, 28, 30, 31] sg sg2) : okS nu2 sg2 := by
  unfold okS at h ⊢
  rw [hN 6 (by decide), hN 7 (by decide), hN 12 (by decide), hN 15 (by decide), hN 21 (by decide), hN 25 (by decide), hN 1 (by decide), hN 13 (by decide), hN 23 (by decide), hN 9 (by decide), hS 22 (by decide), hS 24 (by decide), hS 8 (by decide), hS 14 (by decide)]
  exact h
end BF
set_option maxHeartbeats 1000000 in
set_option maxRecDepth 100000 in
theorem l_case_9 {p : Program} {l : Launch} (hfl : l.flags = flags0) {e : Env} {s : State} {m : MethodId} {below : List Frame} {meth : Method} {c : Code} {G : xT} {M : xMem} {sz : Nat} {b L : Nat} {xs : Nat → Int32} {rc md out fz : Nat} {am : Nat → Nat} (hC : xC p s m ([.ref b] : List Value).toArray meth c b_L_law y_L_law.cls 7 G (xA M sz)) (hX : va_X b L xs s s.heap) (hbl : b < s.heap.size) (hbA : ¬ xA M sz b) {i : Nat} (hi : i + 6 ≤ L) (hL : L ≤ 3072) {Q : State → Prop}
    (hNext : ∀ (M1 : xMem) (ad : Nat → Nat → Nat) (nu : Nat → Nat → Nat) (sg : Nat → Nat → Int32) (ov : Nat → Int64) (H : Heap) (locs : List Loc) (ls : Array Slot), lawI G M1 fz ad md out am nu sg ov → ad 14 0 = rc → xWd G (xA M sz) s.heap M1 H locs → lv_has ls 7 [(0, .ref b), (1, .ref rc), (2, .ref md), (3, .ref out), (4, .int (nI (i + 6)))] → W p l e { frames := 13, cells := 601024, slots := 7293034, locals := 488 } s m ([.ref b] : List Value).toArray below meth c H locs (60 + 6 * (i + 6)) (7200 + 370 * (i + 6)) Q (F0 m 23 ls []))
    (M1 : xMem) (ad : Nat → Nat → Nat) (nu : Nat → Nat → Nat) (sg : Nat → Nat → Int32) (ov : Nat → Int64) (H : Heap) (locs : List Loc) (ls : Array Slot) (hI : lawI G M1 fz ad md out am nu sg ov) (h14 : ad 14 0 = rc) (hw : xWd G (xA M sz) s.heap M1 H locs) (hl : lv_has ls 7 [(0, .ref b), (1, .ref rc), (2, .ref md), (3, .ref out), (4, .int (nI i))]) : W p l e { frames := 13, cells := 601024, slots := 7293034, locals := 488 } s m ([.ref b] : List Value).toArray below meth c H locs (60 + 6 * i) (7200 + 370 * i) Q (F0 m 810 ls []) := by
  subst h14
  obtain ⟨hR, hM, ok, h_out, hoo, hos, hds⟩ := id hI
  obtain ⟨h20, h12, h4, h8a, hst8, h100, h40, h8, h60, hfm, hen, hok, hpg, hlt, hf0, hw0, ht0, hu9⟩ := id ok
  obtain ⟨hx, hb, hown, hts, hK9, hml, hlk, hz⟩ := id hC
  refine lv_aload_n hx hb d_L_law_810 rfl (lv_at hl 1 rfl) ?_
  refine lv_aload_n hx hb d_L_law_811 rfl (lv_at hl 3 rfl) ?_
  refine x_callH hC (c_L_black l hfl G M1 (Array.size H) fz ad nu sg hR out ov hoo h20 h12 h4 h8a h40 h8 hfm hlt hst8 h60 hen hok h_out) k_577 k_0 ⟨Nat.le_of_ble_eq_true rfl, Nat.le_of_ble_eq_true rfl⟩ ⟨(show 60 + 6 * i + 36 ≤ 601024 by omega), (show 7200 + 370 * i + 2220 ≤ 7293034 by omega)⟩ hw hl.1 (Nat.le_of_ble_eq_true rfl) d_L_law_812 (x_ivSH hC k_577 k_575 k_576 k_0 (show _ ∧ _ ∧ _ = some 2 from by decide +kernel) rfl d_L_law_812) (fun rv M1 H locs hq hw => ?_) (fun _ _ _ _ _ h _ _ => h.elim)
  obtain ⟨rfl, ad', nu', sg', ov', q1, q7, q6, h_out', q5, qa, qb⟩ := hq
  have hM1 := hM.cfo q5 hds hos
  refine W.eq (g2 := F0 m 815 ls [.int (nI (blackK nu sg))]) rfl ?_
  refine lv_istore (lv' := [(5, .int (nI (blackK nu sg))), (0, .ref b), (1, .ref (ad 14 0)), (2, .ref md), (3, .ref out), (4, .int (nI i))]) hx hb d_L_law_815 hl (by decide) rfl (fun ls hl => ?_)
  refine lv_aload_n hx hb d_L_law_817 rfl (lv_at hl 3 rfl) ?_
  refine x_callG hC (c_M_black l G M1 (Array.size H) md am nu sg hM1 ok) k_886 k_13 ⟨Nat.le_of_ble_eq_true rfl, Nat.le_of_ble_eq_true rfl⟩ ⟨(show 60 + 6 * i + 36 ≤ 601024 by omega), (show 7200 + 370 * i + 2220 ≤ 7293034 by omega)⟩ hw hl.1 (Nat.le_of_ble_eq_true rfl) d_L_law_818 (x_ivV hC k_886 k_883 k_884 k_885 (show _ ∧ _ ∧ _ = some 0 from by decide +kernel) (x_recv hC hw hM1.1 rfl) rfl d_L_law_818) (fun rv M2 H locs hq hw => ?_) (fun _ _ _ _ _ h _ _ => h.elim)
  obtain ⟨rfl, nu2, sg2, hm, mN, mS, fr, mK, m0, m1, m2⟩ := hq
  refine W.eq (g2 := F0 m 821 ls [.int (nI (kt (blackK nu sg = 0) (blackN nu sg) 0))]) rfl ?_
  have hfin : lawI G M2 fz ad' md out am nu2 sg2 ov' := by
    by_cases hz9 : blackK nu sg = 0
    · have hcf := (qa hz9).2
      have hmf := m0 hz9
      have hbe := black_eq h40 hcf hmf
      exact law_step (x_fz0 hC hw hI.1.2.1.1) hI q1 q6 h_out' q5 hm fr (fun M9 hc9 => hc9.eq hbe.1 (black_fm hcf ok hz9) hbe.2) hbe.1 (ok_black ok hmf hz9 (m2 hz9))
    · obtain ⟨rfl, rfl⟩ := qb hz9
      obtain ⟨s1, s2⟩ := m1 hz9
      have htr : trP nu' nu2 sg' sg2 := trP_b s1 s2
      exact law_step (x_fz0 hC hw hI.1.2.1.1) hI q1 q6 h_out' q5 hm fr (fun M9 hc9 => hc9.to hfm htr) htr.rng (okS_b ok s1 s2)
  refine lv_istore (lv' := [(6, .int (nI (kt (blackK nu sg = 0) (blackN nu sg) 0))), (5, .int (nI (blackK nu sg))), (0, .ref b), (1, .ref (ad 14 0)), (2, .ref md), (3, .ref out), (4, .int (nI i))]) hx hb d_L_law_821 hl (by decide) rfl (fun ls hl => ?_)
  refine lv_aload_n hx hb d_L_law_823 rfl (lv_at hl 4 rfl) ?_
  refine x_callG hC (c_M_thrown l G M2 (Array.size H) md am nu2 sg2 hm) k_835 k_13 ⟨Nat.le_of_ble_eq_true rfl, Nat.le_of_ble_eq_true rfl⟩ ⟨(show 60 + 6 * i + 36 ≤ 601024 by omega), (show 7200 + 370 * i + 2220 ≤ 7293034 by omega)⟩ hw hl.1 (Nat.le_of_ble_eq_true rfl) d_L_law_824 (x_ivV hC k_835 k_832 k_833 k_834 (show _ ∧ _ ∧ _ = some 0 from by decide +kernel) (x_recv hC hw hm.1 rfl) rfl d_L_law_824) (fun rv M3 H locs hq hw => ?_) (fun _ _ _ _ _ h _ _ => h.elim)
  obtain ⟨rfl, hMe⟩ := hq
  subst M3
  refine W.eq (g2 := F0 m 827 ls [.int (nI (nu2 0 0))]) rfl ?_
  refine x_vi (y := nI (blackK nu sg)) (congrArg nI mK) ?_
  refine lv_iload hx hb d_L_law_827 (lv_at hl 1 rfl) ?_
  refine lv_icmp_eq (tgt := 834) hx hb d_L_law_829 (by decide) (fun _ => ?_) (fun z => absurd rfl z)
  refine lv_iload hx hb d_L_law_834 (lv_at hl 1 rfl) ?_
  have hKle : blackK nu sg ≤ 3 := kt_le3 (by decide) (by decide)
  refine lv_if_ne (tgt := 851) hx hb d_L_law_836 (by decide) (fun hz8 => ?_) (fun hz8 => ?_)
  · refine lv_goto (tgt := 1244) hx hb d_L_law_851 (by decide) ?_
    refine lv_iinc (v := nI (i + 6)) (lv' := [(4, .int (nI (i + 6))), (6, .int (nI (kt (blackK nu sg = 0) (blackN nu sg) 0))), (5, .int (nI (blackK nu sg))), (0, .ref b), (1, .ref (ad 14 0)), (2, .ref md), (3, .ref out)]) hx hb d_L_law_1244 hl (k := 6) rfl (by exact nI_add _ 6) (by decide) rfl (fun ls hl => ?_)
    refine lv_goto (tgt := 23) hx hb d_L_law_1247 (by decide) ?_
    exact W.widen (show 60 + 6 * i + 36 ≤ 60 + 6 * (i + 6) by omega) (show 7200 + 370 * i + 2220 ≤ 7200 + 370 * (i + 6) by omega) (hNext _ _ _ _ _ _ _ _ hfin q7 hw (lv_sub hl [3, 4, 5, 6, 0] rfl))
  · have hz9 : blackK nu sg = 0 := (K0 hKle).mp hz8
    have ho3 := hfin.2.2.2.1
    refine lv_aload_n hx hb d_L_law_839 rfl (lv_at hl 5 rfl) ?_
    refine lv_iconst (v := nI 0) hx hb d_L_law_840 (by decide) ?_
    refine x_lald (j := 0) hC hw ho3 rfl (rfl) (by omega) (by omega) d_L_law_841 ?_
    refine lv_iload hx hb d_L_law_842 (lv_at hl 0 rfl) ?_
    refine lv_i2l (v := Int32.toInt64 (nI (kt (blackK nu sg = 0) (blackN nu sg) 0))) hx hb d_L_law_844 rfl ?_
    refine W.lcmp hx hb d_L_law_845 ?_
    refine lv_if_eq (tgt := 851) hx hb d_L_law_846 (by decide) (fun _ => ?_) (fun z => absurd (x_lcmp.mpr (by rw [(qa hz9).1, kt_t hz9])) z)
    refine lv_goto (tgt := 1244) hx hb d_L_law_851 (by decide) ?_
    refine lv_iinc (v := nI (i + 6)) (lv' := [(4, .int (nI (i + 6))), (6, .int (nI (kt (blackK nu sg = 0) (blackN nu sg) 0))), (5, .int (nI (blackK nu sg))), (0, .ref b), (1, .ref (ad 14 0)), (2, .ref md), (3, .ref out)]) hx hb d_L_law_1244 hl (k := 6) rfl (by exact nI_add _ 6) (by decide) rfl (fun ls hl => ?_)
    refine lv_goto (tgt := 23) hx hb d_L_law_1247 (by decide) ?_
    exact W.widen (show 60 + 6 * i + 36 ≤ 60 + 6 * (i + 6) by omega) (show 7200 + 370 * i + 2220 ≤ 7200 + 370 * (i + 6) by omega) (hNext _ _ _ _ _ _ _ _ hfin q7 hw (lv_sub hl [3, 4, 5, 6, 0] rfl))
set_option maxHeartbeats 1000000 in
set_option maxRecDepth 100000 in
theorem l_case_11 {p : Program} {l : Launch} (hfl : l.flags = flags0) {e : Env} {s : State} {m : MethodId} {below : List Frame} {meth : Method} {c : Code} {G : xT} {M : xMem} {sz : Nat} {b L : Nat} {xs : Nat → Int32} {rc md out fz : Nat} {am : Nat → Nat} (hC : xC p s m ([.ref b] : List Value).toArray meth c b_L_law y_L_law.cls 7 G (xA M sz)) (hX : va_X b L xs s s.heap) (hbl : b < s.heap.size) (hbA : ¬ xA M sz b) {i : Nat} (hi : i + 6 ≤ L) (hL : L ≤ 3072) {Q : State → Prop}
    (hNext : ∀ (M1 : xMem) (ad : Nat → Nat → Nat) (nu : Nat → Nat → Nat) (sg : Nat → Nat → Int32) (ov : Nat → Int64) (H : Heap) (locs : List Loc) (ls : Array Slot), lawI G M1 fz ad md out am nu sg ov → ad 14 0 = rc → xWd G (xA M sz) s.heap M1 H locs → lv_has ls 7 [(0, .ref b), (1, .ref rc), (2, .ref md), (3, .ref out), (4, .int (nI (i + 6)))] → W p l e { frames := 13, cells := 601024, slots := 7293034, locals := 488 } s m ([.ref b] : List Value).toArray below meth c H locs (60 + 6 * (i + 6)) (7200 + 370 * (i + 6)) Q (F0 m 23 ls []))
    (M1 : xMem) (ad : Nat → Nat → Nat) (nu : Nat → Nat → Nat) (sg : Nat → Nat → Int32) (ov : Nat → Int64) (H : Heap) (locs : List Loc) (ls : Array Slot) (hI : lawI G M1 fz ad md out am nu sg ov) (h14 : ad 14 0 = rc) (hw : xWd G (xA M sz) s.heap M1 H locs) (hl : lv_has ls 7 [(0, .ref b), (1, .ref rc), (2, .ref md), (3, .ref out), (4, .int (nI i))]) : W p l e { frames := 13, cells := 601024, slots := 7293034, locals := 488 } s m ([.ref b] : List Value).toArray below meth c H locs (60 + 6 * i) (7200 + 370 * i) Q (F0 m 867 ls []) := by
  subst h14
  obtain ⟨hR, hM, ok, h_out, hoo, hos, hds⟩ := id hI
  obtain ⟨h20, h12, h4, h8a, hst8, h100, h40, h8, h60, hfm, hen, hok, hpg, hlt, hf0, hw0, ht0, hu9⟩ := id ok
  obtain ⟨hx, hb, hown, hts, hK9, hml, hlk, hz⟩ := id hC
  refine lv_aload_n hx hb d_L_law_867 rfl (lv_at hl 1 rfl) ?_
  refine lv_aload_n hx hb d_L_law_868 rfl (lv_at hl 0 rfl) ?_
  refine lv_iload hx hb d_L_law_869 (lv_at hl 4 rfl) ?_
  refine lv_iconst (v := nI 1) hx hb d_L_law_871 (by decide) ?_
  refine lv_iadd hx hb d_L_law_872 ?_
  refine x_vi (y := nI (i + 1)) (nI_add _ _) ?_
  refine va_sld hx hb hX hbl hbA hw.S (x_inr rfl (show (i + 1) < L by omega) (by omega)) d_L_law_873 ?_
  refine x_vi (y := xs ((i + 1))) (congrArg xs (nI_clamp (by omega))) ?_
  refine lv_aload_n hx hb d_L_law_874 rfl (lv_at hl 0 rfl) ?_
  refine lv_iload hx hb d_L_law_875 (lv_at hl 4 rfl) ?_
  refine lv_iconst (v := nI 2) hx hb d_L_law_877 (by decide) ?_
  refine lv_iadd hx hb d_L_law_878 ?_
  refine x_vi (y := nI (i + 2)) (nI_add _ _) ?_
  refine va_sld hx hb hX hbl hbA hw.S (x_inr rfl (show (i + 2) < L by omega) (by omega)) d_L_law_879 ?_
  refine x_vi (y := xs ((i + 2))) (congrArg xs (nI_clamp (by omega))) ?_
  refine lv_aload_n hx hb d_L_law_880 rfl (lv_at hl 3 rfl) ?_
  refine x_callH hC (c_L_left l hfl G M1 (Array.size H) fz ad nu sg hR out ov hoo (xs (i + 1)) (xs (i + 2)) h100 hfm h_out) k_688 k_0 ⟨Nat.le_of_ble_eq_true rfl, Nat.le_of_ble_eq_true rfl⟩ ⟨(show 60 + 6 * i + 2 ≤ 601024 by omega), (show 7200 + 370 * i + 12 ≤ 7293034 by omega)⟩ hw hl.1 (Nat.le_of_ble_eq_true rfl) d_L_law_881 (x_ivSH hC k_688 k_686 k_687 k_0 (show _ ∧ _ ∧ _ = some 4 from by decide +kernel) rfl d_L_law_881) (fun rv M1 H locs hq hw => ?_) (fun _ _ _ _ _ h _ _ => h.elim)
  obtain ⟨rfl, ad', nu', sg', ov', q1, q7, q6, h_out', q5, qa, qb⟩ := hq
  have hM1 := hM.cfo q5 hds hos
  refine W.eq (g2 := F0 m 884 ls [.int (nI (leftK nu (xs (i + 1)) (xs (i + 2))))]) rfl ?_
  refine lv_istore (lv' := [(5, .int (nI (leftK nu (xs (i + 1)) (xs (i + 2))))), (0, .ref b), (1, .ref (ad 14 0)), (2, .ref md), (3, .ref out), (4, .int (nI i))]) hx hb d_L_law_884 hl (by decide) rfl (fun ls hl => ?_)
  refine lv_aload_n hx hb d_L_law_886 rfl (lv_at hl 3 rfl) ?_
  refine lv_aload_n hx hb d_L_law_887 rfl (lv_at hl 1 rfl) ?_
  refine lv_iload hx hb d_L_law_888 (lv_at hl 5 rfl) ?_
  refine lv_iconst (v := nI 1) hx hb d_L_law_890 (by decide) ?_
  refine lv_iadd hx hb d_L_law_891 ?_
  refine x_vi (y := nI (i + 1)) (nI_add _ _) ?_
  refine va_sld hx hb hX hbl hbA hw.S (x_inr rfl (show (i + 1) < L by omega) (by omega)) d_L_law_892 ?_
  refine x_vi (y := xs ((i + 1))) (congrArg xs (nI_clamp (by omega))) ?_
  refine lv_aload_n hx hb d_L_law_893 rfl (lv_at hl 1 rfl) ?_
  refine lv_iload hx hb d_L_law_894 (lv_at hl 5 rfl) ?_
  refine lv_iconst (v := nI 2) hx hb d_L_law_896 (by decide) ?_
  refine lv_iadd hx hb d_L_law_897 ?_
  refine x_vi (y := nI (i + 2)) (nI_add _ _) ?_
  refine va_sld hx hb hX hbl hbA hw.S (x_inr rfl (show (i + 2) < L by omega) (by omega)) d_L_law_898 ?_
  refine x_vi (y := xs ((i + 2))) (congrArg xs (nI_clamp (by omega))) ?_
  refine x_callG hC (c_M_left l G M1 (Array.size H) md am nu sg hM1 (xs (i + 1)) (xs (i + 2)) h100) k_951 k_13 ⟨Nat.le_of_ble_eq_true rfl, Nat.le_of_ble_eq_true rfl⟩ ⟨(show 60 + 6 * i + 2 ≤ 601024 by omega), (show 7200 + 370 * i + 12 ≤ 7293034 by omega)⟩ hw hl.1 (Nat.le_of_ble_eq_true rfl) d_L_law_899 (x_ivV hC k_951 k_948 k_949 k_950 (show _ ∧ _ ∧ _ = some 2 from by decide +kernel) (x_recv hC hw hM1.1 rfl) rfl d_L_law_899) (fun rv M2 H locs hq hw => ?_) (fun _ _ _ _ _ h _ _ => h.elim)
  obtain ⟨bx, nu2, rfl, mV, hm, mN, fr, mK⟩ := hq
  refine W.eq (g2 := F0 m 902 ls [.int bx]) rfl ?_
  have hsame : nu' = nu ∧ sg' = sg := by by_cases hz9 : leftK nu (xs (i + 1)) (xs (i + 2)) = 0; exact (qa hz9).2; exact qb hz9
  have hfin : lawI G M2 fz ad' md out am nu2 sg ov' := law_same (x_fz0 hC hw hI.1.2.1.1) hI q1 q6 h_out' q5 hm fr hsame mN
  refine lv_istore (lv' := [(6, .int bx), (5, .int (nI (leftK nu (xs (i + 1)) (xs (i + 2))))), (0, .ref b), (1, .ref (ad 14 0)), (2, .ref md), (3, .ref out), (4, .int (nI i))]) hx hb d_L_law_902 hl (by decide) rfl (fun ls hl => ?_)
  refine lv_aload_n hx hb d_L_law_904 rfl (lv_at hl 4 rfl) ?_
  refine x_callG hC (c_M_thrown l G M2 (Array.size H) md am nu2 sg hm) k_835 k_13 ⟨Nat.le_of_ble_eq_true rfl, Nat.le_of_ble_eq_true rfl⟩ ⟨(show 60 + 6 * i + 2 ≤ 601024 by omega), (show 7200 + 370 * i + 12 ≤ 7293034 by omega)⟩ hw hl.1 (Nat.le_of_ble_eq_true rfl) d_L_law_905 (x_ivV hC k_835 k_832 k_833 k_834 (show _ ∧ _ ∧ _ = some 0 from by decide +kernel) (x_recv hC hw hm.1 rfl) rfl d_L_law_905) (fun rv M3 H locs hq hw => ?_) (fun _ _ _ _ _ h _ _ => h.elim)
  obtain ⟨rfl, hMe⟩ := hq
  subst M3
  refine W.eq (g2 := F0 m 908 ls [.int (nI (nu2 0 0))]) rfl ?_
  refine x_vi (y := nI (leftK nu (xs (i + 1)) (xs (i + 2)))) (congrArg nI mK) ?_
  refine lv_iload hx hb d_L_law_908 (lv_at hl 1 rfl) ?_
  refine lv_icmp_eq (tgt := 915) hx hb d_L_law_910 (by decide) (fun _ => ?_) (fun z => absurd rfl z)
  refine lv_iload hx hb d_L_law_915 (lv_at hl 1 rfl) ?_
  have hKle : leftK nu (xs (i + 1)) (xs (i + 2)) ≤ 3 := kt_le3 (by decide) (by decide)
  refine lv_if_ne (tgt := 932) hx hb d_L_law_917 (by decide) (fun hz8 => ?_) (fun hz8 => ?_)
  · refine lv_goto (tgt := 1244) hx hb d_L_law_932 (by decide) ?_
    refine lv_iinc (v := nI (i + 6)) (lv' := [(4, .int (nI (i + 6))), (6, .int bx), (5, .int (nI (leftK nu (xs (i + 1)) (xs (i + 2))))), (0, .ref b), (1, .ref (ad 14 0)), (2, .ref md), (3, .ref out)]) hx hb d_L_law_1244 hl (k := 6) rfl (by exact nI_add _ 6) (by decide) rfl (fun ls hl => ?_)
    refine lv_goto (tgt := 23) hx hb d_L_law_1247 (by decide) ?_
    exact W.widen (show 60 + 6 * i + 2 ≤ 60 + 6 * (i + 6) by omega) (show 7200 + 370 * i + 12 ≤ 7200 + 370 * (i + 6) by omega) (hNext _ _ _ _ _ _ _ _ hfin q7 hw (lv_sub hl [3, 4, 5, 6, 0] rfl))
  · have hz9 : leftK nu (xs (i + 1)) (xs (i + 2)) = 0 := (K0 hKle).mp hz8
    have ho3 := hfin.2.2.2.1
    refine lv_aload_n hx hb d_L_law_920 rfl (lv_at hl 5 rfl) ?_
    refine lv_iconst (v := nI 0) hx hb d_L_law_921 (by decide) ?_
    refine x_lald (j := 0) hC hw ho3 rfl (rfl) (by omega) (by omega) d_L_law_922 ?_
    refine lv_iload hx hb d_L_law_923 (lv_at hl 0 rfl) ?_
    refine lv_i2l (v := Int32.toInt64 bx) hx hb d_L_law_925 rfl ?_
    refine W.lcmp hx hb d_L_law_926 ?_
    refine lv_if_eq (tgt := 932) hx hb d_L_law_927 (by decide) (fun _ => ?_) (fun z => absurd (x_lcmp.mpr (by rw [(qa hz9).1, mV hz9])) z)
    refine lv_goto (tgt := 1244) hx hb d_L_law_932 (by decide) ?_
    refine lv_iinc (v := nI (i + 6)) (lv' := [(4, .int (nI (i + 6))), (6, .int bx), (5, .int (nI (leftK nu (xs (i + 1)) (xs (i + 2))))), (0, .ref b), (1, .ref (ad 14 0)), (2, .ref md), (3, .ref out)]) hx hb d_L_law_1244 hl (k := 6) rfl (by exact nI_add _ 6) (by decide) rfl (fun ls hl => ?_)
    refine lv_goto (tgt := 23) hx hb d_L_law_1247 (by decide) ?_
    exact W.widen (show 60 + 6 * i + 2 ≤ 60 + 6 * (i + 6) by omega) (show 7200 + 370 * i + 12 ≤ 7200 + 370 * (i + 6) by omega) (hNext _ _ _ _ _ _ _ _ hfin q7 hw (lv_sub hl [3, 4, 5, 6, 0] rfl))
set_option maxHeartbeats 1000000 in
set_option maxRecDepth 100000 in
theorem l_case_12 {p : Program} {l : Launch} (hfl : l.flags = flags0) {e : Env} {s : State} {m : MethodId} {below : List Frame} {meth : Method} {c : Code} {G : xT} {M : xMem} {sz : Nat} {b L : Nat} {xs : Nat → Int32} {rc md out fz : Nat} {am : Nat → Nat} (hC : xC p s m ([.ref b] : List Value).toArray meth c b_L_law y_L_law.cls 7 G (xA M sz)) (hX : va_X b L xs s s.heap) (hbl : b < s.heap.size) (hbA : ¬ xA M sz b) {i : Nat} (hi : i + 6 ≤ L) (hL : L ≤ 3072) {Q : State → Prop}
    (hNext : ∀ (M1 : xMem) (ad : Nat → Nat → Nat) (nu : Nat → Nat → Nat) (sg : Nat → Nat → Int32) (ov : Nat → Int64) (H : Heap) (locs : List Loc) (ls : Array Slot), lawI G M1 fz ad md out am nu sg ov → ad 14 0 = rc → xWd G (xA M sz) s.heap M1 H locs → lv_has ls 7 [(0, .ref b), (1, .ref rc), (2, .ref md), (3, .ref out), (4, .int (nI (i + 6)))] → W p l e { frames := 13, cells := 601024, slots := 7293034, locals := 488 } s m ([.ref b] : List Value).toArray below meth c H locs (60 + 6 * (i + 6)) (7200 + 370 * (i + 6)) Q (F0 m 23 ls []))
    (M1 : xMem) (ad : Nat → Nat → Nat) (nu : Nat → Nat → Nat) (sg : Nat → Nat → Int32) (ov : Nat → Int64) (H : Heap) (locs : List Loc) (ls : Array Slot) (hI : lawI G M1 fz ad md out am nu sg ov) (h14 : ad 14 0 = rc) (hw : xWd G (xA M sz) s.heap M1 H locs) (hl : lv_has ls 7 [(0, .ref b), (1, .ref rc), (2, .ref md), (3, .ref out), (4, .int (nI i))]) : W p l e { frames := 13, cells := 601024, slots := 7293034, locals := 488 } s m ([.ref b] : List Value).toArray below meth c H locs (60 + 6 * i) (7200 + 370 * i) Q (F0 m 935 ls []) := by
  subst h14
  obtain ⟨hR, hM, ok, h_out, hoo, hos, hds⟩ := id hI
  obtain ⟨h20, h12, h4, h8a, hst8, h100, h40, h8, h60, hfm, hen, hok, hpg, hlt, hf0, hw0, ht0, hu9⟩ := id ok
  obtain ⟨hx, hb, hown, hts, hK9, hml, hlk, hz⟩ := id hC
  refine lv_aload_n hx hb d_L_law_935 rfl (lv_at hl 1 rfl) ?_
  refine lv_aload_n hx hb d_L_law_936 rfl (lv_at hl 0 rfl) ?_
  refine lv_iload hx hb d_L_law_937 (lv_at hl 4 rfl) ?_
  refine lv_iconst (v := nI 1) hx hb d_L_law_939 (by decide) ?_
  refine lv_iadd hx hb d_L_law_940 ?_
  refine x_vi (y := nI (i + 1)) (nI_add _ _) ?_
  refine va_sld hx hb hX hbl hbA hw.S (x_inr rfl (show (i + 1) < L by omega) (by omega)) d_L_law_941 ?_
  refine x_vi (y := xs ((i + 1))) (congrArg xs (nI_clamp (by omega))) ?_
  refine lv_aload_n hx hb d_L_law_942 rfl (lv_at hl 0 rfl) ?_
  refine lv_iload hx hb d_L_law_943 (lv_at hl 4 rfl) ?_
  refine lv_iconst (v := nI 2) hx hb d_L_law_945 (by decide) ?_
  refine lv_iadd hx hb d_L_law_946 ?_
  refine x_vi (y := nI (i + 2)) (nI_add _ _) ?_
  refine va_sld hx hb hX hbl hbA hw.S (x_inr rfl (show (i + 2) < L by omega) (by omega)) d_L_law_947 ?_
  refine x_vi (y := xs ((i + 2))) (congrArg xs (nI_clamp (by omega))) ?_
  refine lv_aload_n hx hb d_L_law_948 rfl (lv_at hl 0 rfl) ?_
  refine lv_iload hx hb d_L_law_949 (lv_at hl 4 rfl) ?_
  refine lv_iconst (v := nI 3) hx hb d_L_law_951 (by decide) ?_
  refine lv_iadd hx hb d_L_law_952 ?_
  refine x_vi (y := nI (i + 3)) (nI_add _ _) ?_
  refine va_sld hx hb hX hbl hbA hw.S (x_inr rfl (show (i + 3) < L by omega) (by omega)) d_L_law_953 ?_
  refine x_vi (y := xs ((i + 3))) (congrArg xs (nI_clamp (by omega))) ?_
  refine lv_aload_n hx hb d_L_law_954 rfl (lv_at hl 0 rfl) ?_
  refine lv_iload hx hb d_L_law_955 (lv_at hl 4 rfl) ?_
  refine lv_iconst (v := nI 4) hx hb d_L_law_957 (by decide) ?_
  refine lv_iadd hx hb d_L_law_958 ?_
  refine x_vi (y := nI (i + 4)) (nI_add _ _) ?_
  refine va_sld hx hb hX hbl hbA hw.S (x_inr rfl (show (i + 4) < L by omega) (by omega)) d_L_law_959 ?_
  refine x_vi (y := xs ((i + 4))) (congrArg xs (nI_clamp (by omega))) ?_
  refine lv_aload_n hx hb d_L_law_960 rfl (lv_at hl 3 rfl) ?_
  refine x_callH hC (c_L_at l hfl G M1 (Array.size H) fz ad nu sg hR out ov hoo (xs (i + 1)) (xs (i + 2)) (xs (i + 3)) (xs (i + 4)) h20 h40 hfm h_out) k_699 k_0 ⟨Nat.le_of_ble_eq_true rfl, Nat.le_of_ble_eq_true rfl⟩ ⟨(show 60 + 6 * i + 4 ≤ 601024 by omega), (show 7200 + 370 * i + 24 ≤ 7293034 by omega)⟩ hw hl.1 (Nat.le_of_ble_eq_true rfl) d_L_law_961 (x_ivSH hC k_699 k_697 k_698 k_0 (show _ ∧ _ ∧ _ = some 6 from by decide +kernel) rfl d_L_law_961) (fun rv M1 H locs hq hw => ?_) (fun _ _ _ _ _ h _ _ => h.elim)
  obtain ⟨rfl, ad', nu', sg', ov', q1, q7, q6, h_out', q5, qa, qb⟩ := hq
  have hM1 := hM.cfo q5 hds hos
  refine W.eq (g2 := F0 m 964 ls [.int (nI (atK nu (xs (i + 1)) (xs (i + 2)) (xs (i + 3)) (xs (i + 4))))]) rfl ?_
  refine lv_istore (lv' := [(5, .int (nI (atK nu (xs (i + 1)) (xs (i + 2)) (xs (i + 3)) (xs (i + 4))))), (0, .ref b), (1, .ref (ad 14 0)), (2, .ref md), (3, .ref out), (4, .int (nI i))]) hx hb d_L_law_964 hl (by decide) rfl (fun ls hl => ?_)
  refine lv_aload_n hx hb d_L_law_966 rfl (lv_at hl 3 rfl) ?_
  refine lv_aload_n hx hb d_L_law_967 rfl (lv_at hl 1 rfl) ?_
  refine lv_iload hx hb d_L_law_968 (lv_at hl 5 rfl) ?_
  refine lv_iconst (v := nI 1) hx hb d_L_law_970 (by decide) ?_
  refine lv_iadd hx hb d_L_law_971 ?_
  refine x_vi (y := nI (i + 1)) (nI_add _ _) ?_
  refine va_sld hx hb hX hbl hbA hw.S (x_inr rfl (show (i + 1) < L by omega) (by omega)) d_L_law_972 ?_
  refine x_vi (y := xs ((i + 1))) (congrArg xs (nI_clamp (by omega))) ?_
  refine lv_aload_n hx hb d_L_law_973 rfl (lv_at hl 1 rfl) ?_
  refine lv_iload hx hb d_L_law_974 (lv_at hl 5 rfl) ?_
  refine lv_iconst (v := nI 2) hx hb d_L_law_976 (by decide) ?_
  refine lv_iadd hx hb d_L_law_977 ?_
  refine x_vi (y := nI (i + 2)) (nI_add _ _) ?_
  refine va_sld hx hb hX hbl hbA hw.S (x_inr rfl (show (i + 2) < L by omega) (by omega)) d_L_law_978 ?_
  refine x_vi (y := xs ((i + 2))) (congrArg xs (nI_clamp (by omega))) ?_
  refine lv_aload_n hx hb d_L_law_979 rfl (lv_at hl 1 rfl) ?_
  refine lv_iload hx hb d_L_law_980 (lv_at hl 5 rfl) ?_
  refine lv_iconst (v := nI 3) hx hb d_L_law_982 (by decide) ?_
  refine lv_iadd hx hb d_L_law_983 ?_
  refine x_vi (y := nI (i + 3)) (nI_add _ _) ?_
  refine va_sld hx hb hX hbl hbA hw.S (x_inr rfl (show (i + 3) < L by omega) (by omega)) d_L_law_984 ?_
  refine x_vi (y := xs ((i + 3))) (congrArg xs (nI_clamp (by omega))) ?_
  refine lv_aload_n hx hb d_L_law_985 rfl (lv_at hl 1 rfl) ?_
  refine lv_iload hx hb d_L_law_986 (lv_at hl 5 rfl) ?_
  refine lv_iconst (v := nI 4) hx hb d_L_law_988 (by decide) ?_
  refine lv_iadd hx hb d_L_law_989 ?_
  refine x_vi (y := nI (i + 4)) (nI_add _ _) ?_
  refine va_sld hx hb hX hbl hbA hw.S (x_inr rfl (show (i + 4) < L by omega) (by omega)) d_L_law_990 ?_
  refine x_vi (y := xs ((i + 4))) (congrArg xs (nI_clamp (by omega))) ?_
  refine x_callG hC (c_M_at l G M1 (Array.size H) md am nu sg hM1 (xs (i + 1)) (xs (i + 2)) (xs (i + 3)) (xs (i + 4)) h20 h40) k_955 k_13 ⟨Nat.le_of_ble_eq_true rfl, Nat.le_of_ble_eq_true rfl⟩ ⟨(show 60 + 6 * i + 4 ≤ 601024 by omega), (show 7200 + 370 * i + 24 ≤ 7293034 by omega)⟩ hw hl.1 (Nat.le_of_ble_eq_true rfl) d_L_law_991 (x_ivV hC k_955 k_952 k_953 k_954 (show _ ∧ _ ∧ _ = some 4 from by decide +kernel) (x_recv hC hw hM1.1 rfl) rfl d_L_law_991) (fun rv M2 H locs hq hw => ?_) (fun _ _ _ _ _ h _ _ => h.elim)
  obtain ⟨bx, nu2, rfl, mV, hm, mN, fr, mK⟩ := hq
  refine W.eq (g2 := F0 m 994 ls [.int bx]) rfl ?_
  have hsame : nu' = nu ∧ sg' = sg := by by_cases hz9 : atK nu (xs (i + 1)) (xs (i + 2)) (xs (i + 3)) (xs (i + 4)) = 0; exact (qa hz9).2; exact qb hz9
  have hfin : lawI G M2 fz ad' md out am nu2 sg ov' := law_same (x_fz0 hC hw hI.1.2.1.1) hI q1 q6 h_out' q5 hm fr hsame mN
  refine lv_istore (lv' := [(6, .int bx), (5, .int (nI (atK nu (xs (i + 1)) (xs (i + 2)) (xs (i + 3)) (xs (i + 4))))), (0, .ref b), (1, .ref (ad 14 0)), (2, .ref md), (3, .ref out), (4, .int (nI i))]) hx hb d_L_law_994 hl (by decide) rfl (fun ls hl => ?_)
  refine lv_aload_n hx hb d_L_law_996 rfl (lv_at hl 4 rfl) ?_
  refine x_callG hC (c_M_thrown l G M2 (Array.size H) md am nu2 sg hm) k_835 k_13 ⟨Nat.le_of_ble_eq_true rfl, Nat.le_of_ble_eq_true rfl⟩ ⟨(show 60 + 6 * i + 4 ≤ 601024 by omega), (show 7200 + 370 * i + 24 ≤ 7293034 by omega)⟩ hw hl.1 (Nat.le_of_ble_eq_true rfl) d_L_law_997 (x_ivV hC k_835 k_832 k_833 k_834 (show _ ∧ _ ∧ _ = some 0 from by decide +kernel) (x_recv hC hw hm.1 rfl) rfl d_L_law_997) (fun rv M3 H locs hq hw => ?_) (fun _ _ _ _ _ h _ _ => h.elim)
  obtain ⟨rfl, hMe⟩ := hq
  subst M3
  refine W.eq (g2 := F0 m 1000 ls [.int (nI (nu2 0 0))]) rfl ?_
  refine x_vi (y := nI (atK nu (xs (i + 1)) (xs (i + 2)) (xs (i + 3)) (xs (i + 4)))) (congrArg nI mK) ?_
  refine lv_iload hx hb d_L_law_1000 (lv_at hl 1 rfl) ?_
  refine lv_icmp_eq (tgt := 1007) hx hb d_L_law_1002 (by decide) (fun _ => ?_) (fun z => absurd rfl z)
  refine lv_iload hx hb d_L_law_1007 (lv_at hl 1 rfl) ?_
  have hKle : atK nu (xs (i + 1)) (xs (i + 2)) (xs (i + 3)) (xs (i + 4)) ≤ 3 := kt_le3 (by decide) (by decide)
  refine lv_if_ne (tgt := 1024) hx hb d_L_law_1009 (by decide) (fun hz8 => ?_) (fun hz8 => ?_)
  · refine lv_goto (tgt := 1244) hx hb d_L_law_1024 (by decide) ?_
    refine lv_iinc (v := nI (i + 6)) (lv' := [(4, .int (nI (i + 6))), (6, .int bx), (5, .int (nI (atK nu (xs (i + 1)) (xs (i + 2)) (xs (i + 3)) (xs (i + 4))))), (0, .ref b), (1, .ref (ad 14 0)), (2, .ref md), (3, .ref out)]) hx hb d_L_law_1244 hl (k := 6) rfl (by exact nI_add _ 6) (by decide) rfl (fun ls hl => ?_)
    refine lv_goto (tgt := 23) hx hb d_L_law_1247 (by decide) ?_
    exact W.widen (show 60 + 6 * i + 4 ≤ 60 + 6 * (i + 6) by omega) (show 7200 + 370 * i + 24 ≤ 7200 + 370 * (i + 6) by omega) (hNext _ _ _ _ _ _ _ _ hfin q7 hw (lv_sub hl [3, 4, 5, 6, 0] rfl))
  · have hz9 : atK nu (xs (i + 1)) (xs (i + 2)) (xs (i + 3)) (xs (i + 4)) = 0 := (K0 hKle).mp hz8
    have ho3 := hfin.2.2.2.1
    refine lv_aload_n hx hb d_L_law_1012 rfl (lv_at hl 5 rfl) ?_
    refine lv_iconst (v := nI 0) hx hb d_L_law_1013 (by decide) ?_
    refine x_lald (j := 0) hC hw ho3 rfl (rfl) (by omega) (by omega) d_L_law_1014 ?_
    refine lv_iload hx hb d_L_law_1015 (lv_at hl 0 rfl) ?_
    refine lv_i2l (v := Int32.toInt64 bx) hx hb d_L_law_1017 rfl ?_
    refine W.lcmp hx hb d_L_law_1018 ?_
    refine lv_if_eq (tgt := 1024) hx hb d_L_law_1019 (by decide) (fun _ => ?_) (fun z => absurd (x_lcmp.mpr (by rw [(qa hz9).1, mV hz9])) z)
    refine lv_goto (tgt := 1244) hx hb d_L_law_1024 (by decide) ?_
    refine lv_iinc (v := nI (i + 6)) (lv' := [(4, .int (nI (i + 6))), (6, .int bx), (5, .int (nI (atK nu (xs (i + 1)) (xs (i + 2)) (xs (i + 3)) (xs (i + 4))))), (0, .ref b), (1, .ref (ad 14 0)), (2, .ref md), (3, .ref out)]) hx hb d_L_law_1244 hl (k := 6) rfl (by exact nI_add _ 6) (by decide) rfl (fun ls hl => ?_)
    refine lv_goto (tgt := 23) hx hb d_L_law_1247 (by decide) ?_
    exact W.widen (show 60 + 6 * i + 4 ≤ 60 + 6 * (i + 6) by omega) (show 7200 + 370 * i + 24 ≤ 7200 + 370 * (i + 6) by omega) (hNext _ _ _ _ _ _ _ _ hfin q7 hw (lv_sub hl [3, 4, 5, 6, 0] rfl))
set_option maxHeartbeats 1000000 in
set_option maxRecDepth 100000 in
theorem l_case_13 {p : Program} {l : Launch} (hfl : l.flags = flags0) {e : Env} {s : State} {m : MethodId} {below : List Frame} {meth : Method} {c : Code} {G : xT} {M : xMem} {sz : Nat} {b L : Nat} {xs : Nat → Int32} {rc md out fz : Nat} {am : Nat → Nat} (hC : xC p s m ([.ref b] : List Value).toArray meth c b_L_law y_L_law.cls 7 G (xA M sz)) (hX : va_X b L xs s s.heap) (hbl : b < s.heap.size) (hbA : ¬ xA M sz b) {i : Nat} (hi : i + 6 ≤ L) (hL : L ≤ 3072) {Q : State → Prop}
    (hNext : ∀ (M1 : xMem) (ad : Nat → Nat → Nat) (nu : Nat → Nat → Nat) (sg : Nat → Nat → Int32) (ov : Nat → Int64) (H : Heap) (locs : List Loc) (ls : Array Slot), lawI G M1 fz ad md out am nu sg ov → ad 14 0 = rc → xWd G (xA M sz) s.heap M1 H locs → lv_has ls 7 [(0, .ref b), (1, .ref rc), (2, .ref md), (3, .ref out), (4, .int (nI (i + 6)))] → W p l e { frames := 13, cells := 601024, slots := 7293034, locals := 488 } s m ([.ref b] : List Value).toArray below meth c H locs (60 + 6 * (i + 6)) (7200 + 370 * (i + 6)) Q (F0 m 23 ls []))
    (M1 : xMem) (ad : Nat → Nat → Nat) (nu : Nat → Nat → Nat) (sg : Nat → Nat → Int32) (ov : Nat → Int64) (H : Heap) (locs : List Loc) (ls : Array Slot) (hI : lawI G M1 fz ad md out am nu sg ov) (h14 : ad 14 0 = rc) (hw : xWd G (xA M sz) s.heap M1 H locs) (hl : lv_has ls 7 [(0, .ref b), (1, .ref rc), (2, .ref md), (3, .ref out), (4, .int (nI i))]) : W p l e { frames := 13, cells := 601024, slots := 7293034, locals := 488 } s m ([.ref b] : List Value).toArray below meth c H locs (60 + 6 * i) (7200 + 370 * i) Q (F0 m 1027 ls []) := by
  subst h14
  obtain ⟨hR, hM, ok, h_out, hoo, hos, hds⟩ := id hI
  obtain ⟨h20, h12, h4, h8a, hst8, h100, h40, h8, h60, hfm, hen, hok, hpg, hlt, hf0, hw0, ht0, hu9⟩ := id ok
  obtain ⟨hx, hb, hown, hts, hK9, hml, hlk, hz⟩ := id hC
  refine lv_aload_n hx hb d_L_law_1027 rfl (lv_at hl 1 rfl) ?_
  refine lv_aload_n hx hb d_L_law_1028 rfl (lv_at hl 0 rfl) ?_
  refine lv_iload hx hb d_L_law_1029 (lv_at hl 4 rfl) ?_
  refine lv_iconst (v := nI 1) hx hb d_L_law_1031 (by decide) ?_
  refine lv_iadd hx hb d_L_law_1032 ?_
  refine x_vi (y := nI (i + 1)) (nI_add _ _) ?_
  refine va_sld hx hb hX hbl hbA hw.S (x_inr rfl (show (i + 1) < L by omega) (by omega)) d_L_law_1033 ?_
  refine x_vi (y := xs ((i + 1))) (congrArg xs (nI_clamp (by omega))) ?_
  refine lv_aload_n hx hb d_L_law_1034 rfl (lv_at hl 0 rfl) ?_
  refine lv_iload hx hb d_L_law_1035 (lv_at hl 4 rfl) ?_
  refine lv_iconst (v := nI 2) hx hb d_L_law_1037 (by decide) ?_
  refine lv_iadd hx hb d_L_law_1038 ?_
  refine x_vi (y := nI (i + 2)) (nI_add _ _) ?_
  refine va_sld hx hb hX hbl hbA hw.S (x_inr rfl (show (i + 2) < L by omega) (by omega)) d_L_law_1039 ?_
  refine x_vi (y := xs ((i + 2))) (congrArg xs (nI_clamp (by omega))) ?_
  refine lv_aload_n hx hb d_L_law_1040 rfl (lv_at hl 3 rfl) ?_
  refine x_callH hC (c_L_byteOf l hfl G M1 (Array.size H) fz ad nu sg hR out ov hoo (xs (i + 1)) (xs (i + 2)) hst8 h60 hfm h_out) k_706 k_0 ⟨Nat.le_of_ble_eq_true rfl, Nat.le_of_ble_eq_true rfl⟩ ⟨(show 60 + 6 * i + 2 ≤ 601024 by omega), (show 7200 + 370 * i + 12 ≤ 7293034 by omega)⟩ hw hl.1 (Nat.le_of_ble_eq_true rfl) d_L_law_1041 (x_ivSH hC k_706 k_704 k_705 k_0 (show _ ∧ _ ∧ _ = some 4 from by decide +kernel) rfl d_L_law_1041) (fun rv M1 H locs hq hw => ?_) (fun _ _ _ _ _ h _ _ => h.elim)
  obtain ⟨rfl, ad', nu', sg', ov', q1, q7, q6, h_out', q5, qa, qb⟩ := hq
  have hM1 := hM.cfo q5 hds hos
  refine W.eq (g2 := F0 m 1044 ls [.int (nI (byteOfK nu (xs (i + 1)) (xs (i + 2))))]) rfl ?_
  refine lv_istore (lv' := [(5, .int (nI (byteOfK nu (xs (i + 1)) (xs (i + 2))))), (0, .ref b), (1, .ref (ad 14 0)), (2, .ref md), (3, .ref out), (4, .int (nI i))]) hx hb d_L_law_1044 hl (by decide) rfl (fun ls hl => ?_)
  refine lv_aload_n hx hb d_L_law_1046 rfl (lv_at hl 3 rfl) ?_
  refine lv_aload_n hx hb d_L_law_1047 rfl (lv_at hl 1 rfl) ?_
  refine lv_iload hx hb d_L_law_1048 (lv_at hl 5 rfl) ?_
  refine lv_iconst (v := nI 1) hx hb d_L_law_1050 (by decide) ?_
  refine lv_iadd hx hb d_L_law_1051 ?_
  refine x_vi (y := nI (i + 1)) (nI_add _ _) ?_
  refine va_sld hx hb hX hbl hbA hw.S (x_inr rfl (show (i + 1) < L by omega) (by omega)) d_L_law_1052 ?_
  refine x_vi (y := xs ((i + 1))) (congrArg xs (nI_clamp (by omega))) ?_
  refine lv_aload_n hx hb d_L_law_1053 rfl (lv_at hl 1 rfl) ?_
  refine lv_iload hx hb d_L_law_1054 (lv_at hl 5 rfl) ?_
  refine lv_iconst (v := nI 2) hx hb d_L_law_1056 (by decide) ?_
  refine lv_iadd hx hb d_L_law_1057 ?_
  refine x_vi (y := nI (i + 2)) (nI_add _ _) ?_
  refine va_sld hx hb hX hbl hbA hw.S (x_inr rfl (show (i + 2) < L by omega) (by omega)) d_L_law_1058 ?_
  refine x_vi (y := xs ((i + 2))) (congrArg xs (nI_clamp (by omega))) ?_
  refine x_callG hC (c_M_byteOf l G M1 (Array.size H) md am nu sg hM1 (xs (i + 1)) (xs (i + 2)) hst8 h60) k_959 k_13 ⟨Nat.le_of_ble_eq_true rfl, Nat.le_of_ble_eq_true rfl⟩ ⟨(show 60 + 6 * i + 2 ≤ 601024 by omega), (show 7200 + 370 * i + 12 ≤ 7293034 by omega)⟩ hw hl.1 (Nat.le_of_ble_eq_true rfl) d_L_law_1059 (x_ivV hC k_959 k_956 k_957 k_958 (show _ ∧ _ ∧ _ = some 2 from by decide +kernel) (x_recv hC hw hM1.1 rfl) rfl d_L_law_1059) (fun rv M2 H locs hq hw => ?_) (fun _ _ _ _ _ h _ _ => h.elim)
  obtain ⟨bx, nu2, rfl, mV, hm, mN, fr, mK⟩ := hq
  refine W.eq (g2 := F0 m 1062 ls [.int bx]) rfl ?_
  have hsame : nu' = nu ∧ sg' = sg := by by_cases hz9 : byteOfK nu (xs (i + 1)) (xs (i + 2)) = 0; exact (qa hz9).2; exact qb hz9
  have hfin : lawI G M2 fz ad' md out am nu2 sg ov' := law_same (x_fz0 hC hw hI.1.2.1.1) hI q1 q6 h_out' q5 hm fr hsame mN
  refine lv_istore (lv' := [(6, .int bx), (5, .int (nI (byteOfK nu (xs (i + 1)) (xs (i + 2))))), (0, .ref b), (1, .ref (ad 14 0)), (2, .ref md), (3, .ref out), (4, .int (nI i))]) hx hb d_L_law_1062 hl (by decide) rfl (fun ls hl => ?_)
  refine lv_aload_n hx hb d_L_law_1064 rfl (lv_at hl 4 rfl) ?_
  refine x_callG hC (c_M_thrown l G M2 (Array.size H) md am nu2 sg hm) k_835 k_13 ⟨Nat.le_of_ble_eq_true rfl, Nat.le_of_ble_eq_true rfl⟩ ⟨(show 60 + 6 * i + 2 ≤ 601024 by omega), (show 7200 + 370 * i + 12 ≤ 7293034 by omega)⟩ hw hl.1 (Nat.le_of_ble_eq_true rfl) d_L_law_1065 (x_ivV hC k_835 k_832 k_833 k_834 (show _ ∧ _ ∧ _ = some 0 from by decide +kernel) (x_recv hC hw hm.1 rfl) rfl d_L_law_1065) (fun rv M3 H locs hq hw => ?_) (fun _ _ _ _ _ h _ _ => h.elim)
  obtain ⟨rfl, hMe⟩ := hq
  subst M3
  refine W.eq (g2 := F0 m 1068 ls [.int (nI (nu2 0 0))]) rfl ?_
  refine x_vi (y := nI (byteOfK nu (xs (i + 1)) (xs (i + 2)))) (congrArg nI mK) ?_
  refine lv_iload hx hb d_L_law_1068 (lv_at hl 1 rfl) ?_
  refine lv_icmp_eq (tgt := 1075) hx hb d_L_law_1070 (by decide) (fun _ => ?_) (fun z => absurd rfl z)
  refine lv_iload hx hb d_L_law_1075 (lv_at hl 1 rfl) ?_
  have hKle : byteOfK nu (xs (i + 1)) (xs (i + 2)) ≤ 3 := kt_le3 (by decide) (by decide)
  refine lv_if_ne (tgt := 1092) hx hb d_L_law_1077 (by decide) (fun hz8 => ?_) (fun hz8 => ?_)
  · refine lv_goto (tgt := 1244) hx hb d_L_law_1092 (by decide) ?_
    refine lv_iinc (v := nI (i + 6)) (lv' := [(4, .int (nI (i + 6))), (6, .int bx), (5, .int (nI (byteOfK nu (xs (i + 1)) (xs (i + 2))))), (0, .ref b), (1, .ref (ad 14 0)), (2, .ref md), (3, .ref out)]) hx hb d_L_law_1244 hl (k := 6) rfl (by exact nI_add _ 6) (by decide) rfl (fun ls hl => ?_)
    refine lv_goto (tgt := 23) hx hb d_L_law_1247 (by decide) ?_
    exact W.widen (show 60 + 6 * i + 2 ≤ 60 + 6 * (i + 6) by omega) (show 7200 + 370 * i + 12 ≤ 7200 + 370 * (i + 6) by omega) (hNext _ _ _ _ _ _ _ _ hfin q7 hw (lv_sub hl [3, 4, 5, 6, 0] rfl))
  · have hz9 : byteOfK nu (xs (i + 1)) (xs (i + 2)) = 0 := (K0 hKle).mp hz8
    have ho3 := hfin.2.2.2.1
    refine lv_aload_n hx hb d_L_law_1080 rfl (lv_at hl 5 rfl) ?_
    refine lv_iconst (v := nI 0) hx hb d_L_law_1081 (by decide) ?_
    refine x_lald (j := 0) hC hw ho3 rfl (rfl) (by omega) (by omega) d_L_law_1082 ?_
    refine lv_iload hx hb d_L_law_1083 (lv_at hl 0 rfl) ?_
    refine lv_i2l (v := Int32.toInt64 bx) hx hb d_L_law_1085 rfl ?_
    refine W.lcmp hx hb d_L_law_1086 ?_
    refine lv_if_eq (tgt := 1092) hx hb d_L_law_1087 (by decide) (fun _ => ?_) (fun z => absurd (x_lcmp.mpr (by rw [(qa hz9).1, mV hz9])) z)
    refine lv_goto (tgt := 1244) hx hb d_L_law_1092 (by decide) ?_
    refine lv_iinc (v := nI (i + 6)) (lv' := [(4, .int (nI (i + 6))), (6, .int bx), (5, .int (nI (byteOfK nu (xs (i + 1)) (xs (i + 2))))), (0, .ref b), (1, .ref (ad 14 0)), (2, .ref md), (3, .ref out)]) hx hb d_L_law_1244 hl (k := 6) rfl (by exact nI_add _ 6) (by decide) rfl (fun ls hl => ?_)
    refine lv_goto (tgt := 23) hx hb d_L_law_1247 (by decide) ?_
    exact W.widen (show 60 + 6 * i + 2 ≤ 60 + 6 * (i + 6) by omega) (show 7200 + 370 * i + 12 ≤ 7200 + 370 * (i + 6) by omega) (hNext _ _ _ _ _ _ _ _ hfin q7 hw (lv_sub hl [3, 4, 5, 6, 0] rfl))
set_option maxHeartbeats 1000000 in
set_option maxRecDepth 100000 in
theorem l_case_14 {p : Program} {l : Launch} (hfl : l.flags = flags0) {e : Env} {s : State} {m : MethodId} {below : List Frame} {meth : Method} {c : Code} {G : xT} {M : xMem} {sz : Nat} {b L : Nat} {xs : Nat → Int32} {rc md out fz : Nat} {am : Nat → Nat} (hC : xC p s m ([.ref b] : List Value).toArray meth c b_L_law y_L_law.cls 7 G (xA M sz)) (hX : va_X b L xs s s.heap) (hbl : b < s.heap.size) (hbA : ¬ xA M sz b) {i : Nat} (hi : i + 6 ≤ L) (hL : L ≤ 3072) {Q : State → Prop}
    (hNext : ∀ (M1 : xMem) (ad : Nat → Nat → Nat) (nu : Nat → Nat → Nat) (sg : Nat → Nat → Int32) (ov : Nat → Int64) (H : Heap) (locs : List Loc) (ls : Array Slot), lawI G M1 fz ad md out am nu sg ov → ad 14 0 = rc → xWd G (xA M sz) s.heap M1 H locs → lv_has ls 7 [(0, .ref b), (1, .ref rc), (2, .ref md), (3, .ref out), (4, .int (nI (i + 6)))] → W p l e { frames := 13, cells := 601024, slots := 7293034, locals := 488 } s m ([.ref b] : List Value).toArray below meth c H locs (60 + 6 * (i + 6)) (7200 + 370 * (i + 6)) Q (F0 m 23 ls []))
    (M1 : xMem) (ad : Nat → Nat → Nat) (nu : Nat → Nat → Nat) (sg : Nat → Nat → Int32) (ov : Nat → Int64) (H : Heap) (locs : List Loc) (ls : Array Slot) (hI : lawI G M1 fz ad md out am nu sg ov) (h14 : ad 14 0 = rc) (hw : xWd G (xA M sz) s.heap M1 H locs) (hl : lv_has ls 7 [(0, .ref b), (1, .ref rc), (2, .ref md), (3, .ref out), (4, .int (nI i))]) : W p l e { frames := 13, cells := 601024, slots := 7293034, locals := 488 } s m ([.ref b] : List Value).toArray below meth c H locs (60 + 6 * i) (7200 + 370 * i) Q (F0 m 1095 ls []) := by
  subst h14
  obtain ⟨hR, hM, ok, h_out, hoo, hos, hds⟩ := id hI
  obtain ⟨h20, h12, h4, h8a, hst8, h100, h40, h8, h60, hfm, hen, hok, hpg, hlt, hf0, hw0, ht0, hu9⟩ := id ok
  obtain ⟨hx, hb, hown, hts, hK9, hml, hlk, hz⟩ := id hC
  refine lv_aload_n hx hb d_L_law_1095 rfl (lv_at hl 1 rfl) ?_
  refine lv_aload_n hx hb d_L_law_1096 rfl (lv_at hl 0 rfl) ?_
  refine lv_iload hx hb d_L_law_1097 (lv_at hl 4 rfl) ?_
  refine lv_iconst (v := nI 1) hx hb d_L_law_1099 (by decide) ?_
  refine lv_iadd hx hb d_L_law_1100 ?_
  refine x_vi (y := nI (i + 1)) (nI_add _ _) ?_
  refine va_sld hx hb hX hbl hbA hw.S (x_inr rfl (show (i + 1) < L by omega) (by omega)) d_L_law_1101 ?_
  refine x_vi (y := xs ((i + 1))) (congrArg xs (nI_clamp (by omega))) ?_
  refine lv_aload_n hx hb d_L_law_1102 rfl (lv_at hl 3 rfl) ?_
  refine x_callH hC (c_L_formOf l hfl G M1 (Array.size H) fz ad nu sg hR out ov hoo (xs (i + 1)) h12 hfm h_out) k_714 k_0 ⟨Nat.le_of_ble_eq_true rfl, Nat.le_of_ble_eq_true rfl⟩ ⟨(show 60 + 6 * i + 1 ≤ 601024 by omega), (show 7200 + 370 * i + 6 ≤ 7293034 by omega)⟩ hw hl.1 (Nat.le_of_ble_eq_true rfl) d_L_law_1103 (x_ivSH hC k_714 k_712 k_713 k_0 (show _ ∧ _ ∧ _ = some 3 from by decide +kernel) rfl d_L_law_1103) (fun rv M1 H locs hq hw => ?_) (fun _ _ _ _ _ h _ _ => h.elim)
  obtain ⟨rfl, ad', nu', sg', ov', q1, q7, q6, h_out', q5, qa, qb⟩ := hq
  have hM1 := hM.cfo q5 hds hos
  refine W.eq (g2 := F0 m 1106 ls [.int (nI (formOfK nu (xs (i + 1))))]) rfl ?_
  refine lv_istore (lv' := [(5, .int (nI (formOfK nu (xs (i + 1))))), (0, .ref b), (1, .ref (ad 14 0)), (2, .ref md), (3, .ref out), (4, .int (nI i))]) hx hb d_L_law_1106 hl (by decide) rfl (fun ls hl => ?_)
  refine lv_aload_n hx hb d_L_law_1108 rfl (lv_at hl 3 rfl) ?_
  refine lv_aload_n hx hb d_L_law_1109 rfl (lv_at hl 1 rfl) ?_
  refine lv_iload hx hb d_L_law_1110 (lv_at hl 5 rfl) ?_
  refine lv_iconst (v := nI 1) hx hb d_L_law_1112 (by decide) ?_
  refine lv_iadd hx hb d_L_law_1113 ?_
  refine x_vi (y := nI (i + 1)) (nI_add _ _) ?_
  refine va_sld hx hb hX hbl hbA hw.S (x_inr rfl (show (i + 1) < L by omega) (by omega)) d_L_law_1114 ?_
  refine x_vi (y := xs ((i + 1))) (congrArg xs (nI_clamp (by omega))) ?_
  refine x_callG hC (c_M_formOf l G M1 (Array.size H) md am nu sg hM1 (xs (i + 1)) h12) k_963 k_13 ⟨Nat.le_of_ble_eq_true rfl, Nat.le_of_ble_eq_true rfl⟩ ⟨(show 60 + 6 * i + 1 ≤ 601024 by omega), (show 7200 + 370 * i + 6 ≤ 7293034 by omega)⟩ hw hl.1 (Nat.le_of_ble_eq_true rfl) d_L_law_1115 (x_ivV hC k_963 k_960 k_961 k_962 (show _ ∧ _ ∧ _ = some 1 from by decide +kernel) (x_recv hC hw hM1.1 rfl) rfl d_L_law_1115) (fun rv M2 H locs hq hw => ?_) (fun _ _ _ _ _ h _ _ => h.elim)
  obtain ⟨bx, nu2, rfl, mV, hm, mN, fr, mK⟩ := hq
  refine W.eq (g2 := F0 m 1118 ls [.int bx]) rfl ?_
  have hsame : nu' = nu ∧ sg' = sg := by by_cases hz9 : formOfK nu (xs (i + 1)) = 0; exact (qa hz9).2; exact qb hz9
  have hfin : lawI G M2 fz ad' md out am nu2 sg ov' := law_same (x_fz0 hC hw hI.1.2.1.1) hI q1 q6 h_out' q5 hm fr hsame mN
  refine lv_istore (lv' := [(6, .int bx), (5, .int (nI (formOfK nu (xs (i + 1))))), (0, .ref b), (1, .ref (ad 14 0)), (2, .ref md), (3, .ref out), (4, .int (nI i))]) hx hb d_L_law_1118 hl (by decide) rfl (fun ls hl => ?_)
  refine lv_aload_n hx hb d_L_law_1120 rfl (lv_at hl 4 rfl) ?_
  refine x_callG hC (c_M_thrown l G M2 (Array.size H) md am nu2 sg hm) k_835 k_13 ⟨Nat.le_of_ble_eq_true rfl, Nat.le_of_ble_eq_true rfl⟩ ⟨(show 60 + 6 * i + 1 ≤ 601024 by omega), (show 7200 + 370 * i + 6 ≤ 7293034 by omega)⟩ hw hl.1 (Nat.le_of_ble_eq_true rfl) d_L_law_1121 (x_ivV hC k_835 k_832 k_833 k_834 (show _ ∧ _ ∧ _ = some 0 from by decide +kernel) (x_recv hC hw hm.1 rfl) rfl d_L_law_1121) (fun rv M3 H locs hq hw => ?_) (fun _ _ _ _ _ h _ _ => h.elim)
  obtain ⟨rfl, hMe⟩ := hq
  subst M3
  refine W.eq (g2 := F0 m 1124 ls [.int (nI (nu2 0 0))]) rfl ?_
  refine x_vi (y := nI (formOfK nu (xs (i + 1)))) (congrArg nI mK) ?_
  refine lv_iload hx hb d_L_law_1124 (lv_at hl 1 rfl) ?_
  refine lv_icmp_eq (tgt := 1131) hx hb d_L_law_1126 (by decide) (fun _ => ?_) (fun z => absurd rfl z)
  refine lv_iload hx hb d_L_law_1131 (lv_at hl 1 rfl) ?_
  have hKle : formOfK nu (xs (i + 1)) ≤ 3 := kt_le3 (by decide) (by decide)
  refine lv_if_ne (tgt := 1148) hx hb d_L_law_1133 (by decide) (fun hz8 => ?_) (fun hz8 => ?_)
  · refine lv_goto (tgt := 1244) hx hb d_L_law_1148 (by decide) ?_
    refine lv_iinc (v := nI (i + 6)) (lv' := [(4, .int (nI (i + 6))), (6, .int bx), (5, .int (nI (formOfK nu (xs (i + 1))))), (0, .ref b), (1, .ref (ad 14 0)), (2, .ref md), (3, .ref out)]) hx hb d_L_law_1244 hl (k := 6) rfl (by exact nI_add _ 6) (by decide) rfl (fun ls hl => ?_)
    refine lv_goto (tgt := 23) hx hb d_L_law_1247 (by decide) ?_
    exact W.widen (show 60 + 6 * i + 1 ≤ 60 + 6 * (i + 6) by omega) (show 7200 + 370 * i + 6 ≤ 7200 + 370 * (i + 6) by omega) (hNext _ _ _ _ _ _ _ _ hfin q7 hw (lv_sub hl [3, 4, 5, 6, 0] rfl))
  · have hz9 : formOfK nu (xs (i + 1)) = 0 := (K0 hKle).mp hz8
    have ho3 := hfin.2.2.2.1
    refine lv_aload_n hx hb d_L_law_1136 rfl (lv_at hl 5 rfl) ?_
    refine lv_iconst (v := nI 0) hx hb d_L_law_1137 (by decide) ?_
    refine x_lald (j := 0) hC hw ho3 rfl (rfl) (by omega) (by omega) d_L_law_1138 ?_
    refine lv_iload hx hb d_L_law_1139 (lv_at hl 0 rfl) ?_
    refine lv_i2l (v := Int32.toInt64 bx) hx hb d_L_law_1141 rfl ?_
    refine W.lcmp hx hb d_L_law_1142 ?_
    refine lv_if_eq (tgt := 1148) hx hb d_L_law_1143 (by decide) (fun _ => ?_) (fun z => absurd (x_lcmp.mpr (by rw [(qa hz9).1, mV hz9])) z)
    refine lv_goto (tgt := 1244) hx hb d_L_law_1148 (by decide) ?_
    refine lv_iinc (v := nI (i + 6)) (lv' := [(4, .int (nI (i + 6))), (6, .int bx), (5, .int (nI (formOfK nu (xs (i + 1))))), (0, .ref b), (1, .ref (ad 14 0)), (2, .ref md), (3, .ref out)]) hx hb d_L_law_1244 hl (k := 6) rfl (by exact nI_add _ 6) (by decide) rfl (fun ls hl => ?_)
    refine lv_goto (tgt := 23) hx hb d_L_law_1247 (by decide) ?_
    exact W.widen (show 60 + 6 * i + 1 ≤ 60 + 6 * (i + 6) by omega) (show 7200 + 370 * i + 6 ≤ 7200 + 370 * (i + 6) by omega) (hNext _ _ _ _ _ _ _ _ hfin q7 hw (lv_sub hl [3, 4, 5, 6, 0] rfl))
set_option maxHeartbeats 1000000 in
set_option maxRecDepth 100000 in
theorem l_case_15 {p : Program} {l : Launch} (hfl : l.flags = flags0) {e : Env} {s : State} {m : MethodId} {below : List Frame} {meth : Method} {c : Code} {G : xT} {M : xMem} {sz : Nat} {b L : Nat} {xs : Nat → Int32} {rc md out fz : Nat} {am : Nat → Nat} (hC : xC p s m ([.ref b] : List Value).toArray meth c b_L_law y_L_law.cls 7 G (xA M sz)) (hX : va_X b L xs s s.heap) (hbl : b < s.heap.size) (hbA : ¬ xA M sz b) {i : Nat} (hi : i + 6 ≤ L) (hL : L ≤ 3072) {Q : State → Prop}
    (hNext : ∀ (M1 : xMem) (ad : Nat → Nat → Nat) (nu : Nat → Nat → Nat) (sg : Nat → Nat → Int32) (ov : Nat → Int64) (H : Heap) (locs : List Loc) (ls : Array Slot), lawI G M1 fz ad md out am nu sg ov → ad 14 0 = rc → xWd G (xA M sz) s.heap M1 H locs → lv_has ls 7 [(0, .ref b), (1, .ref rc), (2, .ref md), (3, .ref out), (4, .int (nI (i + 6)))] → W p l e { frames := 13, cells := 601024, slots := 7293034, locals := 488 } s m ([.ref b] : List Value).toArray below meth c H locs (60 + 6 * (i + 6)) (7200 + 370 * (i + 6)) Q (F0 m 23 ls []))
    (M1 : xMem) (ad : Nat → Nat → Nat) (nu : Nat → Nat → Nat) (sg : Nat → Nat → Int32) (ov : Nat → Int64) (H : Heap) (locs : List Loc) (ls : Array Slot) (hI : lawI G M1 fz ad md out am nu sg ov) (h14 : ad 14 0 = rc) (hw : xWd G (xA M sz) s.heap M1 H locs) (hl : lv_has ls 7 [(0, .ref b), (1, .ref rc), (2, .ref md), (3, .ref out), (4, .int (nI i))]) : W p l e { frames := 13, cells := 601024, slots := 7293034, locals := 488 } s m ([.ref b] : List Value).toArray below meth c H locs (60 + 6 * i) (7200 + 370 * i) Q (F0 m 1151 ls []) := by
  subst h14
  obtain ⟨hR, hM, ok, h_out, hoo, hos, hds⟩ := id hI
  obtain ⟨h20, h12, h4, h8a, hst8, h100, h40, h8, h60, hfm, hen, hok, hpg, hlt, hf0, hw0, ht0, hu9⟩ := id ok
  obtain ⟨hx, hb, hown, hts, hK9, hml, hlk, hz⟩ := id hC
  refine lv_aload_n hx hb d_L_law_1151 rfl (lv_at hl 1 rfl) ?_
  refine lv_aload_n hx hb d_L_law_1152 rfl (lv_at hl 0 rfl) ?_
  refine lv_iload hx hb d_L_law_1153 (lv_at hl 4 rfl) ?_
  refine lv_iconst (v := nI 1) hx hb d_L_law_1155 (by decide) ?_
  refine lv_iadd hx hb d_L_law_1156 ?_
  refine x_vi (y := nI (i + 1)) (nI_add _ _) ?_
  refine va_sld hx hb hX hbl hbA hw.S (x_inr rfl (show (i + 1) < L by omega) (by omega)) d_L_law_1157 ?_
  refine x_vi (y := xs ((i + 1))) (congrArg xs (nI_clamp (by omega))) ?_
  refine lv_aload_n hx hb d_L_law_1158 rfl (lv_at hl 0 rfl) ?_
  refine lv_iload hx hb d_L_law_1159 (lv_at hl 4 rfl) ?_
  refine lv_iconst (v := nI 2) hx hb d_L_law_1161 (by decide) ?_
  refine lv_iadd hx hb d_L_law_1162 ?_
  refine x_vi (y := nI (i + 2)) (nI_add _ _) ?_
  refine va_sld hx hb hX hbl hbA hw.S (x_inr rfl (show (i + 2) < L by omega) (by omega)) d_L_law_1163 ?_
  refine x_vi (y := xs ((i + 2))) (congrArg xs (nI_clamp (by omega))) ?_
  refine lv_aload_n hx hb d_L_law_1164 rfl (lv_at hl 3 rfl) ?_
  refine x_callH hC (c_L_many l hfl G M1 (Array.size H) fz ad nu sg hR out ov hoo (xs (i + 1)) (xs (i + 2)) h20 hst8 h4 hfm h_out) k_722 k_0 ⟨Nat.le_of_ble_eq_true rfl, Nat.le_of_ble_eq_true rfl⟩ ⟨(show 60 + 6 * i + 1 ≤ 601024 by omega), (show 7200 + 370 * i + 6 ≤ 7293034 by omega)⟩ hw hl.1 (Nat.le_of_ble_eq_true rfl) d_L_law_1165 (x_ivSH hC k_722 k_720 k_721 k_0 (show _ ∧ _ ∧ _ = some 4 from by decide +kernel) rfl d_L_law_1165) (fun rv M1 H locs hq hw => ?_) (fun _ _ _ _ _ h _ _ => h.elim)
  obtain ⟨rfl, ad', nu', sg', ov', q1, q7, q6, h_out', q5, qa, qb⟩ := hq
  have hM1 := hM.cfo q5 hds hos
  refine W.eq (g2 := F0 m 1168 ls [.int (nI (manyK nu (xs (i + 1)) (xs (i + 2))))]) rfl ?_
  refine lv_istore (lv' := [(5, .int (nI (manyK nu (xs (i + 1)) (xs (i + 2))))), (0, .ref b), (1, .ref (ad 14 0)), (2, .ref md), (3, .ref out), (4, .int (nI i))]) hx hb d_L_law_1168 hl (by decide) rfl (fun ls hl => ?_)
  refine lv_aload_n hx hb d_L_law_1170 rfl (lv_at hl 3 rfl) ?_
  refine lv_aload_n hx hb d_L_law_1171 rfl (lv_at hl 1 rfl) ?_
  refine lv_iload hx hb d_L_law_1172 (lv_at hl 5 rfl) ?_
  refine lv_iconst (v := nI 1) hx hb d_L_law_1174 (by decide) ?_
  refine lv_iadd hx hb d_L_law_1175 ?_
  refine x_vi (y := nI (i + 1)) (nI_add _ _) ?_
  refine va_sld hx hb hX hbl hbA hw.S (x_inr rfl (show (i + 1) < L by omega) (by omega)) d_L_law_1176 ?_
  refine x_vi (y := xs ((i + 1))) (congrArg xs (nI_clamp (by omega))) ?_
  refine lv_aload_n hx hb d_L_law_1177 rfl (lv_at hl 1 rfl) ?_
  refine lv_iload hx hb d_L_law_1178 (lv_at hl 5 rfl) ?_
  refine lv_iconst (v := nI 2) hx hb d_L_law_1180 (by decide) ?_
  refine lv_iadd hx hb d_L_law_1181 ?_
  refine x_vi (y := nI (i + 2)) (nI_add _ _) ?_
  refine va_sld hx hb hX hbl hbA hw.S (x_inr rfl (show (i + 2) < L by omega) (by omega)) d_L_law_1182 ?_
  refine x_vi (y := xs ((i + 2))) (congrArg xs (nI_clamp (by omega))) ?_
  refine x_callG hC (c_M_many l G M1 (Array.size H) md am nu sg hM1 (xs (i + 1)) (xs (i + 2)) h20 hst8 h4) k_967 k_13 ⟨Nat.le_of_ble_eq_true rfl, Nat.le_of_ble_eq_true rfl⟩ ⟨(show 60 + 6 * i + 1 ≤ 601024 by omega), (show 7200 + 370 * i + 6 ≤ 7293034 by omega)⟩ hw hl.1 (Nat.le_of_ble_eq_true rfl) d_L_law_1183 (x_ivV hC k_967 k_964 k_965 k_966 (show _ ∧ _ ∧ _ = some 2 from by decide +kernel) (x_recv hC hw hM1.1 rfl) rfl d_L_law_1183) (fun rv M2 H locs hq hw => ?_) (fun _ _ _ _ _ h _ _ => h.elim)
  obtain ⟨bx, nu2, rfl, mV, hm, mN, fr, mK⟩ := hq
  refine W.eq (g2 := F0 m 1186 ls [.int bx]) rfl ?_
  have hsame : nu' = nu ∧ sg' = sg := by by_cases hz9 : manyK nu (xs (i + 1)) (xs (i + 2)) = 0; exact (qa hz9).2; exact qb hz9
  have hfin : lawI G M2 fz ad' md out am nu2 sg ov' := law_same (x_fz0 hC hw hI.1.2.1.1) hI q1 q6 h_out' q5 hm fr hsame mN
  refine lv_istore (lv' := [(6, .int bx), (5, .int (nI (manyK nu (xs (i + 1)) (xs (i + 2))))), (0, .ref b), (1, .ref (ad 14 0)), (2, .ref md), (3, .ref out), (4, .int (nI i))]) hx hb d_L_law_1186 hl (by decide) rfl (fun ls hl => ?_)
  refine lv_aload_n hx hb d_L_law_1188 rfl (lv_at hl 4 rfl) ?_
  refine x_callG hC (c_M_thrown l G M2 (Array.size H) md am nu2 sg hm) k_835 k_13 ⟨Nat.le_of_ble_eq_true rfl, Nat.le_of_ble_eq_true rfl⟩ ⟨(show 60 + 6 * i + 1 ≤ 601024 by omega), (show 7200 + 370 * i + 6 ≤ 7293034 by omega)⟩ hw hl.1 (Nat.le_of_ble_eq_true rfl) d_L_law_1189 (x_ivV hC k_835 k_832 k_833 k_834 (show _ ∧ _ ∧ _ = some 0 from by decide +kernel) (x_recv hC hw hm.1 rfl) rfl d_L_law_1189) (fun rv M3 H locs hq hw => ?_) (fun _ _ _ _ _ h _ _ => h.elim)
  obtain ⟨rfl, hMe⟩ := hq
  subst M3
  refine W.eq (g2 := F0 m 1192 ls [.int (nI (nu2 0 0))]) rfl ?_
  refine x_vi (y := nI (manyK nu (xs (i + 1)) (xs (i + 2)))) (congrArg nI mK) ?_
  refine lv_iload hx hb d_L_law_1192 (lv_at hl 1 rfl) ?_
  refine lv_icmp_eq (tgt := 1199) hx hb d_L_law_1194 (by decide) (fun _ => ?_) (fun z => absurd rfl z)
  refine lv_iload hx hb d_L_law_1199 (lv_at hl 1 rfl) ?_
  have hKle : manyK nu (xs (i + 1)) (xs (i + 2)) ≤ 3 := kt_le3 (by decide) (by decide)
  refine lv_if_ne (tgt := 1216) hx hb d_L_law_1201 (by decide) (fun hz8 => ?_) (fun hz8 => ?_)
  · refine lv_goto (tgt := 1244) hx hb d_L_law_1216 (by decide) ?_
    refine lv_iinc (v := nI (i + 6)) (lv' := [(4, .int (nI (i + 6))), (6, .int bx), (5, .int (nI (manyK nu (xs (i + 1)) (xs (i + 2))))), (0, .ref b), (1, .ref (ad 14 0)), (2, .ref md), (3, .ref out)]) hx hb d_L_law_1244 hl (k := 6) rfl (by exact nI_add _ 6) (by decide) rfl (fun ls hl => ?_)
    refine lv_goto (tgt := 23) hx hb d_L_law_1247 (by decide) ?_
    exact W.widen (show 60 + 6 * i + 1 ≤ 60 + 6 * (i + 6) by omega) (show 7200 + 370 * i + 6 ≤ 7200 + 370 * (i + 6) by omega) (hNext _ _ _ _ _ _ _ _ hfin q7 hw (lv_sub hl [3, 4, 5, 6, 0] rfl))
  · have hz9 : manyK nu (xs (i + 1)) (xs (i + 2)) = 0 := (K0 hKle).mp hz8
    have ho3 := hfin.2.2.2.1
    refine lv_aload_n hx hb d_L_law_1204 rfl (lv_at hl 5 rfl) ?_
    refine lv_iconst (v := nI 0) hx hb d_L_law_1205 (by decide) ?_
    refine x_lald (j := 0) hC hw ho3 rfl (rfl) (by omega) (by omega) d_L_law_1206 ?_
    refine lv_iload hx hb d_L_law_1207 (lv_at hl 0 rfl) ?_
    refine lv_i2l (v := Int32.toInt64 bx) hx hb d_L_law_1209 rfl ?_
    refine W.lcmp hx hb d_L_law_1210 ?_
    refine lv_if_eq (tgt := 1216) hx hb d_L_law_1211 (by decide) (fun _ => ?_) (fun z => absurd (x_lcmp.mpr (by rw [(qa hz9).1, mV hz9])) z)
    refine lv_goto (tgt := 1244) hx hb d_L_law_1216 (by decide) ?_
    refine lv_iinc (v := nI (i + 6)) (lv' := [(4, .int (nI (i + 6))), (6, .int bx), (5, .int (nI (manyK nu (xs (i + 1)) (xs (i + 2))))), (0, .ref b), (1, .ref (ad 14 0)), (2, .ref md), (3, .ref out)]) hx hb d_L_law_1244 hl (k := 6) rfl (by exact nI_add _ 6) (by decide) rfl (fun ls hl => ?_)
    refine lv_goto (tgt := 23) hx hb d_L_law_1247 (by decide) ?_
    exact W.widen (show 60 + 6 * i + 1 ≤ 60 + 6 * (i + 6) by omega) (show 7200 + 370 * i + 6 ≤ 7200 + 370 * (i + 6) by omega) (hNext _ _ _ _ _ _ _ _ hfin q7 hw (lv_sub hl [3, 4, 5, 6, 0] rfl))
set_option maxHeartbeats 1000000 in
set_option maxRecDepth 100000 in
theorem l_case_10 {p : Program} {l : Launch} (hfl : l.flags = flags0) {e : Env} {s : State} {m : MethodId} {below : List Frame} {meth : Method} {c : Code} {G : xT} {M : xMem} {sz : Nat} {b L : Nat} {xs : Nat → Int32} {rc md out fz : Nat} {am : Nat → Nat} (hC : xC p s m ([.ref b] : List Value).toArray meth c b_L_law y_L_law.cls 7 G (xA M sz)) (hX : va_X b L xs s s.heap) (hbl : b < s.heap.size) (hbA : ¬ xA M sz b) {i : Nat} (hi : i + 6 ≤ L) (hL : L ≤ 3072) {Q : State → Prop}
    (hNext : ∀ (M1 : xMem) (ad : Nat → Nat → Nat) (nu : Nat → Nat → Nat) (sg : Nat → Nat → Int32) (ov : Nat → Int64) (H : Heap) (locs : List Loc) (ls : Array Slot), lawI G M1 fz ad md out am nu sg ov → ad 14 0 = rc → xWd G (xA M sz) s.heap M1 H locs → lv_has ls 7 [(0, .ref b), (1, .ref rc), (2, .ref md), (3, .ref out), (4, .int (nI (i + 6)))] → W p l e { frames := 13, cells := 601024, slots := 7293034, locals := 488 } s m ([.ref b] : List Value).toArray below meth c H locs (60 + 6 * (i + 6)) (7200 + 370 * (i + 6)) Q (F0 m 23 ls []))
    (M1 : xMem) (ad : Nat → Nat → Nat) (nu : Nat → Nat → Nat) (sg : Nat → Nat → Int32) (ov : Nat → Int64) (H : Heap) (locs : List Loc) (ls : Array Slot) (hI : lawI G M1 fz ad md out am nu sg ov) (h14 : ad 14 0 = rc) (hw : xWd G (xA M sz) s.heap M1 H locs) (hl : lv_has ls 7 [(0, .ref b), (1, .ref rc), (2, .ref md), (3, .ref out), (4, .int (nI i))]) : W p l e { frames := 13, cells := 601024, slots := 7293034, locals := 488 } s m ([.ref b] : List Value).toArray below meth c H locs (60 + 6 * i) (7200 + 370 * i) Q (F0 m 854 ls []) := by
  subst h14
  obtain ⟨hR, hM, ok, h_out, hoo, hos, hds⟩ := id hI
  obtain ⟨h20, h12, h4, h8a, hst8, h100, h40, h8, h60, hfm, hen, hok, hpg, hlt, hf0, hw0, ht0, hu9⟩ := id ok
  obtain ⟨hx, hb, hown, hts, hK9, hml, hlk, hz⟩ := id hC
  refine lv_aload_n hx hb d_L_law_854 rfl (lv_at hl 1 rfl) ?_
  refine x_callG hC (c_R_look l G M1 (Array.size H) fz ad nu sg hR h4 h8 h40 h60 h12 h20 hst8 hfm hok) k_204 k_1 ⟨Nat.le_of_ble_eq_true rfl, Nat.le_of_ble_eq_true rfl⟩ ⟨(show 60 + 6 * i + 0 ≤ 601024 by omega), (show 7200 + 370 * i + 0 ≤ 7293034 by omega)⟩ hw hl.1 (Nat.le_of_ble_eq_true rfl) d_L_law_855 (x_ivV hC k_204 k_201 k_202 k_203 (show _ ∧ _ ∧ _ = some 0 from by decide +kernel) (x_recv hC hw hR.rc rfl) rfl d_L_law_855) (fun rv M1 H locs hq hw => ?_) (fun _ _ _ _ _ h _ _ => h.elim)
  obtain ⟨rfl, nu', sg', q1, cN1, cS1, c1, c2, q5⟩ := hq
  have hM1 := hM.cfo (cFo.of (out := out) q5) hds hos
  have h_out' := (q5.2 out hoo (x_nn h_out)).trans h_out
  refine W.eq (g2 := F0 m 858 ls [.int (nI (lkF nu sg).1)]) rfl ?_
  refine lv_aload_n hx hb d_L_law_858 rfl (lv_at hl 2 rfl) ?_
  refine x_callG hC (c_M_look l G M1 (Array.size H) md am nu sg hM1 h4 h8 h40 h60 h12 h20 hst8 hfm) k_943 k_13 ⟨Nat.le_of_ble_eq_true rfl, Nat.le_of_ble_eq_true rfl⟩ ⟨(show 60 + 6 * i + 0 ≤ 601024 by omega), (show 7200 + 370 * i + 0 ≤ 7293034 by omega)⟩ hw hl.1 (Nat.le_of_ble_eq_true rfl) d_L_law_859 (x_ivV hC k_943 k_940 k_941 k_942 (show _ ∧ _ ∧ _ = some 0 from by decide +kernel) (x_recv hC hw hM1.1 rfl) rfl d_L_law_859) (fun rv M2 H locs hq hw => ?_) (fun _ _ _ _ _ h _ _ => h.elim)
  obtain ⟨rfl, nu2, sg2, hm, mN, mS, fr, mK, m1, m2⟩ := hq
  refine W.eq (g2 := F0 m 862 ls [.int (nI (lkF nu sg).1), .int (nI (lkF nu sg).1)]) rfl ?_
  have htr := tr_look cN1 cS1 c1 c2 mN mS m1 m2
  have hfm' : ∀ u, u < nu' 7 0 → nu' 9 u < nu' 6 0 := by rw [cN1 7 (by decide), cN1 9 (by decide), cN1 6 (by decide)]; exact hfm
  have hfin : lawI G M2 fz ad md out am nu2 sg2 ov := law_step (x_fz0 hC hw hI.1.2.1.1) hI q1 (fun a ha => Or.inl (own_eq (rng_eqx cN1 (by decide)) ha)) h_out' (cFo.of q5) hm fr (fun M9 hc9 => hc9.to hfm' htr) htr.rng (ok_look ok mN mS (by rw [m1]; unfold lkF; exact lkS_le (lkR_le (lkR_le (Nat.zero_le _)))))
  refine lv_icmp_eq (tgt := 1244) hx hb d_L_law_862 (by decide) (fun _ => ?_) (fun z => absurd rfl z)
  refine lv_iinc (v := nI (i + 6)) (lv' := [(4, .int (nI (i + 6))), (0, .ref b), (1, .ref (ad 14 0)), (2, .ref md), (3, .ref out)]) hx hb d_L_law_1244 hl (k := 4) rfl (by exact nI_add _ 6) (by decide) rfl (fun ls hl => ?_)
  refine lv_goto (tgt := 23) hx hb d_L_law_1247 (by decide) ?_
  exact W.widen (show 60 + 6 * i + 0 ≤ 60 + 6 * (i + 6) by omega) (show 7200 + 370 * i + 0 ≤ 7200 + 370 * (i + 6) by omega) (hNext _ _ _ _ _ _ _ _ hfin rfl hw (lv_sub hl [1, 2, 3, 4, 0] rfl))
set_option maxHeartbeats 1000000 in
set_option maxRecDepth 100000 in
theorem l_case_16 {p : Program} {l : Launch} (hfl : l.flags = flags0) {e : Env} {s : State} {m : MethodId} {below : List Frame} {meth : Method} {c : Code} {G : xT} {M : xMem} {sz : Nat} {b L : Nat} {xs : Nat → Int32} {rc md out fz : Nat} {am : Nat → Nat} (hC : xC p s m ([.ref b] : List Value).toArray meth c b_L_law y_L_law.cls 7 G (xA M sz)) (hX : va_X b L xs s s.heap) (hbl : b < s.heap.size) (hbA : ¬ xA M sz b) {i : Nat} (hi : i + 6 ≤ L) (hL : L ≤ 3072) {Q : State → Prop}
    (hNext : ∀ (M1 : xMem) (ad : Nat → Nat → Nat) (nu : Nat → Nat → Nat) (sg : Nat → Nat → Int32) (ov : Nat → Int64) (H : Heap) (locs : List Loc) (ls : Array Slot), lawI G M1 fz ad md out am nu sg ov → ad 14 0 = rc → xWd G (xA M sz) s.heap M1 H locs → lv_has ls 7 [(0, .ref b), (1, .ref rc), (2, .ref md), (3, .ref out), (4, .int (nI (i + 6)))] → W p l e { frames := 13, cells := 601024, slots := 7293034, locals := 488 } s m ([.ref b] : List Value).toArray below meth c H locs (60 + 6 * (i + 6)) (7200 + 370 * (i + 6)) Q (F0 m 23 ls []))
    (M1 : xMem) (ad : Nat → Nat → Nat) (nu : Nat → Nat → Nat) (sg : Nat → Nat → Int32) (ov : Nat → Int64) (H : Heap) (locs : List Loc) (ls : Array Slot) (hI : lawI G M1 fz ad md out am nu sg ov) (h14 : ad 14 0 = rc) (hw : xWd G (xA M sz) s.heap M1 H locs) (hl : lv_has ls 7 [(0, .ref b), (1, .ref rc), (2, .ref md), (3, .ref out), (4, .int (nI i))]) : W p l e { frames := 13, cells := 601024, slots := 7293034, locals := 488 } s m ([.ref b] : List Value).toArray below meth c H locs (60 + 6 * i) (7200 + 370 * i) Q (F0 m 1219 ls []) := by
  subst h14
  obtain ⟨hR, hM, ok, h_out, hoo, hos, hds⟩ := id hI
  obtain ⟨h20, h12, h4, h8a, hst8, h100, h40, h8, h60, hfm, hen, hok, hpg, hlt, hf0, hw0, ht0, hu9⟩ := id ok
  obtain ⟨hx, hb, hown, hts, hK9, hml, hlk, hz⟩ := id hC
  refine lv_aload_n hx hb d_L_law_1219 rfl (lv_at hl 1 rfl) ?_
  refine lv_aload_n hx hb d_L_law_1220 rfl (lv_at hl 0 rfl) ?_
  refine lv_iload hx hb d_L_law_1221 (lv_at hl 4 rfl) ?_
  refine lv_iconst (v := nI 1) hx hb d_L_law_1223 (by decide) ?_
  refine lv_iadd hx hb d_L_law_1224 ?_
  refine x_vi (y := nI (i + 1)) (nI_add _ _) ?_
  refine va_sld hx hb hX hbl hbA hw.S (x_inr rfl (show (i + 1) < L by omega) (by omega)) d_L_law_1225 ?_
  refine x_vi (y := xs ((i + 1))) (congrArg xs (nI_clamp (by omega))) ?_
  refine x_callG hC (c_R_told l G M1 (Array.size H) fz ad nu sg hR (xs (i + 1))) k_285 k_1 ⟨Nat.le_of_ble_eq_true rfl, Nat.le_of_ble_eq_true rfl⟩ ⟨(show 60 + 6 * i + 0 ≤ 601024 by omega), (show 7200 + 370 * i + 0 ≤ 7293034 by omega)⟩ hw hl.1 (Nat.le_of_ble_eq_true rfl) d_L_law_1226 (x_ivV hC k_285 k_282 k_283 k_284 (show _ ∧ _ ∧ _ = some 1 from by decide +kernel) (x_recv hC hw hR.rc rfl) rfl d_L_law_1226) (fun rv M1 H locs hq hw => ?_) (fun _ _ _ _ _ h _ _ => h.elim)
  obtain ⟨rfl, hMe⟩ := hq
  subst M1
  refine W.eq (g2 := F0 m 1229 ls [.int (toldI nu (xs (i + 1)))]) rfl ?_
  refine lv_aload_n hx hb d_L_law_1229 rfl (lv_at hl 2 rfl) ?_
  refine lv_aload_n hx hb d_L_law_1230 rfl (lv_at hl 0 rfl) ?_
  refine lv_iload hx hb d_L_law_1231 (lv_at hl 4 rfl) ?_
  refine lv_iconst (v := nI 1) hx hb d_L_law_1233 (by decide) ?_
  refine lv_iadd hx hb d_L_law_1234 ?_
  refine x_vi (y := nI (i + 1)) (nI_add _ _) ?_
  refine va_sld hx hb hX hbl hbA hw.S (x_inr rfl (show (i + 1) < L by omega) (by omega)) d_L_law_1235 ?_
  refine x_vi (y := xs ((i + 1))) (congrArg xs (nI_clamp (by omega))) ?_
  refine x_callG hC (c_M_told l G M1 (Array.size H) md am nu sg hM (xs (i + 1))) k_971 k_13 ⟨Nat.le_of_ble_eq_true rfl, Nat.le_of_ble_eq_true rfl⟩ ⟨(show 60 + 6 * i + 0 ≤ 601024 by omega), (show 7200 + 370 * i + 0 ≤ 7293034 by omega)⟩ hw hl.1 (Nat.le_of_ble_eq_true rfl) d_L_law_1236 (x_ivV hC k_971 k_968 k_969 k_970 (show _ ∧ _ ∧ _ = some 1 from by decide +kernel) (x_recv hC hw hM.1 rfl) rfl d_L_law_1236) (fun rv M2 H locs hq hw => ?_) (fun _ _ _ _ _ h _ _ => h.elim)
  obtain ⟨rfl, nu2, sg2, hm, mN, mS, fr, mK⟩ := hq
  obtain rfl : sg2 = sg := funext (fun k => mS k List.not_mem_nil)
  refine W.eq (g2 := F0 m 1239 ls [.int (toldI nu (xs (i + 1))), .int (toldI nu (xs (i + 1)))]) rfl ?_
  have hfin : lawI G M2 fz ad md out am nu2 sg2 ov := law_step (x_fz0 hC hw hI.1.2.1.1) hI hR (fun a ha => Or.inl ha) h_out (cFo.of cFr.rf) hm fr (fun M9 hc9 => hc9.to hfm (trP_0 mN)) (rng_eqx mN (by decide)) (okS_0 ok mN)
  refine lv_icmp_eq (tgt := 1244) hx hb d_L_law_1239 (by decide) (fun _ => ?_) (fun z => absurd rfl z)
  refine lv_iinc (v := nI (i + 6)) (lv' := [(4, .int (nI (i + 6))), (0, .ref b), (1, .ref (ad 14 0)), (2, .ref md), (3, .ref out)]) hx hb d_L_law_1244 hl (k := 4) rfl (by exact nI_add _ 6) (by decide) rfl (fun ls hl => ?_)
  refine lv_goto (tgt := 23) hx hb d_L_law_1247 (by decide) ?_
  exact W.widen (show 60 + 6 * i + 0 ≤ 60 + 6 * (i + 6) by omega) (show 7200 + 370 * i + 0 ≤ 7200 + 370 * (i + 6) by omega) (hNext _ _ _ _ _ _ _ _ hfin rfl hw (lv_sub hl [1, 2, 3, 4, 0] rfl))
set_option maxHeartbeats 1000000 in
set_option maxRecDepth 100000 in
theorem l_case_17 {p : Program} {l : Launch} (hfl : l.flags = flags0) {e : Env} {s : State} {m : MethodId} {below : List Frame} {meth : Method} {c : Code} {G : xT} {M : xMem} {sz : Nat} {b L : Nat} {xs : Nat → Int32} {rc md out fz : Nat} {am : Nat → Nat} (hC : xC p s m ([.ref b] : List Value).toArray meth c b_L_law y_L_law.cls 7 G (xA M sz)) (hX : va_X b L xs s s.heap) (hbl : b < s.heap.size) (hbA : ¬ xA M sz b) {i : Nat} (hi : i + 6 ≤ L) (hL : L ≤ 3072) {Q : State → Prop}
    (hNext : ∀ (M1 : xMem) (ad : Nat → Nat → Nat) (nu : Nat → Nat → Nat) (sg : Nat → Nat → Int32) (ov : Nat → Int64) (H : Heap) (locs : List Loc) (ls : Array Slot), lawI G M1 fz ad md out am nu sg ov → ad 14 0 = rc → xWd G (xA M sz) s.heap M1 H locs → lv_has ls 7 [(0, .ref b), (1, .ref rc), (2, .ref md), (3, .ref out), (4, .int (nI (i + 6)))] → W p l e { frames := 13, cells := 601024, slots := 7293034, locals := 488 } s m ([.ref b] : List Value).toArray below meth c H locs (60 + 6 * (i + 6)) (7200 + 370 * (i + 6)) Q (F0 m 23 ls []))
    (M1 : xMem) (ad : Nat → Nat → Nat) (nu : Nat → Nat → Nat) (sg : Nat → Nat → Int32) (ov : Nat → Int64) (H : Heap) (locs : List Loc) (ls : Array Slot) (hI : lawI G M1 fz ad md out am nu sg ov) (h14 : ad 14 0 = rc) (hw : xWd G (xA M sz) s.heap M1 H locs) (hl : lv_has ls 7 [(0, .ref b), (1, .ref rc), (2, .ref md), (3, .ref out), (4, .int (nI i))]) : W p l e { frames := 13, cells := 601024, slots := 7293034, locals := 488 } s m ([.ref b] : List Value).toArray below meth c H locs (60 + 6 * i) (7200 + 370 * i) Q (F0 m 1244 ls []) := by
  subst h14
  obtain ⟨hR, hM, ok, h_out, hoo, hos, hds⟩ := id hI
  obtain ⟨h20, h12, h4, h8a, hst8, h100, h40, h8, h60, hfm, hen, hok, hpg, hlt, hf0, hw0, ht0, hu9⟩ := id ok
  obtain ⟨hx, hb, hown, hts, hK9, hml, hlk, hz⟩ := id hC
  have hfin := hI
  refine lv_iinc (v := nI (i + 6)) (lv' := [(4, .int (nI (i + 6))), (0, .ref b), (1, .ref (ad 14 0)), (2, .ref md), (3, .ref out)]) hx hb d_L_law_1244 hl (k := 4) rfl (by exact nI_add _ 6) (by decide) rfl (fun ls hl => ?_)
  refine lv_goto (tgt := 23) hx hb d_L_law_1247 (by decide) ?_
  exact W.widen (show 60 + 6 * i + 0 ≤ 60 + 6 * (i + 6) by omega) (show 7200 + 370 * i + 0 ≤ 7200 + 370 * (i + 6) by omega) (hNext _ _ _ _ _ _ _ _ hfin rfl hw (lv_sub hl [1, 2, 3, 4, 0] rfl))