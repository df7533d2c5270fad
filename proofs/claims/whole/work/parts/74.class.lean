theorem lkR_n {nu : Nat → Nat → Nat} {sg : Nat → Nat → Int32} {kd : Int32} {ro : Nat → Nat} {i : Nat} {X : Nat × (Nat → Int32)} {g : Nat → Int32} (hg : ∀ j, j < nu 1 (ro i) → g j = sg 2 (40 * ro i + j)) : ntP (fun w q => stP nu sg g (nu 1 (ro i)) w q) kd (nI i) (-1) (nu 12 0) (nu 1 (ro i)) ((lkR nu sg kd ro i X).1, (lkR nu sg kd ro i X).2) = lkR nu sg kd ro (i + 1) X := by
  rw [lkR]
  exact ntP_c (fun v _ q _ => stP_c hg)
theorem lkE_n {nu : Nat → Nat → Nat} {sg : Nat → Nat → Int32} {t en : Nat} {X : Nat × (Nat → Int32)} {g : Nat → Int32} (hw : wellP (sg 24) en (60 * t) (nu 23 t)) (hg : ∀ j, j < stN en (nu 23 t) → g j = sRow (sg 24) en (60 * t) j) : ntP (fun w q => stP nu sg g (stN en (nu 23 t)) w q) (nI 2) (nI t) (nI en) (nu 12 0) (stN en (nu 23 t)) ((lkE nu sg t en X).1, (lkE nu sg t en X).2) = lkE nu sg t (en + 1) X := by
  rw [lkE_t hw]
  exact ntP_c (fun v _ q _ => stP_c hg)
theorem vlP.fc {ad : Nat → Nat → Nat} {nu : Nat → Nat → Nat} : vlP ad nu [ad 10 0, ad 11 0, ad 12 0, ad 13 0] := vlP.cons (k := 10) Nat.zero_lt_one (by decide) (vlP.cons (k := 11) Nat.zero_lt_one (by decide) vlP.co)
theorem cRep.fin {G : xT} {M M' : xMem} {fz : Nat} {ad : Nat → Nat → Nat} {nu : Nat → Nat → Nat} {sg : Nat → Nat → Int32} {n : Nat} {f g : Nat → Int32} {k : Int32} (h : cRep G M fz ad nu sg) (hz9 : M' fz = none) (hfm : ∀ u, u < nu 7 0 → nu 9 u < nu 6 0) (fr : xfr M M' [ad 10 0, ad 11 0, ad 12 0, ad 13 0]) (h1 : M' (ad 10 0) = some (.inr (7, [.int (nI n), .ref (ad 11 0)]))) (h2 : M' (ad 11 0) = some (.inl (G.2.1 0, 500, .inl f))) (h3 : M' (ad 12 0) = some (.inr (2, [.ref (ad 13 0), .int k]))) (h4 : M' (ad 13 0) = some (.inl (G.2.1 0, 60, .inl g))) : cRep G M' fz ad (va_up nu 25 (fun _ => n)) (va_up sg 26 f) := by
  have e : ∀ k, k ≠ 25 → va_up nu 25 (fun _ => n) k = nu k := fun k hk => va_up_ne _ _ hk
  have hr : ∀ k, rng (va_up nu 25 (fun _ => n)) k = rng nu k := by
    intro k
    unfold rng
    rw [e 6 (by decide), e 7 (by decide), e 12 (by decide), e 15 (by decide), e 21 (by decide)]
  refine h.inpl hz9 fr hr hfm (fun k i => k = 10 ∨ k = 11 ∨ k = 12 ∨ k = 13) ?_ ?_ ?_
  · intro a ha
    simp only [List.mem_cons, List.not_mem_nil, or_false] at ha
    rcases ha with rfl | rfl | rfl | rfl
    · exact ⟨10, 0, rfl, Nat.zero_lt_one, by decide, Or.inl rfl⟩
    · exact ⟨11, 0, rfl, Nat.zero_lt_one, by decide, Or.inr (Or.inl rfl)⟩
    · exact ⟨12, 0, rfl, Nat.zero_lt_one, by decide, Or.inr (Or.inr (Or.inl rfl))⟩
    · exact ⟨13, 0, rfl, Nat.zero_lt_one, by decide, Or.inr (Or.inr (Or.inr rfl))⟩
  · intro k i hi hk
    rcases hk with rfl | rfl | rfl | rfl
    · have hi0 : i = 0 := Nat.lt_one_iff.mp hi
      rw [hi0]
      refine ⟨_, h1, ?_⟩
      show _ = _
      rw [va_up_self]
    · have hi0 : i = 0 := Nat.lt_one_iff.mp hi
      rw [hi0]
      refine ⟨_, h2, ?_⟩
      show _ = _
      rw [va_up_self]
    · have hi0 : i = 0 := Nat.lt_one_iff.mp hi
      rw [hi0]
      exact ⟨_, h3, k, rfl⟩
    · have hi0 : i = 0 := Nat.lt_one_iff.mp hi
      rw [hi0]
      exact ⟨_, h4, g, rfl⟩
  · intro k i hi hk
    have hk15 := rng_k hi
    refine eqK_of (fun x hx => e x ?_) (fun x hx => va_up_ne _ _ ?_)
    · have hz : ∀ k, k < 15 → ¬ (k = 10 ∨ k = 11 ∨ k = 12 ∨ k = 13) → ∀ x ∈ depN k, x ≠ 25 := by decide
      exact hz k hk15 hk x hx
    · have hz : ∀ k, k < 15 → ¬ (k = 10 ∨ k = 11 ∨ k = 12 ∨ k = 13) → ∀ x ∈ depS k, x ≠ 26 := by decide
      exact hz k hk15 hk x hx
theorem cRep.nin4 {G : xT} {M : xMem} {fz : Nat} {ad : Nat → Nat → Nat} {nu : Nat → Nat → Nat} {sg : Nat → Nat → Int32} (h : cRep G M fz ad nu sg) {u : Nat} (hu : u < nu 7 0) : ad 4 u ∉ [ad 10 0, ad 11 0, ad 12 0, ad 13 0] := by
  intro z
  simp only [List.mem_cons, List.not_mem_nil, or_false] at z
  rcases z with z | z | z | z
  · exact h.ne (k := 4) (k' := 10) hu Nat.zero_lt_one (by decide) z
  · exact h.ne (k := 4) (k' := 11) hu Nat.zero_lt_one (by decide) z
  · exact h.ne (k := 4) (k' := 12) hu Nat.zero_lt_one (by decide) z
  · exact h.ne (k := 4) (k' := 13) hu Nat.zero_lt_one (by decide) z
theorem own.i {ad : Nat → Nat → Nat} {nu : Nat → Nat → Nat} {k i : Nat} (h : i < rng nu k) : own ad nu (ad k i) := ⟨k, i, h, rfl⟩
set_option maxHeartbeats 400000 in
set_option maxRecDepth 100000 in
/-- lookThroughStore -/
theorem c_R_lookThroughStore (l : Launch) (G : xT) (M : xMem) (sz : Nat) (fz : Nat) (ad : Nat → Nat → Nat) (nu : Nat → Nat → Nat) (sg : Nat → Nat → Int32) (M0 : xMem) (hR : cRep G M0 fz ad nu sg) (S : List Nat) (hV : xfr M0 M S) (hSL : vlP ad nu S) (t n0 : Nat) (k0 : Int32) (g0 f0 : Nat → Int32) (ht : t < nu 21 0) (hn0 : n0 ≤ 100) (h4 : nu 12 0 ≤ 4) (h8 : ∀ w, nu 13 w ≤ 8) (hst8 : nu 21 0 ≤ 8) (h60 : ∀ t, nu 23 t ≤ 60) (hok : ∀ j, okB (sg 24 j)) (h_f : M (ad 10 0) = some (.inr (7, [.int (nI n0), .ref (ad 11 0)]))) (h_fp : M (ad 11 0) = some (.inl (G.2.1 0, 500, .inl f0))) (h_q : M (ad 12 0) = some (.inr (2, [.ref (ad 13 0), .int k0]))) (h_v : M (ad 13 0) = some (.inl (G.2.1 0, 60, .inl g0))) : xMet l G y_R_lookThroughStore (Cond.code y_R_lookThroughStore b_R_lookThroughStore 4 none :: x_tbl) { frames := 4, cells := 0, slots := 0, locals := 89 } [.ref (ad 14 0), .int (nI t)] M sz (fun u M' => u = none ∧ ∃ (k' : Int32) (g' : Nat → Int32), M' (ad 10 0) = some (.inr (7, [.int (nI (lkE nu sg t 4 (n0, f0)).1), .ref (ad 11 0)])) ∧ M' (ad 11 0) = some (.inl (G.2.1 0, 500, .inl ((lkE nu sg t 4 (n0, f0)).2))) ∧ M' (ad 12 0) = some (.inr (2, [.ref (ad 13 0), .int k'])) ∧ M' (ad 13 0) = some (.inl (G.2.1 0, 60, .inl g')) ∧ xfr M M' [ad 10 0, ad 11 0, ad 12 0, ad 13 0]) (fun _ _ => False) := by
  refine xMet.of (by decide) (Nat.le_of_ble_eq_true rfl) ?_
  intro p e s m below meth c ls hC hr hnm hno hsz hw hl
  obtain ⟨hx, hb, hown, hts, hK, hml, hlk, hz⟩ := id hC
  have hl : lv_has ls 4 [(0, .ref (ad 14 0)), (1, .int (nI t))] := hl
  have hF : xfr M M [ad 10 0, ad 11 0, ad 12 0, ad 13 0] := xfr.rf
  have hV0 := hV
  have hSL0 := hSL
  refine lv_iload_n hx hb d_R_lookThroughStore_0 rfl (lv_at hl 1 rfl) ?_
  refine lv_if_lt (tgt := 15) hx hb d_R_lookThroughStore_1 (by decide) (fun c_1 => ?_) (fun c_1 => ?_)
  · exact absurd c_1 (nI_pos (by omega))
  · refine lv_iload_n hx hb d_R_lookThroughStore_4 rfl (lv_at hl 1 rfl) ?_
    refine lv_aload_n hx hb d_R_lookThroughStore_5 rfl (lv_at hl 0 rfl) ?_
    have hc1 := hR.rc
    have hc1 := hV.get hc1 (hR.ninS hSL (show 0 < 1 by omega) (by decide))
    refine x_get hC hw hc1 rfl 5 (by decide) (hts _ k_181) (fun _ h9 => h9) rfl d_R_lookThroughStore_6 ?_
    obtain ⟨mc2, hc2⟩ := hR.la (k := 5) (by decide)
    have hc2 := hV.get hc2 (hR.ninS hSL (show 5 < 6 by omega) (by decide))
    refine x_callG hC (c_sizeV l G M (Array.size s.heap) fz ad nu sg M0 hR _ hV hSL 5 (by decide)) k_212 k_4 ⟨Nat.le_of_ble_eq_true rfl, Nat.le_of_ble_eq_true rfl⟩ ⟨Nat.le_of_ble_eq_true rfl, Nat.le_of_ble_eq_true rfl⟩ hw hl.1 (Nat.le_of_ble_eq_true rfl) d_R_lookThroughStore_9 (x_ivV hC k_212 k_209 k_210 k_211 (show _ ∧ _ ∧ _ = some 0 from by decide +kernel) (x_recv hC hw hc2 rfl) rfl d_R_lookThroughStore_9) (fun rv M3 H locs hq hw => ?_) (fun _ _ _ _ _ h _ _ => h.elim)
    obtain ⟨rfl, hM⟩ := hq
    subst M3
    refine W.eq (g2 := F0 m 12 ls [.int (nI (nu 21 0)), .int (nI t)]) rfl ?_
    refine lv_icmp_lt (tgt := 16) hx hb d_R_lookThroughStore_12 (by decide) (fun c_12 => ?_) (fun c_12 => ?_)
    · have c_12 := (nI_ltI (by omega) (by omega)).mp c_12
      refine lv_aload_n hx hb d_R_lookThroughStore_16 rfl (lv_at hl 0 rfl) ?_
      refine x_get hC hw hc1 rfl 5 (by decide) (hts _ k_181) (fun _ h9 => h9) rfl d_R_lookThroughStore_17 ?_
      refine lv_iload_n hx hb d_R_lookThroughStore_20 rfl (lv_at hl 1 rfl) ?_
      refine x_callG hC (c_getV l G M (Array.size H) fz ad nu sg M0 hR _ hV hSL 5 (by decide) (t) (show t < nu 21 0 by omega)) k_216 k_4 ⟨Nat.le_of_ble_eq_true rfl, Nat.le_of_ble_eq_true rfl⟩ ⟨Nat.le_of_ble_eq_true rfl, Nat.le_of_ble_eq_true rfl⟩ hw hl.1 (Nat.le_of_ble_eq_true rfl) d_R_lookThroughStore_21 (x_ivV hC k_216 k_213 k_214 k_215 (show _ ∧ _ ∧ _ = some 1 from by decide +kernel) (x_recv hC hw hc2 rfl) rfl d_R_lookThroughStore_21) (fun rv M4 H locs hq hw => ?_) (fun _ _ _ _ _ h _ _ => h.elim)
      obtain ⟨rfl, hM⟩ := hq
      subst M4
      refine W.eq (g2 := F0 m 24 ls [.ref (ad 8 t)]) rfl ?_
      have hc5 := hR.so (t := t) (by omega)
      have hc5 := hV.get hc5 (hR.ninS hSL (show t < nu 21 0 by omega) (by decide))
      refine x_cast hC hw hc5 rfl (hts _ k_261) d_R_lookThroughStore_24 ?_
      refine lv_astore_n (lv' := [(2, .ref (ad 8 t)), (0, .ref (ad 14 0)), (1, .int (nI t))]) hx hb d_R_lookThroughStore_27 rfl hl (by decide) rfl (fun ls hl => ?_)
      refine lv_iconst (v := nI 0) hx hb d_R_lookThroughStore_28 (by decide) ?_
      refine lv_istore_n (lv' := [(3, .int (nI 0)), (2, .ref (ad 8 t)), (0, .ref (ad 14 0)), (1, .int (nI t))]) hx hb d_R_lookThroughStore_29 rfl hl (by decide) rfl (fun ls hl => ?_)
      have HL30 : ∀ (z30 en : Nat) (k : Int32) (g : Nat → Int32), en ≤ 4 → 4 + 1 ≤ en + z30 → ∀ (M1 : xMem), ∀ (H : Heap) (locs : List Loc) (ls : Array Slot), M1 (ad 10 0) = some (.inr (7, [.int (nI (lkE nu sg t en (n0, f0)).1), .ref (ad 11 0)])) → M1 (ad 11 0) = some (.inl (G.2.1 0, 500, .inl ((lkE nu sg t en (n0, f0)).2))) → M1 (ad 12 0) = some (.inr (2, [.ref (ad 13 0), .int k])) → M1 (ad 13 0) = some (.inl (G.2.1 0, 60, .inl g)) → xfr M M1 [ad 10 0, ad 11 0, ad 12 0, ad 13 0] → xWd G (xA M sz) s.heap M1 H locs → lv_has ls 4 [(0, .ref (ad 14 0)), (1, .int (nI t)), (2, .ref (ad 8 t)), (3, .int (nI en))] → W p l e { frames := 4, cells := 0, slots := 0, locals := 89 } s m ([.ref (ad 14 0), .int (nI t)] : List Value).toArray below meth c H locs 0 0 (xMQ below G M sz (fun u M' => u = none ∧ ∃ (k' : Int32) (g' : Nat → Int32), M' (ad 10 0) = some (.inr (7, [.int (nI (lkE nu sg t 4 (n0, f0)).1), .ref (ad 11 0)])) ∧ M' (ad 11 0) = some (.inl (G.2.1 0, 500, .inl ((lkE nu sg t 4 (n0, f0)).2))) ∧ M' (ad 12 0) = some (.inr (2, [.ref (ad 13 0), .int k'])) ∧ M' (ad 13 0) = some (.inl (G.2.1 0, 60, .inl g')) ∧ xfr M M' [ad 10 0, ad 11 0, ad 12 0, ad 13 0]) (fun _ _ => False) s 0 0) (F0 m 30 ls []) := by
        intro z30
        induction z30 with
        | zero =>
          intro en k g h1 h2
          omega
        | succ z30 ih30 =>
          intro en k g hi30 hz30  M1 H locs ls h_f h_fp h_q h_v hF hw hl
          refine lv_iload_n hx hb d_R_lookThroughStore_30 rfl (lv_at hl 3 rfl) ?_
          refine lv_iconst (v := nI 4) hx hb d_R_lookThroughStore_31 (by decide) ?_
          refine lv_icmp_ge (tgt := 60) hx hb d_R_lookThroughStore_32 (by decide) (fun c_32 => ?_) (fun c_32 => ?_)
          · have c_32 := (nI_leI (by omega) (by omega)).mp c_32
            obtain rfl : en = 4 := by omega
            exact x_vret hC hr hw (⟨rfl, k, g, h_f, h_fp, h_q, h_v, hF⟩) (Nat.le_of_ble_eq_true rfl) (Nat.le_of_ble_eq_true rfl) d_R_lookThroughStore_60
          · have c_32 := Nat.not_le.mp ((not_congr (nI_leI (by omega) (by omega))).mp c_32)
            have hV := hV0.app hF
            have hSL := hSL0.app (vlP.fc (ad := ad) (nu := nu))
            refine lv_aload_n hx hb d_R_lookThroughStore_35 rfl (lv_at hl 2 rfl) ?_
            refine lv_aload_n hx hb d_R_lookThroughStore_36 rfl (lv_at hl 0 rfl) ?_
            have hc6 := hR.rc
            have hc6 := hV.get hc6 (hR.ninS hSL (show 0 < 1 by omega) (by decide))
            refine x_get hC hw hc6 rfl 7 (by decide) (hts _ k_183) (fun _ h9 => h9) rfl d_R_lookThroughStore_37 ?_
            refine lv_iload_n hx hb d_R_lookThroughStore_40 rfl (lv_at hl 3 rfl) ?_
            have hc7 := hR.so (t := t) (by omega)
            have hc7 := hV.get hc7 (hR.ninS hSL (show t < nu 21 0 by omega) (by decide))
            obtain ⟨p8, hc8, hp8⟩ := hR.by (t := t) (by omega)
            have hc8 := hV.get hc8 (hR.ninS hSL (show t < nu 21 0 by omega) (by decide))
            have h60t := h60 t
            have hvc : ad 9 t ≠ ad 13 0 := hR.2.2.2.2 t ht
            refine x_callG hC (c_T_readInto l G M1 (Array.size H) (ad 8 t) (ad 9 t) (ad 12 0) (ad 13 0) (nu 23 t) (60 * t) en (sg 22 t) k p8 g (sg 24) (by omega) (by omega) (fun j hj => (hp8 j hj).2) (fun j hj => (hp8 j hj).1) hok hvc hc7 hc8 h_q h_v) k_265 k_25 ⟨Nat.le_of_ble_eq_true rfl, Nat.le_of_ble_eq_true rfl⟩ ⟨Nat.le_of_ble_eq_true rfl, Nat.le_of_ble_eq_true rfl⟩ hw hl.1 (Nat.le_of_ble_eq_true rfl) d_R_lookThroughStore_41 (x_ivV hC k_265 k_262 k_263 k_264 (show _ ∧ _ ∧ _ = some 2 from by decide +kernel) (x_recv hC hw hc7 rfl) rfl d_R_lookThroughStore_41) (fun rv M9 H locs hq hw => ?_) (fun _ _ _ _ _ h _ _ => h.elim)
            obtain ⟨rfl, k', g', h_q, h_v, hW, fr⟩ := hq
            have hF := hF.trans fr (by intro z hz; simp only [List.mem_cons, List.not_mem_nil, or_false] at hz ⊢; rcases hz with rfl | rfl <;> exact Or.inl (by simp))
            have h_f := fr.get h_f (by simp [(hR.ne (k := 10) (i := 0) (k' := 12) (j := 0) Nat.zero_lt_one Nat.zero_lt_one (by decide)), (hR.ne (k := 10) (i := 0) (k' := 13) (j := 0) Nat.zero_lt_one Nat.zero_lt_one (by decide))])
            have h_fp := fr.get h_fp (by simp [(hR.ne (k := 11) (i := 0) (k' := 12) (j := 0) Nat.zero_lt_one Nat.zero_lt_one (by decide)), (hR.ne (k := 11) (i := 0) (k' := 13) (j := 0) Nat.zero_lt_one Nat.zero_lt_one (by decide))])
            have hc7 := fr.get hc7 (by simp [(hR.ne (k := 8) (i := t) (k' := 12) (j := 0) ht Nat.zero_lt_one (by decide)), (hR.ne (k := 8) (i := t) (k' := 13) (j := 0) ht Nat.zero_lt_one (by decide))])
            refine W.eq (g2 := F0 m 44 ls [.int (zI (wellP (sg 24) en (60 * t) (nu 23 t)))]) rfl ?_
            refine lv_if_eq (tgt := 54) hx hb d_R_lookThroughStore_44 (by decide) (fun c_44 => ?_) (fun c_44 => ?_)
            · have c_44 := zI_0.mp c_44
              rw [← lkE_f c_44] at h_f h_fp
              refine lv_iinc (v := nI (en + 1)) (lv' := [(3, .int (nI (en + 1))), (0, .ref (ad 14 0)), (1, .int (nI t)), (2, .ref (ad 8 t))]) hx hb d_R_lookThroughStore_54 hl (k := 3) rfl (by exact nI_1 _) (by decide) rfl (fun ls hl => ?_)
              refine lv_goto (tgt := 30) hx hb d_R_lookThroughStore_57 (by decide) ?_
              exact ih30 (en + 1) (k') (g') (by omega) (by omega)  _ _ _ _ h_f h_fp h_q h_v hF hw (lv_sub hl [1, 2, 3, 0] rfl)
            · have c_44 := zI_1.mp c_44
              obtain ⟨rfl, hgr⟩ := hW c_44
              have hsn := stN_le en (nu 23 t)
              refine lv_aload_n hx hb d_R_lookThroughStore_47 rfl (lv_at hl 0 rfl) ?_
              refine lv_iconst (v := nI 2) hx hb d_R_lookThroughStore_48 (by decide) ?_
              refine lv_iload_n hx hb d_R_lookThroughStore_49 rfl (lv_at hl 1 rfl) ?_
              refine lv_iload_n hx hb d_R_lookThroughStore_50 rfl (lv_at hl 3 rfl) ?_
              have hV := hV0.app hF
              have hSL := hSL0.app (vlP.fc (ad := ad) (nu := nu))
              have hc10 := hR.rc
              have hc10 := hV.get hc10 (hR.ninS hSL (show 0 < 1 by omega) (by decide))
              refine x_callG hC (c_R_findWords l G M9 (Array.size H) fz ad nu sg M0 hR _ hV hSL (nI 2) (nI t) (nI en) (stN en (nu 23 t)) (lkE nu sg t en (n0, f0)).1 g' (lkE nu sg t en (n0, f0)).2 (by omega) (lkE_le hn0) h4 h8 h_f h_fp h_q h_v) k_242 k_1 ⟨Nat.le_of_ble_eq_true rfl, Nat.le_of_ble_eq_true rfl⟩ ⟨Nat.le_of_ble_eq_true rfl, Nat.le_of_ble_eq_true rfl⟩ hw hl.1 (Nat.le_of_ble_eq_true rfl) d_R_lookThroughStore_51 (x_ivV hC k_242 k_239 k_241 kp_3 (show _ ∧ _ ∧ _ = some 3 from by decide +kernel) (x_recv hC hw hc10 rfl) rfl d_R_lookThroughStore_51) (fun rv M11 H locs hq hw => ?_) (fun _ _ _ _ _ h _ _ => h.elim)
              obtain ⟨rfl, h_f, h_fp, fr⟩ := hq
              have hF := hF.trans fr (by intro z hz; simp only [List.mem_cons, List.not_mem_nil, or_false] at hz ⊢; rcases hz with rfl | rfl <;> exact Or.inl (by simp))
              rw [lkE_n c_44 hgr] at h_f h_fp
              have h_q := fr.get h_q (by simp [(hR.ne (k := 12) (i := 0) (k' := 10) (j := 0) Nat.zero_lt_one Nat.zero_lt_one (by decide)), (hR.ne (k := 12) (i := 0) (k' := 11) (j := 0) Nat.zero_lt_one Nat.zero_lt_one (by decide))])
              have h_v := fr.get h_v (by simp [(hR.ne (k := 13) (i := 0) (k' := 10) (j := 0) Nat.zero_lt_one Nat.zero_lt_one (by decide)), (hR.ne (k := 13) (i := 0) (k' := 11) (j := 0) Nat.zero_lt_one Nat.zero_lt_one (by decide))])
              have hc10 := fr.get hc10 (by simp [(hR.ne (k := 14) (i := 0) (k' := 10) (j := 0) Nat.zero_lt_one Nat.zero_lt_one (by decide)), (hR.ne (k := 14) (i := 0) (k' := 11) (j := 0) Nat.zero_lt_one Nat.zero_lt_one (by decide))])
              refine W.eq (g2 := F0 m 54 ls []) rfl ?_
              refine lv_iinc (v := nI (en + 1)) (lv' := [(3, .int (nI (en + 1))), (0, .ref (ad 14 0)), (1, .int (nI t)), (2, .ref (ad 8 t))]) hx hb d_R_lookThroughStore_54 hl (k := 3) rfl (by exact nI_1 _) (by decide) rfl (fun ls hl => ?_)
              refine lv_goto (tgt := 30) hx hb d_R_lookThroughStore_57 (by decide) ?_
              exact ih30 (en + 1) (nI (stN en (nu 23 t))) (g') (by omega) (by omega)  _ _ _ _ h_f h_fp h_q h_v hF hw (lv_sub hl [1, 2, 3, 0] rfl)
      exact HL30 (4 + 1) (0) (k0) (g0) (by omega) (by omega)  _ _ _ _ h_f h_fp h_q h_v hF hw (lv_sub hl [2, 3, 1, 0] rfl)
    · have c_12 := Nat.not_lt.mp ((not_congr (nI_ltI (by omega) (by omega))).mp c_12)
      omega

set_option maxHeartbeats 400000 in
set_option maxRecDepth 100000 in
/-- look -/
theorem c_R_look (l : Launch) (G : xT) (M : xMem) (sz : Nat) (fz : Nat) (ad : Nat → Nat → Nat) (nu : Nat → Nat → Nat) (sg : Nat → Nat → Int32) (hR : cRep G M fz ad nu sg) (h4 : nu 12 0 ≤ 4) (h8 : ∀ w, nu 13 w ≤ 8) (h40 : ∀ r, nu 1 r ≤ 40) (h60 : ∀ t, nu 23 t ≤ 60) (h12 : nu 7 0 ≤ 12) (h20 : nu 6 0 ≤ 20) (hst8 : nu 21 0 ≤ 8) (hfm : ∀ u, u < nu 7 0 → nu 9 u < nu 6 0) (hok : ∀ j, okB (sg 24 j))  : xMet l G y_R_look (Cond.code y_R_look b_R_look 2 (Option.some Jvm.ClassFile.FieldType.int) :: x_tbl) { frames := 5, cells := 0, slots := 0, locals := 112 } [.ref (ad 14 0)] M sz (fun u M' => u = some (.int (nI (lkF nu sg).1)) ∧ ∃ (nu' : Nat → Nat → Nat) (sg' : Nat → Nat → Int32), cRep G M' fz ad nu' sg' ∧ eqx [25] nu nu' ∧ eqx [26] sg sg' ∧ nu' 25 0 = (lkF nu sg).1 ∧ sg' 26 = (lkF nu sg).2 ∧ cFr M M' ad nu) (fun _ _ => False) := by
  refine xMet.of (by decide) (Nat.le_of_ble_eq_true rfl) ?_
  intro p e s m below meth c ls hC hr hnm hno hsz hw hl
  obtain ⟨hx, hb, hown, hts, hK, hml, hlk, hz⟩ := id hC
  have hl : lv_has ls 2 [(0, .ref (ad 14 0))] := hl
  have hF : xfr M M [ad 10 0, ad 11 0, ad 12 0, ad 13 0] := xfr.rf
  have hc1 := hR.fi
  have h_f := hc1
  have hc2 := hR.fp
  have h_fp := hc2
  obtain ⟨n3, hc3⟩ := hR.co
  have h_q := hc3
  obtain ⟨p4, hc4⟩ := hR.cv
  have h_v := hc4
  have hV : xfr M M [] := xfr.rf
  have hSL := vlP.nil (ad := ad) (nu := nu)
  refine lv_aload_n hx hb d_R_look_0 rfl (lv_at hl 0 rfl) ?_
  have hc5 := hR.rc
  have hc5 := hV.get hc5 (hR.ninS hSL (show 0 < 1 by omega) (by decide))
  refine x_get hC hw hc5 rfl 6 (by decide) (hts _ k_182) (fun _ h9 => h9) rfl d_R_look_1 ?_
  have ne_hc5_h_f : ad 14 0 ≠ ad 10 0 := x_ne hc5 h_f (by intro z; cases z)
  refine x_callG hC (c_F_clear l G M (Array.size s.heap) (ad 10 0) (ad 11 0) (nI (nu 25 0)) h_f) k_208 k_5 ⟨Nat.le_of_ble_eq_true rfl, Nat.le_of_ble_eq_true rfl⟩ ⟨Nat.le_of_ble_eq_true rfl, Nat.le_of_ble_eq_true rfl⟩ hw hl.1 (Nat.le_of_ble_eq_true rfl) d_R_look_4 (x_ivV hC k_208 k_205 k_206 k_207 (show _ ∧ _ ∧ _ = some 0 from by decide +kernel) (x_recv hC hw h_f rfl) rfl d_R_look_4) (fun rv M6 H locs hq hw => ?_) (fun _ _ _ _ _ h _ _ => h.elim)
  obtain ⟨rfl, h_f, fr⟩ := hq
  have hF := hF.trans fr (by intro z hz; rw [List.mem_singleton.mp hz]; exact Or.inl (by simp))
  have h_fp := fr.get h_fp (by simp [(hR.ne (k := 11) (i := 0) (k' := 10) (j := 0) Nat.zero_lt_one Nat.zero_lt_one (by decide))])
  have h_q := fr.get h_q (by simp [(hR.ne (k := 12) (i := 0) (k' := 10) (j := 0) Nat.zero_lt_one Nat.zero_lt_one (by decide))])
  have h_v := fr.get h_v (by simp [(hR.ne (k := 13) (i := 0) (k' := 10) (j := 0) Nat.zero_lt_one Nat.zero_lt_one (by decide))])
  have hc5 := fr.get hc5 (by simp [ne_hc5_h_f])
  refine W.eq (g2 := F0 m 7 ls []) rfl ?_
  refine lv_iconst (v := nI 0) hx hb d_R_look_7 (by decide) ?_
  refine lv_istore_n (lv' := [(1, .int (nI 0)), (0, .ref (ad 14 0))]) hx hb d_R_look_8 rfl hl (by decide) rfl (fun ls hl => ?_)
  have HL9 : ∀ (z9 i : Nat) (k : Int32) (g : Nat → Int32), i ≤ 4 → 4 + 1 ≤ i + z9 → ∀ (M1 : xMem), ∀ (H : Heap) (locs : List Loc) (ls : Array Slot), M1 (ad 10 0) = some (.inr (7, [.int (nI (lkR nu sg (nI 0) (fun i => i) i (0, sg 26)).1), .ref (ad 11 0)])) → M1 (ad 11 0) = some (.inl (G.2.1 0, 500, .inl ((lkR nu sg (nI 0) (fun i => i) i (0, sg 26)).2))) → M1 (ad 12 0) = some (.inr (2, [.ref (ad 13 0), .int k])) → M1 (ad 13 0) = some (.inl (G.2.1 0, 60, .inl g)) → xfr M M1 [ad 10 0, ad 11 0, ad 12 0, ad 13 0] → xWd G (xA M sz) s.heap M1 H locs → lv_has ls 2 [(0, .ref (ad 14 0)), (1, .int (nI i))] → W p l e { frames := 5, cells := 0, slots := 0, locals := 112 } s m ([.ref (ad 14 0)] : List Value).toArray below meth c H locs 0 0 (xMQ below G M sz (fun u M' => u = some (.int (nI (lkF nu sg).1)) ∧ ∃ (nu' : Nat → Nat → Nat) (sg' : Nat → Nat → Int32), cRep G M' fz ad nu' sg' ∧ eqx [25] nu nu' ∧ eqx [26] sg sg' ∧ nu' 25 0 = (lkF nu sg).1 ∧ sg' 26 = (lkF nu sg).2 ∧ cFr M M' ad nu) (fun _ _ => False) s 0 0) (F0 m 9 ls []) := by
    intro z9
    induction z9 with
    | zero =>
      intro i k g h1 h2
      omega
    | succ z9 ih9 =>
      intro i k g hi9 hz9  M1 H locs ls h_f h_fp h_q h_v hF hw hl
      refine lv_iload_n hx hb d_R_look_9 rfl (lv_at hl 1 rfl) ?_
      refine lv_aload_n hx hb d_R_look_10 rfl (lv_at hl 0 rfl) ?_
      have hV := hF
      have hSL := vlP.fc (ad := ad) (nu := nu)
      have hc7 := hR.rc
      have hc7 := hV.get hc7 (hR.ninS hSL (show 0 < 1 by omega) (by decide))
      refine x_get hC hw hc7 rfl 0 (by decide) (hts _ k_176) (fun _ h9 => h9) rfl d_R_look_11 ?_
      obtain ⟨mc8, hc8⟩ := hR.la (k := 0) (by decide)
      have hc8 := hV.get hc8 (hR.ninS hSL (show 0 < 6 by omega) (by decide))
      refine x_callG hC (c_sizeV l G M1 (Array.size H) fz ad nu sg M hR _ hV hSL 0 (by decide)) k_212 k_4 ⟨Nat.le_of_ble_eq_true rfl, Nat.le_of_ble_eq_true rfl⟩ ⟨Nat.le_of_ble_eq_true rfl, Nat.le_of_ble_eq_true rfl⟩ hw hl.1 (Nat.le_of_ble_eq_true rfl) d_R_look_14 (x_ivV hC k_212 k_209 k_210 k_211 (show _ ∧ _ ∧ _ = some 0 from by decide +kernel) (x_recv hC hw hc8 rfl) rfl d_R_look_14) (fun rv M9 H locs hq hw => ?_) (fun _ _ _ _ _ h _ _ => h.elim)
      obtain ⟨rfl, hM⟩ := hq
      subst M9
      refine W.eq (g2 := F0 m 17 ls [.int (nI 4), .int (nI i)]) rfl ?_
      refine lv_icmp_ge (tgt := 51) hx hb d_R_look_17 (by decide) (fun c_17 => ?_) (fun c_17 => ?_)
      · have c_17 := (nI_leI (by omega) (by omega)).mp c_17
        obtain rfl : i = 4 := by omega
        have hl : lv_has ls 2 [(0, .ref (ad 14 0))] := lv_sub hl [0] rfl
        refine lv_iconst (v := nI 0) hx hb d_R_look_51 (by decide) ?_
        refine lv_istore_n (lv' := [(1, .int (nI 0)), (0, .ref (ad 14 0))]) hx hb d_R_look_52 rfl hl (by decide) rfl (fun ls hl => ?_)
        have HL53 : ∀ (z53 u : Nat) (k : Int32) (g : Nat → Int32), u ≤ nu 7 0 → nu 7 0 + 1 ≤ u + z53 → ∀ (M1 : xMem), ∀ (H : Heap) (locs : List Loc) (ls : Array Slot), M1 (ad 10 0) = some (.inr (7, [.int (nI (lkR nu sg (nI 1) (fun u => 4 + nu 9 u) u (lkR nu sg (nI 0) (fun i => i) 4 (0, sg 26))).1), .ref (ad 11 0)])) → M1 (ad 11 0) = some (.inl (G.2.1 0, 500, .inl ((lkR nu sg (nI 1) (fun u => 4 + nu 9 u) u (lkR nu sg (nI 0) (fun i => i) 4 (0, sg 26))).2))) → M1 (ad 12 0) = some (.inr (2, [.ref (ad 13 0), .int k])) → M1 (ad 13 0) = some (.inl (G.2.1 0, 60, .inl g)) → xfr M M1 [ad 10 0, ad 11 0, ad 12 0, ad 13 0] → xWd G (xA M sz) s.heap M1 H locs → lv_has ls 2 [(0, .ref (ad 14 0)), (1, .int (nI u))] → W p l e { frames := 5, cells := 0, slots := 0, locals := 112 } s m ([.ref (ad 14 0)] : List Value).toArray below meth c H locs 0 0 (xMQ below G M sz (fun u M' => u = some (.int (nI (lkF nu sg).1)) ∧ ∃ (nu' : Nat → Nat → Nat) (sg' : Nat → Nat → Int32), cRep G M' fz ad nu' sg' ∧ eqx [25] nu nu' ∧ eqx [26] sg sg' ∧ nu' 25 0 = (lkF nu sg).1 ∧ sg' 26 = (lkF nu sg).2 ∧ cFr M M' ad nu) (fun _ _ => False) s 0 0) (F0 m 53 ls []) := by
          intro z53
          induction z53 with
          | zero =>
            intro u k g h1 h2
            omega
          | succ z53 ih53 =>
            intro u k g hi53 hz53  M1 H locs ls h_f h_fp h_q h_v hF hw hl
            refine lv_iload_n hx hb d_R_look_53 rfl (lv_at hl 1 rfl) ?_
            refine lv_aload_n hx hb d_R_look_54 rfl (lv_at hl 0 rfl) ?_
            have hV := hF
            have hSL := vlP.fc (ad := ad) (nu := nu)
            have hc10 := hR.rc
            have hc10 := hV.get hc10 (hR.ninS hSL (show 0 < 1 by omega) (by decide))
            refine x_get hC hw hc10 rfl 2 (by decide) (hts _ k_178) (fun _ h9 => h9) rfl d_R_look_55 ?_
            obtain ⟨mc11, hc11⟩ := hR.la (k := 2) (by decide)
            have hc11 := hV.get hc11 (hR.ninS hSL (show 2 < 6 by omega) (by decide))
            refine x_callG hC (c_sizeV l G M1 (Array.size H) fz ad nu sg M hR _ hV hSL 2 (by decide)) k_212 k_4 ⟨Nat.le_of_ble_eq_true rfl, Nat.le_of_ble_eq_true rfl⟩ ⟨Nat.le_of_ble_eq_true rfl, Nat.le_of_ble_eq_true rfl⟩ hw hl.1 (Nat.le_of_ble_eq_true rfl) d_R_look_58 (x_ivV hC k_212 k_209 k_210 k_211 (show _ ∧ _ ∧ _ = some 0 from by decide +kernel) (x_recv hC hw hc11 rfl) rfl d_R_look_58) (fun rv M12 H locs hq hw => ?_) (fun _ _ _ _ _ h _ _ => h.elim)
            obtain ⟨rfl, hM⟩ := hq
            subst M12
            refine W.eq (g2 := F0 m 61 ls [.int (nI (nu 7 0)), .int (nI u)]) rfl ?_
            refine lv_icmp_ge (tgt := 98) hx hb d_R_look_61 (by decide) (fun c_61 => ?_) (fun c_61 => ?_)
            · have c_61 := (nI_leI (by omega) (by omega)).mp c_61
              have hke : u = nu 7 0 := by omega
              subst hke
              have hl : lv_has ls 2 [(0, .ref (ad 14 0))] := lv_sub hl [0] rfl
              refine lv_iconst (v := nI 0) hx hb d_R_look_98 (by decide) ?_
              refine lv_istore_n (lv' := [(1, .int (nI 0)), (0, .ref (ad 14 0))]) hx hb d_R_look_99 rfl hl (by decide) rfl (fun ls hl => ?_)
              have HL100 : ∀ (z100 t : Nat) (k : Int32) (g : Nat → Int32), t ≤ nu 21 0 → nu 21 0 + 1 ≤ t + z100 → ∀ (M1 : xMem), ∀ (H : Heap) (locs : List Loc) (ls : Array Slot), M1 (ad 10 0) = some (.inr (7, [.int (nI (lkS nu sg t (lkR nu sg (nI 1) (fun u => 4 + nu 9 u) (nu 7 0) (lkR nu sg (nI 0) (fun i => i) 4 (0, sg 26)))).1), .ref (ad 11 0)])) → M1 (ad 11 0) = some (.inl (G.2.1 0, 500, .inl ((lkS nu sg t (lkR nu sg (nI 1) (fun u => 4 + nu 9 u) (nu 7 0) (lkR nu sg (nI 0) (fun i => i) 4 (0, sg 26)))).2))) → M1 (ad 12 0) = some (.inr (2, [.ref (ad 13 0), .int k])) → M1 (ad 13 0) = some (.inl (G.2.1 0, 60, .inl g)) → xfr M M1 [ad 10 0, ad 11 0, ad 12 0, ad 13 0] → xWd G (xA M sz) s.heap M1 H locs → lv_has ls 2 [(0, .ref (ad 14 0)), (1, .int (nI t))] → W p l e { frames := 5, cells := 0, slots := 0, locals := 112 } s m ([.ref (ad 14 0)] : List Value).toArray below meth c H locs 0 0 (xMQ below G M sz (fun u M' => u = some (.int (nI (lkF nu sg).1)) ∧ ∃ (nu' : Nat → Nat → Nat) (sg' : Nat → Nat → Int32), cRep G M' fz ad nu' sg' ∧ eqx [25] nu nu' ∧ eqx [26] sg sg' ∧ nu' 25 0 = (lkF nu sg).1 ∧ sg' 26 = (lkF nu sg).2 ∧ cFr M M' ad nu) (fun _ _ => False) s 0 0) (F0 m 100 ls []) := by
                intro z100
                induction z100 with
                | zero =>
                  intro t k g h1 h2
                  omega
                | succ z100 ih100 =>
                  intro t k g hi100 hz100  M1 H locs ls h_f h_fp h_q h_v hF hw hl
                  refine lv_iload_n hx hb d_R_look_100 rfl (lv_at hl 1 rfl) ?_
                  refine lv_aload_n hx hb d_R_look_101 rfl (lv_at hl 0 rfl) ?_
                  have hV := hF
                  have hSL := vlP.fc (ad := ad) (nu := nu)
                  have hc13 := hR.rc
                  have hc13 := hV.get hc13 (hR.ninS hSL (show 0 < 1 by omega) (by decide))
                  refine x_get hC hw hc13 rfl 5 (by decide) (hts _ k_181) (fun _ h9 => h9) rfl d_R_look_102 ?_
                  obtain ⟨mc14, hc14⟩ := hR.la (k := 5) (by decide)
                  have hc14 := hV.get hc14 (hR.ninS hSL (show 5 < 6 by omega) (by decide))
                  refine x_callG hC (c_sizeV l G M1 (Array.size H) fz ad nu sg M hR _ hV hSL 5 (by decide)) k_212 k_4 ⟨Nat.le_of_ble_eq_true rfl, Nat.le_of_ble_eq_true rfl⟩ ⟨Nat.le_of_ble_eq_true rfl, Nat.le_of_ble_eq_true rfl⟩ hw hl.1 (Nat.le_of_ble_eq_true rfl) d_R_look_105 (x_ivV hC k_212 k_209 k_210 k_211 (show _ ∧ _ ∧ _ = some 0 from by decide +kernel) (x_recv hC hw hc14 rfl) rfl d_R_look_105) (fun rv M15 H locs hq hw => ?_) (fun _ _ _ _ _ h _ _ => h.elim)
                  obtain ⟨rfl, hM⟩ := hq
                  subst M15
                  refine W.eq (g2 := F0 m 108 ls [.int (nI (nu 21 0)), .int (nI t)]) rfl ?_
                  refine lv_icmp_ge (tgt := 122) hx hb d_R_look_108 (by decide) (fun c_108 => ?_) (fun c_108 => ?_)
                  · have c_108 := (nI_leI (by omega) (by omega)).mp c_108
                    refine lv_aload_n hx hb d_R_look_122 rfl (lv_at hl 0 rfl) ?_
                    have hc16 := hR.rc
                    have hc16 := hV.get hc16 (hR.ninS hSL (show 0 < 1 by omega) (by decide))
                    refine x_get hC hw hc16 rfl 6 (by decide) (hts _ k_182) (fun _ h9 => h9) rfl d_R_look_123 ?_
                    refine x_get hC hw h_f rfl 0 (by decide) (hts _ k_68) (fun _ h9 => h9) rfl d_R_look_126 ?_
                    have hke : t = nu 21 0 := by omega
                    subst hke
                    exact x_iret hC hr hw (⟨rfl, _, _, hR.fin (x_fz0 hC hw hR.2.1.1) hfm hF h_f h_fp h_q h_v, eqx.up nu 25 _, eqx.up sg 26 _, by rw [va_up_self]; rfl, by rw [va_up_self]; rfl, cFr.of hF (by intro z hz; simp only [List.mem_cons, List.not_mem_nil, or_false] at hz; rcases hz with rfl | rfl | rfl | rfl <;> exact Or.inl (own.i (show 0 < 1 from Nat.zero_lt_one)))⟩) (Nat.le_of_ble_eq_true rfl) (Nat.le_of_ble_eq_true rfl) d_R_look_129
                  · have c_108 := Nat.not_le.mp ((not_congr (nI_leI (by omega) (by omega))).mp c_108)
                    refine lv_aload_n hx hb d_R_look_111 rfl (lv_at hl 0 rfl) ?_
                    refine lv_iload_n hx hb d_R_look_112 rfl (lv_at hl 1 rfl) ?_
                    have hV := hF
                    have hSL := vlP.fc (ad := ad) (nu := nu)
                    have hc17 := hR.rc
                    have hc17 := hV.get hc17 (hR.ninS hSL (show 0 < 1 by omega) (by decide))
                    refine x_callG hC (c_R_lookThroughStore l G M1 (Array.size H) fz ad nu sg M hR _ hV hSL t (lkS nu sg t (lkR nu sg (nI 1) (fun u => 4 + nu 9 u) (nu 7 0) (lkR nu sg (nI 0) (fun i => i) 4 (0, sg 26)))).1 k g (lkS nu sg t (lkR nu sg (nI 1) (fun u => 4 + nu 9 u) (nu 7 0) (lkR nu sg (nI 0) (fun i => i) 4 (0, sg 26)))).2 (by omega) (lkS_le (lkR_le (lkR_le (Nat.zero_le _)))) h4 h8 hst8 h60 hok h_f h_fp h_q h_v) k_260 k_1 ⟨Nat.le_of_ble_eq_true rfl, Nat.le_of_ble_eq_true rfl⟩ ⟨Nat.le_of_ble_eq_true rfl, Nat.le_of_ble_eq_true rfl⟩ hw hl.1 (Nat.le_of_ble_eq_true rfl) d_R_look_113 (x_ivV hC k_260 k_257 k_259 kp_4 (show _ ∧ _ ∧ _ = some 1 from by decide +kernel) (x_recv hC hw hc17 rfl) rfl d_R_look_113) (fun rv M18 H locs hq hw => ?_) (fun _ _ _ _ _ h _ _ => h.elim)
                    obtain ⟨rfl, k', g', h_f, h_fp, h_q, h_v, fr⟩ := hq
                    have hF := hF.trans fr (by intro z hz; exact Or.inl hz)
                    have hc17 := fr.get hc17 (by simp [(hR.ne (k := 14) (i := 0) (k' := 10) (j := 0) Nat.zero_lt_one Nat.zero_lt_one (by decide)), (hR.ne (k := 14) (i := 0) (k' := 11) (j := 0) Nat.zero_lt_one Nat.zero_lt_one (by decide)), (hR.ne (k := 14) (i := 0) (k' := 12) (j := 0) Nat.zero_lt_one Nat.zero_lt_one (by decide)), (hR.ne (k := 14) (i := 0) (k' := 13) (j := 0) Nat.zero_lt_one Nat.zero_lt_one (by decide))])
                    refine W.eq (g2 := F0 m 116 ls []) rfl ?_
                    refine lv_iinc (v := nI (t + 1)) (lv' := [(1, .int (nI (t + 1))), (0, .ref (ad 14 0))]) hx hb d_R_look_116 hl (k := 1) rfl (by exact nI_1 _) (by decide) rfl (fun ls hl => ?_)
                    refine lv_goto (tgt := 100) hx hb d_R_look_119 (by decide) ?_
                    exact ih100 (t + 1) (k') (g') (by omega) (by omega)  _ _ _ _ h_f h_fp h_q h_v hF hw (lv_sub hl [1, 0] rfl)
              exact HL100 (nu 21 0 + 1) (0) (k) (g) (by omega) (by omega)  _ _ _ _ h_f h_fp h_q h_v hF hw (lv_sub hl [1, 0] rfl)
            · have c_61 := Nat.not_le.mp ((not_congr (nI_leI (by omega) (by omega))).mp c_61)
              refine lv_aload_n hx hb d_R_look_64 rfl (lv_at hl 0 rfl) ?_
              refine x_get hC hw hc10 rfl 2 (by decide) (hts _ k_178) (fun _ h9 => h9) rfl d_R_look_65 ?_
              refine lv_iload_n hx hb d_R_look_68 rfl (lv_at hl 1 rfl) ?_
              refine x_callG hC (c_getV l G M1 (Array.size H) fz ad nu sg M hR _ hV hSL 2 (by decide) (u) (show u < nu 7 0 by omega)) k_216 k_4 ⟨Nat.le_of_ble_eq_true rfl, Nat.le_of_ble_eq_true rfl⟩ ⟨Nat.le_of_ble_eq_true rfl, Nat.le_of_ble_eq_true rfl⟩ hw hl.1 (Nat.le_of_ble_eq_true rfl) d_R_look_69 (x_ivV hC k_216 k_213 k_214 k_215 (show _ ∧ _ ∧ _ = some 1 from by decide +kernel) (x_recv hC hw hc11 rfl) rfl d_R_look_69) (fun rv M19 H locs hq hw => ?_) (fun _ _ _ _ _ h _ _ => h.elim)
              obtain ⟨rfl, hM⟩ := hq
              subst M19
              refine W.eq (g2 := F0 m 72 ls [.ref (ad 4 u)]) rfl ?_
              obtain ⟨mk20, tw20, hc20⟩ := hR.us (u := u) (by omega)
              have hc20 := hV.get hc20 (hR.nin4 (show u < nu 7 0 by omega))
              refine x_cast hC hw hc20 rfl (hts _ k_256) d_R_look_72 ?_
              have hfu := hfm u (by omega)
              refine x_get hC hw hc20 rfl 3 (by decide) (hts _ k_453) (fun _ h9 => h9) rfl d_R_look_75 ?_
              refine lv_aload_n hx hb d_R_look_78 rfl (lv_at hl 0 rfl) ?_
              refine x_get hC hw hc10 rfl 7 (by decide) (hts _ k_183) (fun _ h9 => h9) rfl d_R_look_79 ?_
              have hc21 := hR.row (r := 4 + nu 9 u) (by omega)
              have hc21 := hV.get hc21 (hR.ninS hSL (show 4 + nu 9 u < 4 + nu 6 0 by omega) (by decide))
              obtain ⟨p22, hc22, hp22⟩ := hR.pa (r := 4 + nu 9 u) (by omega)
              have hc22 := hV.get hc22 (hR.ninS hSL (show 4 + nu 9 u < 4 + nu 6 0 by omega) (by decide))
              have h40r := h40 (4 + nu 9 u)
              have hpv : ad 3 (4 + nu 9 u) ≠ ad 13 0 := hR.ne (k := 3) (i := 4 + nu 9 u) (k' := 13) (j := 0) (show 4 + nu 9 u < 4 + nu 6 0 by omega) Nat.zero_lt_one (by decide)
              refine x_callG hC (c_S_readInto l G M1 (Array.size H) (ad 2 (4 + nu 9 u)) (ad 3 (4 + nu 9 u)) (ad 12 0) (ad 13 0) (nu 1 (4 + nu 9 u)) (nI (nmb (4 + nu 9 u))) (k) p22 (g) (by omega) hpv hc21 hc22 h_q h_v) k_230 k_8 ⟨Nat.le_of_ble_eq_true rfl, Nat.le_of_ble_eq_true rfl⟩ ⟨Nat.le_of_ble_eq_true rfl, Nat.le_of_ble_eq_true rfl⟩ hw hl.1 (Nat.le_of_ble_eq_true rfl) d_R_look_82 (x_ivV hC k_230 k_227 k_228 k_229 (show _ ∧ _ ∧ _ = some 1 from by decide +kernel) (x_recv hC hw hc21 rfl) rfl d_R_look_82) (fun rv M23 H locs hq hw => ?_) (fun _ _ _ _ _ h _ _ => h.elim)
              obtain ⟨rfl, ⟨g', hg', h_q, h_v⟩, fr⟩ := hq
              have hF := hF.trans fr (by intro z hz; simp only [List.mem_cons, List.not_mem_nil, or_false] at hz ⊢; rcases hz with rfl | rfl <;> exact Or.inl (by simp))
              have hgr : ∀ j, j < nu 1 (4 + nu 9 u) → g' j = sg 2 (40 * (4 + nu 9 u) + j) := fun j hj => (hg' j hj).trans (hp22 j hj).1
              have h_f := fr.get h_f (by simp [(hR.ne (k := 10) (i := 0) (k' := 12) (j := 0) Nat.zero_lt_one Nat.zero_lt_one (by decide)), (hR.ne (k := 10) (i := 0) (k' := 13) (j := 0) Nat.zero_lt_one Nat.zero_lt_one (by decide))])
              have h_fp := fr.get h_fp (by simp [(hR.ne (k := 11) (i := 0) (k' := 12) (j := 0) Nat.zero_lt_one Nat.zero_lt_one (by decide)), (hR.ne (k := 11) (i := 0) (k' := 13) (j := 0) Nat.zero_lt_one Nat.zero_lt_one (by decide))])
              have hc21 := fr.get hc21 (by simp [(hR.ne (k := 2) (i := 4 + nu 9 u) (k' := 12) (j := 0) (show 4 + nu 9 u < 4 + nu 6 0 by omega) Nat.zero_lt_one (by decide)), (hR.ne (k := 2) (i := 4 + nu 9 u) (k' := 13) (j := 0) (show 4 + nu 9 u < 4 + nu 6 0 by omega) Nat.zero_lt_one (by decide))])
              refine W.eq (g2 := F0 m 85 ls []) rfl ?_
              refine lv_aload_n hx hb d_R_look_85 rfl (lv_at hl 0 rfl) ?_
              refine lv_iconst (v := nI 1) hx hb d_R_look_86 (by decide) ?_
              refine lv_iload_n hx hb d_R_look_87 rfl (lv_at hl 1 rfl) ?_
              refine lv_iconst (v := (-1)) hx hb d_R_look_88 (by decide) ?_
              have hV := hF
              have hSL := vlP.fc (ad := ad) (nu := nu)
              have hc24 := hR.rc
              have hc24 := hV.get hc24 (hR.ninS hSL (show 0 < 1 by omega) (by decide))
              refine x_callG hC (c_R_findWords l G M23 (Array.size H) fz ad nu sg M hR _ hV hSL (nI 1) (nI u) (-1) (nu 1 (4 + nu 9 u)) (lkR nu sg (nI 1) (fun u => 4 + nu 9 u) u (lkR nu sg (nI 0) (fun i => i) 4 (0, sg 26))).1 g' (lkR nu sg (nI 1) (fun u => 4 + nu 9 u) u (lkR nu sg (nI 0) (fun i => i) 4 (0, sg 26))).2 (by omega) (lkR_le (by first | exact Nat.zero_le _ | exact lkR_le (Nat.zero_le _))) h4 h8 h_f h_fp h_q h_v) k_242 k_1 ⟨Nat.le_of_ble_eq_true rfl, Nat.le_of_ble_eq_true rfl⟩ ⟨Nat.le_of_ble_eq_true rfl, Nat.le_of_ble_eq_true rfl⟩ hw hl.1 (Nat.le_of_ble_eq_true rfl) d_R_look_89 (x_ivV hC k_242 k_239 k_241 kp_3 (show _ ∧ _ ∧ _ = some 3 from by decide +kernel) (x_recv hC hw hc24 rfl) rfl d_R_look_89) (fun rv M25 H locs hq hw => ?_) (fun _ _ _ _ _ h _ _ => h.elim)
              obtain ⟨rfl, h_f, h_fp, fr⟩ := hq
              have hF := hF.trans fr (by intro z hz; simp only [List.mem_cons, List.not_mem_nil, or_false] at hz ⊢; rcases hz with rfl | rfl <;> exact Or.inl (by simp))
              rw [lkR_n (ro := fun u => 4 + nu 9 u) hgr] at h_f h_fp
              have h_q := fr.get h_q (by simp [(hR.ne (k := 12) (i := 0) (k' := 10) (j := 0) Nat.zero_lt_one Nat.zero_lt_one (by decide)), (hR.ne (k := 12) (i := 0) (k' := 11) (j := 0) Nat.zero_lt_one Nat.zero_lt_one (by decide))])
              have h_v := fr.get h_v (by simp [(hR.ne (k := 13) (i := 0) (k' := 10) (j := 0) Nat.zero_lt_one Nat.zero_lt_one (by decide)), (hR.ne (k := 13) (i := 0) (k' := 11) (j := 0) Nat.zero_lt_one Nat.zero_lt_one (by decide))])
              have hc24 := fr.get hc24 (by simp [(hR.ne (k := 14) (i := 0) (k' := 10) (j := 0) Nat.zero_lt_one Nat.zero_lt_one (by decide)), (hR.ne (k := 14) (i := 0) (k' := 11) (j := 0) Nat.zero_lt_one Nat.zero_lt_one (by decide))])
              refine W.eq (g2 := F0 m 92 ls []) rfl ?_
              refine lv_iinc (v := nI (u + 1)) (lv' := [(1, .int (nI (u + 1))), (0, .ref (ad 14 0))]) hx hb d_R_look_92 hl (k := 1) rfl (by exact nI_1 _) (by decide) rfl (fun ls hl => ?_)
              refine lv_goto (tgt := 53) hx hb d_R_look_95 (by decide) ?_
              exact ih53 (u + 1) (nI (nu 1 (4 + nu 9 u))) (g') (by omega) (by omega)  _ _ _ _ h_f h_fp h_q h_v hF hw (lv_sub hl [1, 0] rfl)
        exact HL53 (nu 7 0 + 1) (0) (k) (g) (by omega) (by omega)  _ _ _ _ h_f h_fp h_q h_v hF hw (lv_sub hl [1, 0] rfl)
      · have c_17 := Nat.not_le.mp ((not_congr (nI_leI (by omega) (by omega))).mp c_17)
        refine lv_aload_n hx hb d_R_look_20 rfl (lv_at hl 0 rfl) ?_
        refine x_get hC hw hc7 rfl 0 (by decide) (hts _ k_176) (fun _ h9 => h9) rfl d_R_look_21 ?_
        refine lv_iload_n hx hb d_R_look_24 rfl (lv_at hl 1 rfl) ?_
        refine x_callG hC (c_getV l G M1 (Array.size H) fz ad nu sg M hR _ hV hSL 0 (by decide) (i) (show i < 4 by omega)) k_216 k_4 ⟨Nat.le_of_ble_eq_true rfl, Nat.le_of_ble_eq_true rfl⟩ ⟨Nat.le_of_ble_eq_true rfl, Nat.le_of_ble_eq_true rfl⟩ hw hl.1 (Nat.le_of_ble_eq_true rfl) d_R_look_25 (x_ivV hC k_216 k_213 k_214 k_215 (show _ ∧ _ ∧ _ = some 1 from by decide +kernel) (x_recv hC hw hc8 rfl) rfl d_R_look_25) (fun rv M26 H locs hq hw => ?_) (fun _ _ _ _ _ h _ _ => h.elim)
        obtain ⟨rfl, hM⟩ := hq
        subst M26
        refine W.eq (g2 := F0 m 28 ls [.ref (ad 2 i)]) rfl ?_
        have hc27 := hR.row (r := i) (by omega)
        have hc27 := hV.get hc27 (hR.ninS hSL (show i < 4 + nu 6 0 by omega) (by decide))
        refine x_cast hC hw hc27 rfl (hts _ k_101) d_R_look_28 ?_
        refine lv_aload_n hx hb d_R_look_31 rfl (lv_at hl 0 rfl) ?_
        refine x_get hC hw hc7 rfl 7 (by decide) (hts _ k_183) (fun _ h9 => h9) rfl d_R_look_32 ?_
        obtain ⟨p28, hc28, hp28⟩ := hR.pa (r := i) (by omega)
        have hc28 := hV.get hc28 (hR.ninS hSL (show i < 4 + nu 6 0 by omega) (by decide))
        have h40r := h40 (i)
        have hpv : ad 3 i ≠ ad 13 0 := hR.ne (k := 3) (i := i) (k' := 13) (j := 0) (show i < 4 + nu 6 0 by omega) Nat.zero_lt_one (by decide)
        refine x_callG hC (c_S_readInto l G M1 (Array.size H) (ad 2 i) (ad 3 i) (ad 12 0) (ad 13 0) (nu 1 (i)) (nI (nmb (i))) (k) p28 (g) (by omega) hpv hc27 hc28 h_q h_v) k_230 k_8 ⟨Nat.le_of_ble_eq_true rfl, Nat.le_of_ble_eq_true rfl⟩ ⟨Nat.le_of_ble_eq_true rfl, Nat.le_of_ble_eq_true rfl⟩ hw hl.1 (Nat.le_of_ble_eq_true rfl) d_R_look_35 (x_ivV hC k_230 k_227 k_228 k_229 (show _ ∧ _ ∧ _ = some 1 from by decide +kernel) (x_recv hC hw hc27 rfl) rfl d_R_look_35) (fun rv M29 H locs hq hw => ?_) (fun _ _ _ _ _ h _ _ => h.elim)
        obtain ⟨rfl, ⟨g', hg', h_q, h_v⟩, fr⟩ := hq
        have hF := hF.trans fr (by intro z hz; simp only [List.mem_cons, List.not_mem_nil, or_false] at hz ⊢; rcases hz with rfl | rfl <;> exact Or.inl (by simp))
        have hgr : ∀ j, j < nu 1 (i) → g' j = sg 2 (40 * (i) + j) := fun j hj => (hg' j hj).trans (hp28 j hj).1
        have h_f := fr.get h_f (by simp [(hR.ne (k := 10) (i := 0) (k' := 12) (j := 0) Nat.zero_lt_one Nat.zero_lt_one (by decide)), (hR.ne (k := 10) (i := 0) (k' := 13) (j := 0) Nat.zero_lt_one Nat.zero_lt_one (by decide))])
        have h_fp := fr.get h_fp (by simp [(hR.ne (k := 11) (i := 0) (k' := 12) (j := 0) Nat.zero_lt_one Nat.zero_lt_one (by decide)), (hR.ne (k := 11) (i := 0) (k' := 13) (j := 0) Nat.zero_lt_one Nat.zero_lt_one (by decide))])
        have hc27 := fr.get hc27 (by simp [(hR.ne (k := 2) (i := i) (k' := 12) (j := 0) (show i < 4 + nu 6 0 by omega) Nat.zero_lt_one (by decide)), (hR.ne (k := 2) (i := i) (k' := 13) (j := 0) (show i < 4 + nu 6 0 by omega) Nat.zero_lt_one (by decide))])
        refine W.eq (g2 := F0 m 38 ls []) rfl ?_
        refine lv_aload_n hx hb d_R_look_38 rfl (lv_at hl 0 rfl) ?_
        refine lv_iconst (v := nI 0) hx hb d_R_look_39 (by decide) ?_
        refine lv_iload_n hx hb d_R_look_40 rfl (lv_at hl 1 rfl) ?_
        refine lv_iconst (v := (-1)) hx hb d_R_look_41 (by decide) ?_
        have hV := hF
        have hSL := vlP.fc (ad := ad) (nu := nu)
        have hc30 := hR.rc
        have hc30 := hV.get hc30 (hR.ninS hSL (show 0 < 1 by omega) (by decide))
        refine x_callG hC (c_R_findWords l G M29 (Array.size H) fz ad nu sg M hR _ hV hSL (nI 0) (nI i) (-1) (nu 1 i) (lkR nu sg (nI 0) (fun i => i) i (0, sg 26)).1 g' (lkR nu sg (nI 0) (fun i => i) i (0, sg 26)).2 (by omega) (lkR_le (by first | exact Nat.zero_le _ | exact lkR_le (Nat.zero_le _))) h4 h8 h_f h_fp h_q h_v) k_242 k_1 ⟨Nat.le_of_ble_eq_true rfl, Nat.le_of_ble_eq_true rfl⟩ ⟨Nat.le_of_ble_eq_true rfl, Nat.le_of_ble_eq_true rfl⟩ hw hl.1 (Nat.le_of_ble_eq_true rfl) d_R_look_42 (x_ivV hC k_242 k_239 k_241 kp_3 (show _ ∧ _ ∧ _ = some 3 from by decide +kernel) (x_recv hC hw hc30 rfl) rfl d_R_look_42) (fun rv M31 H locs hq hw => ?_) (fun _ _ _ _ _ h _ _ => h.elim)
        obtain ⟨rfl, h_f, h_fp, fr⟩ := hq
        have hF := hF.trans fr (by intro z hz; simp only [List.mem_cons, List.not_mem_nil, or_false] at hz ⊢; rcases hz with rfl | rfl <;> exact Or.inl (by simp))
        rw [lkR_n (ro := fun i => i) hgr] at h_f h_fp
        have h_q := fr.get h_q (by simp [(hR.ne (k := 12) (i := 0) (k' := 10) (j := 0) Nat.zero_lt_one Nat.zero_lt_one (by decide)), (hR.ne (k := 12) (i := 0) (k' := 11) (j := 0) Nat.zero_lt_one Nat.zero_lt_one (by decide))])
        have h_v := fr.get h_v (by simp [(hR.ne (k := 13) (i := 0) (k' := 10) (j := 0) Nat.zero_lt_one Nat.zero_lt_one (by decide)), (hR.ne (k := 13) (i := 0) (k' := 11) (j := 0) Nat.zero_lt_one Nat.zero_lt_one (by decide))])
        have hc30 := fr.get hc30 (by simp [(hR.ne (k := 14) (i := 0) (k' := 10) (j := 0) Nat.zero_lt_one Nat.zero_lt_one (by decide)), (hR.ne (k := 14) (i := 0) (k' := 11) (j := 0) Nat.zero_lt_one Nat.zero_lt_one (by decide))])
        refine W.eq (g2 := F0 m 45 ls []) rfl ?_
        refine lv_iinc (v := nI (i + 1)) (lv' := [(1, .int (nI (i + 1))), (0, .ref (ad 14 0))]) hx hb d_R_look_45 hl (k := 1) rfl (by exact nI_1 _) (by decide) rfl (fun ls hl => ?_)
        refine lv_goto (tgt := 9) hx hb d_R_look_48 (by decide) ?_
        exact ih9 (i + 1) (nI (nu 1 (i))) (g') (by omega) (by omega)  _ _ _ _ h_f h_fp h_q h_v hF hw (lv_sub hl [1, 0] rfl)
  exact HL9 (4 + 1) (0) (n3) (p4) (by omega) (by omega)  _ _ _ _ h_f h_fp h_q h_v hF hw (lv_sub hl [1, 0] rfl)
