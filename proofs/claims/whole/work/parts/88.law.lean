/-! the law's small methods -/
theorem x_neL {cA cB : ClassId} {x y : (Nat → Int32) ⊕ (Nat → Int64) ⊕ (Nat → UInt32) ⊕ (Nat → UInt64) ⊕ (Nat → Option Nat)} : (Sum.inl (cA, 1, x) : va_E) ≠ Sum.inl (cB, 0, y) := by
  intro z
  injection z with z
  injection z with z1 z2
  injection z2 with z3 z4
  cases z3
def cFo (M M' : xMem) (ad : Nat → Nat → Nat) (nu : Nat → Nat → Nat) (out : Nat) : Prop := (∀ a, M a ≠ none → M' a ≠ none) ∧ ∀ a, ¬ own ad nu a → a ≠ out → M a ≠ none → M' a = M a
theorem cFo.of {M M' : xMem} {ad : Nat → Nat → Nat} {nu : Nat → Nat → Nat} {out : Nat} (h : cFr M M' ad nu) : cFo M M' ad nu out := ⟨h.1, fun a ha _ hn => h.2 a ha hn⟩
theorem cFo.put {M M1 M2 : xMem} {ad : Nat → Nat → Nat} {nu : Nat → Nat → Nat} {out : Nat} {e : va_E} (h : cFr M M1 ad nu) (em : M2 out = some e) (fr : ∀ b, b ≠ out → M2 b = M1 b) : cFo M M2 ad nu out := by
  refine ⟨fun a ha => ?_, fun a ha hne hn => (fr a hne).trans (h.2 a ha hn)⟩
  by_cases hz : a = out
  · rw [hz]
    exact x_nn em
  · rw [fr a hz]
    exact h.1 a ha
theorem cRep.out {G : xT} {M M' : xMem} {fz a : Nat} {ad : Nat → Nat → Nat} {nu : Nat → Nat → Nat} {sg : Nat → Nat → Int32} {e : va_E} (h : cRep G M fz ad nu sg) (hz9 : M' fz = none) (ha : ¬ own ad nu a) (em : M' a = some e) (fr : ∀ b, b ≠ a → M' b = M b) : cRep G M' fz ad nu sg := by
  refine h.next (S := [a]) (xfr.rf.put em fr (Or.inl (List.mem_singleton.mpr rfl))) hz9 (fun _ => 0) rfl (fun k i hi => Or.inl ⟨hi, rfl⟩) (fun k i hi => Or.inl ⟨hi, rfl, fun z => ha ⟨k, i, hi, (List.mem_singleton.mp z).symm⟩, (fun _ => rfl), fun _ he => he⟩)
set_option maxHeartbeats 400000 in
set_option maxRecDepth 100000 in
/-- the law: sign -/
theorem c_L_sign (l : Launch) (hfl : l.flags = flags0) (G : xT) (M : xMem) (sz : Nat) (fz : Nat) (ad : Nat → Nat → Nat) (nu : Nat → Nat → Nat) (sg : Nat → Nat → Int32) (hR : cRep G M fz ad nu sg) (out : Nat) (ov : Nat → Int64) (hoo : ¬ own ad nu out) (v a0 a1 a2 a3 : Int32) (h20 : nu 6 0 ≤ 20) (h40 : ∀ r, nu 1 r ≤ 40) (hfm : ∀ u, u < nu 7 0 → nu 9 u < nu 6 0) (h_out : M out = some (.inl (G.2.1 2, 1, .inr (.inl ov)))) : xMet l G y_L_sign (Cond.codeWith y_L_sign b_L_sign 8 (Option.some Jvm.ClassFile.FieldType.int) [(0, 16, 19, 13), (0, 16, 23, 15), (0, 16, 27, 17)] :: x_tbl) { frames := 9, cells := 6, slots := 36, locals := 153 } [.ref (ad 14 0), .int v, .int a0, .int a1, .int a2, .int a3, .ref out] M sz (fun u M' => u = some (.int (nI (signK nu v a0 a1 a2 a3))) ∧ ∃ (ad' : Nat → Nat → Nat) (nu' : Nat → Nat → Nat) (sg' : Nat → Nat → Int32) (ov' : Nat → Int64), cRep G M' fz ad' nu' sg' ∧ ad' 14 0 = ad 14 0 ∧ (∀ a, own ad' nu' a → own ad nu a ∨ M a = none) ∧ M' out = some (.inl (G.2.1 2, 1, .inr (.inl ov'))) ∧ cFo M M' ad nu out ∧ (signK nu v a0 a1 a2 a3 = 0 → ov' 0 = Int32.toInt64 (nI (nu 1 (cN v) + 1)) ∧ eqx [1] nu nu' ∧ eqx [2, 3, 4, 5] sg sg' ∧ laidP nu nu' sg sg' (cN v) a0 a1 a2 a3) ∧ (signK nu v a0 a1 a2 a3 ≠ 0 → nu' = nu ∧ sg' = sg)) (fun _ _ => False) := by
  refine xMet.ofH (by decide) (Nat.le_of_ble_eq_true rfl) ?_
  intro p e s m below meth c ls hC hr hnm hno hsz hw hl
  obtain ⟨hx, hb, hown, hts, hK, hml, hlk, hz⟩ := id hC
  have hl : lv_has ls 8 [(0, .ref (ad 14 0)), (1, .int v), (2, .int a0), (3, .int a1), (4, .int a2), (5, .int a3), (6, .ref out)] := hl
  have h_out0 := h_out
  refine lv_aload hx hb d_L_sign_0 (lv_at hl 6 rfl) ?_
  refine lv_iconst (v := nI 0) hx hb d_L_sign_2 (by decide) ?_
  refine lv_aload_n hx hb d_L_sign_3 rfl (lv_at hl 0 rfl) ?_
  refine lv_iload_n hx hb d_L_sign_4 rfl (lv_at hl 1 rfl) ?_
  refine lv_iload_n hx hb d_L_sign_5 rfl (lv_at hl 2 rfl) ?_
  refine lv_iload_n hx hb d_L_sign_6 rfl (lv_at hl 3 rfl) ?_
  refine lv_iload hx hb d_L_sign_7 (lv_at hl 4 rfl) ?_
  refine lv_iload hx hb d_L_sign_9 (lv_at hl 5 rfl) ?_
  have hc1 := hR.rc
  have hcatch : ∀ (x : Addr) (X : String) (M9 : xMem) (H : Heap) (locs : List Loc), (fun X M' => M' = M ∧ (signK nu v a0 a1 a2 a3 = 1 ∧ X = "java/lang/IndexOutOfBoundsException" ∨ signK nu v a0 a1 a2 a3 = 2 ∧ X = "java/lang/IllegalArgumentException" ∨ signK nu v a0 a1 a2 a3 = 3 ∧ X = "java/lang/UnsupportedOperationException")) X M9 → xTh s H X x → xWd G (xA M sz) s.heap M9 H locs → xWT p l e { frames := 9, cells := 6, slots := 36, locals := 153 } s m ([.ref (ad 14 0), .int v, .int a0, .int a1, .int a2, .int a3, .ref out] : List Value).toArray below meth c H locs 6 36 (xMQ below G M sz (fun u M' => u = some (.int (nI (signK nu v a0 a1 a2 a3))) ∧ ∃ (ad' : Nat → Nat → Nat) (nu' : Nat → Nat → Nat) (sg' : Nat → Nat → Int32) (ov' : Nat → Int64), cRep G M' fz ad' nu' sg' ∧ ad' 14 0 = ad 14 0 ∧ (∀ a, own ad' nu' a → own ad nu a ∨ M a = none) ∧ M' out = some (.inl (G.2.1 2, 1, .inr (.inl ov'))) ∧ cFo M M' ad nu out ∧ (signK nu v a0 a1 a2 a3 = 0 → ov' 0 = Int32.toInt64 (nI (nu 1 (cN v) + 1)) ∧ eqx [1] nu nu' ∧ eqx [2, 3, 4, 5] sg sg' ∧ laidP nu nu' sg sg' (cN v) a0 a1 a2 a3) ∧ (signK nu v a0 a1 a2 a3 ≠ 0 → nu' = nu ∧ sg' = sg)) (fun _ _ => False) s 6 36) x (F0 m 11 ls [.int (nI 0), .ref out]) := by
    intro x X M9 H locs hth hxT hw
    obtain ⟨rfl, ⟨hK, rfl⟩ | ⟨hK, rfl⟩ | ⟨hK, rfl⟩⟩ := hth
    · refine x_catch hC hxT [] ⟨0, 16, 19, 13⟩ [⟨0, 16, 23, 15⟩, ⟨0, 16, 27, 17⟩] hno (by decide) (by decide) k_289 k_301 (fun y hy => absurd hy List.not_mem_nil) rfl ?_
      refine lv_astore (lv' := [(7, .ref x), (0, .ref (ad 14 0)), (1, .int v), (2, .int a0), (3, .int a1), (4, .int a2), (5, .int a3), (6, .ref out)]) hx hb d_L_sign_19 hl (by decide) rfl (fun ls hl => ?_)
      refine lv_iconst (v := nI 1) hx hb d_L_sign_21 (by decide) ?_
      exact x_iret hC hr hw (⟨congrArg (fun z => some (Value.int z)) (congrArg nI hK.symm), ad, nu, sg, ov, hR, rfl, fun a ha => Or.inl ha, h_out, cFo.of cFr.rf, fun z => absurd (hK.symm.trans z) (by decide), fun _ => ⟨rfl, rfl⟩⟩) (Nat.le_of_ble_eq_true rfl) (Nat.le_of_ble_eq_true rfl) d_L_sign_22
    · refine x_catch hC hxT [⟨0, 16, 19, 13⟩] ⟨0, 16, 23, 15⟩ [⟨0, 16, 27, 17⟩] hno (by decide) (by decide) k_290 k_375 (by intro y hy; simp only [List.mem_cons, List.not_mem_nil, or_false] at hy; rcases hy with rfl <;> first | exact ⟨by decide, by decide, _, k_289, by simp [x_ncs]⟩) rfl ?_
      refine lv_astore (lv' := [(7, .ref x), (0, .ref (ad 14 0)), (1, .int v), (2, .int a0), (3, .int a1), (4, .int a2), (5, .int a3), (6, .ref out)]) hx hb d_L_sign_23 hl (by decide) rfl (fun ls hl => ?_)
      refine lv_iconst (v := nI 2) hx hb d_L_sign_25 (by decide) ?_
      exact x_iret hC hr hw (⟨congrArg (fun z => some (Value.int z)) (congrArg nI hK.symm), ad, nu, sg, ov, hR, rfl, fun a ha => Or.inl ha, h_out, cFo.of cFr.rf, fun z => absurd (hK.symm.trans z) (by decide), fun _ => ⟨rfl, rfl⟩⟩) (Nat.le_of_ble_eq_true rfl) (Nat.le_of_ble_eq_true rfl) d_L_sign_26
    · refine x_catch hC hxT [⟨0, 16, 19, 13⟩, ⟨0, 16, 23, 15⟩] ⟨0, 16, 27, 17⟩ [] hno (by decide) (by decide) k_291 k_394 (by intro y hy; simp only [List.mem_cons, List.not_mem_nil, or_false] at hy; rcases hy with rfl | rfl <;> first | exact ⟨by decide, by decide, _, k_289, by simp [x_ncs]⟩ | exact ⟨by decide, by decide, _, k_290, by simp [x_ncs]⟩) rfl ?_
      refine lv_astore (lv' := [(7, .ref x), (0, .ref (ad 14 0)), (1, .int v), (2, .int a0), (3, .int a1), (4, .int a2), (5, .int a3), (6, .ref out)]) hx hb d_L_sign_27 hl (by decide) rfl (fun ls hl => ?_)
      refine lv_iconst (v := nI 3) hx hb d_L_sign_29 (by decide) ?_
      exact x_iret hC hr hw (⟨congrArg (fun z => some (Value.int z)) (congrArg nI hK.symm), ad, nu, sg, ov, hR, rfl, fun a ha => Or.inl ha, h_out, cFo.of cFr.rf, fun z => absurd (hK.symm.trans z) (by decide), fun _ => ⟨rfl, rfl⟩⟩) (Nat.le_of_ble_eq_true rfl) (Nat.le_of_ble_eq_true rfl) d_L_sign_30
  refine x_callG hC (c_R_sign l hfl G M (Array.size s.heap) fz ad nu sg hR v a0 a1 a2 a3 h20 h40 hfm) k_295 k_1 ⟨Nat.le_of_ble_eq_true rfl, Nat.le_of_ble_eq_true rfl⟩ ⟨Nat.le_of_ble_eq_true rfl, Nat.le_of_ble_eq_true rfl⟩ hw hl.1 (Nat.le_of_ble_eq_true rfl) d_L_sign_11 (x_ivV hC k_295 k_292 k_293 k_294 (show _ ∧ _ ∧ _ = some 5 from by decide +kernel) (x_recv hC hw hc1 rfl) rfl d_L_sign_11) (fun rv M2 H locs hq hw => ?_) hcatch
  obtain ⟨rfl, hK, nu', sg', q1, qN, qS, qL, q5⟩ := hq
  have qf : eqx [1] nu nu' ∧ eqx [2, 3, 4, 5] sg sg' ∧ laidP nu nu' sg sg' (cN v) a0 a1 a2 a3 := ⟨qN, qS, qL⟩
  have q6 : ∀ a, own ad nu' a → own ad nu a ∨ M a = none := fun a ha => Or.inl (own_eq (rng_eqx qN (by decide)) ha)
  have q7 : ad 14 0 = ad 14 0 := rfl
  have hfm' : ∀ u, u < nu' 7 0 → nu' 9 u < nu' 6 0 := by rw [qN 7 (by decide), qN 9 (by decide), qN 6 (by decide)]; exact hfm
  refine W.eq (g2 := F0 m 14 ls [.int (nI (nu 1 (cN v) + 1)), .int (nI 0), .ref out]) rfl ?_
  have h_out := (q5.2 out hoo (x_nn h_out)).trans h_out
  refine lv_i2l (v := Int32.toInt64 (nI (nu 1 (cN v) + 1))) hx hb d_L_sign_14 rfl ?_
  refine x_last (j := 0) hC hw h_out rfl (rfl) (by omega) (by omega) d_L_sign_15 (fun M3 H locs em fr hw => ?_)
  have h_out := em
  refine lv_goto (tgt := 31) hx hb d_L_sign_16 (by decide) ?_
  refine lv_iconst (v := nI 0) hx hb d_L_sign_31 (by decide) ?_
  exact x_iret hC hr hw (⟨congrArg (fun z => some (Value.int z)) (congrArg nI hK.symm), ad, nu', sg', _, q1.out (x_fz0 hC hw hR.2.1.1) (fun z => (q6 out z).elim hoo (fun y => x_nn h_out0 y)) em fr, rfl, q6, em, cFo.put q5 em fr, fun _ => ⟨va_up_self _ _ _, qf⟩, fun z => absurd hK z⟩) (Nat.le_of_ble_eq_true rfl) (Nat.le_of_ble_eq_true rfl) d_L_sign_32

set_option maxHeartbeats 400000 in
set_option maxRecDepth 100000 in
/-- the law: formSign -/
theorem c_L_formSign (l : Launch) (hfl : l.flags = flags0) (G : xT) (M : xMem) (sz : Nat) (fz : Nat) (ad : Nat → Nat → Nat) (nu : Nat → Nat → Nat) (sg : Nat → Nat → Int32) (hR : cRep G M fz ad nu sg) (out : Nat) (ov : Nat → Int64) (hoo : ¬ own ad nu out) (v a0 a1 a2 a3 : Int32) (h20 : nu 6 0 ≤ 20) (h40 : ∀ r, nu 1 r ≤ 40) (hfm : ∀ u, u < nu 7 0 → nu 9 u < nu 6 0) (h_out : M out = some (.inl (G.2.1 2, 1, .inr (.inl ov)))) : xMet l G y_L_formSign (Cond.codeWith y_L_formSign b_L_formSign 8 (Option.some Jvm.ClassFile.FieldType.int) [(0, 16, 19, 13), (0, 16, 23, 15), (0, 16, 27, 17)] :: x_tbl) { frames := 9, cells := 6, slots := 36, locals := 153 } [.ref (ad 14 0), .int v, .int a0, .int a1, .int a2, .int a3, .ref out] M sz (fun u M' => u = some (.int (nI (formSignK nu v a0 a1 a2 a3))) ∧ ∃ (ad' : Nat → Nat → Nat) (nu' : Nat → Nat → Nat) (sg' : Nat → Nat → Int32) (ov' : Nat → Int64), cRep G M' fz ad' nu' sg' ∧ ad' 14 0 = ad 14 0 ∧ (∀ a, own ad' nu' a → own ad nu a ∨ M a = none) ∧ M' out = some (.inl (G.2.1 2, 1, .inr (.inl ov'))) ∧ cFo M M' ad nu out ∧ (formSignK nu v a0 a1 a2 a3 = 0 → ov' 0 = Int32.toInt64 (nI (nu 1 (4 + cN v) + 1)) ∧ eqx [1] nu nu' ∧ eqx [2, 3, 4, 5] sg sg' ∧ laidP nu nu' sg sg' (4 + cN v) a0 a1 a2 a3) ∧ (formSignK nu v a0 a1 a2 a3 ≠ 0 → nu' = nu ∧ sg' = sg)) (fun _ _ => False) := by
  refine xMet.ofH (by decide) (Nat.le_of_ble_eq_true rfl) ?_
  intro p e s m below meth c ls hC hr hnm hno hsz hw hl
  obtain ⟨hx, hb, hown, hts, hK, hml, hlk, hz⟩ := id hC
  have hl : lv_has ls 8 [(0, .ref (ad 14 0)), (1, .int v), (2, .int a0), (3, .int a1), (4, .int a2), (5, .int a3), (6, .ref out)] := hl
  have h_out0 := h_out
  refine lv_aload hx hb d_L_formSign_0 (lv_at hl 6 rfl) ?_
  refine lv_iconst (v := nI 0) hx hb d_L_formSign_2 (by decide) ?_
  refine lv_aload_n hx hb d_L_formSign_3 rfl (lv_at hl 0 rfl) ?_
  refine lv_iload_n hx hb d_L_formSign_4 rfl (lv_at hl 1 rfl) ?_
  refine lv_iload_n hx hb d_L_formSign_5 rfl (lv_at hl 2 rfl) ?_
  refine lv_iload_n hx hb d_L_formSign_6 rfl (lv_at hl 3 rfl) ?_
  refine lv_iload hx hb d_L_formSign_7 (lv_at hl 4 rfl) ?_
  refine lv_iload hx hb d_L_formSign_9 (lv_at hl 5 rfl) ?_
  have hc1 := hR.rc
  have hcatch : ∀ (x : Addr) (X : String) (M9 : xMem) (H : Heap) (locs : List Loc), (fun X M' => M' = M ∧ (formSignK nu v a0 a1 a2 a3 = 1 ∧ X = "java/lang/IndexOutOfBoundsException" ∨ formSignK nu v a0 a1 a2 a3 = 2 ∧ X = "java/lang/IllegalArgumentException" ∨ formSignK nu v a0 a1 a2 a3 = 3 ∧ X = "java/lang/UnsupportedOperationException")) X M9 → xTh s H X x → xWd G (xA M sz) s.heap M9 H locs → xWT p l e { frames := 9, cells := 6, slots := 36, locals := 153 } s m ([.ref (ad 14 0), .int v, .int a0, .int a1, .int a2, .int a3, .ref out] : List Value).toArray below meth c H locs 6 36 (xMQ below G M sz (fun u M' => u = some (.int (nI (formSignK nu v a0 a1 a2 a3))) ∧ ∃ (ad' : Nat → Nat → Nat) (nu' : Nat → Nat → Nat) (sg' : Nat → Nat → Int32) (ov' : Nat → Int64), cRep G M' fz ad' nu' sg' ∧ ad' 14 0 = ad 14 0 ∧ (∀ a, own ad' nu' a → own ad nu a ∨ M a = none) ∧ M' out = some (.inl (G.2.1 2, 1, .inr (.inl ov'))) ∧ cFo M M' ad nu out ∧ (formSignK nu v a0 a1 a2 a3 = 0 → ov' 0 = Int32.toInt64 (nI (nu 1 (4 + cN v) + 1)) ∧ eqx [1] nu nu' ∧ eqx [2, 3, 4, 5] sg sg' ∧ laidP nu nu' sg sg' (4 + cN v) a0 a1 a2 a3) ∧ (formSignK nu v a0 a1 a2 a3 ≠ 0 → nu' = nu ∧ sg' = sg)) (fun _ _ => False) s 6 36) x (F0 m 11 ls [.int (nI 0), .ref out]) := by
    intro x X M9 H locs hth hxT hw
    obtain ⟨rfl, ⟨hK, rfl⟩ | ⟨hK, rfl⟩ | ⟨hK, rfl⟩⟩ := hth
    · refine x_catch hC hxT [] ⟨0, 16, 19, 13⟩ [⟨0, 16, 23, 15⟩, ⟨0, 16, 27, 17⟩] hno (by decide) (by decide) k_289 k_301 (fun y hy => absurd hy List.not_mem_nil) rfl ?_
      refine lv_astore (lv' := [(7, .ref x), (0, .ref (ad 14 0)), (1, .int v), (2, .int a0), (3, .int a1), (4, .int a2), (5, .int a3), (6, .ref out)]) hx hb d_L_formSign_19 hl (by decide) rfl (fun ls hl => ?_)
      refine lv_iconst (v := nI 1) hx hb d_L_formSign_21 (by decide) ?_
      exact x_iret hC hr hw (⟨congrArg (fun z => some (Value.int z)) (congrArg nI hK.symm), ad, nu, sg, ov, hR, rfl, fun a ha => Or.inl ha, h_out, cFo.of cFr.rf, fun z => absurd (hK.symm.trans z) (by decide), fun _ => ⟨rfl, rfl⟩⟩) (Nat.le_of_ble_eq_true rfl) (Nat.le_of_ble_eq_true rfl) d_L_formSign_22
    · refine x_catch hC hxT [⟨0, 16, 19, 13⟩] ⟨0, 16, 23, 15⟩ [⟨0, 16, 27, 17⟩] hno (by decide) (by decide) k_290 k_375 (by intro y hy; simp only [List.mem_cons, List.not_mem_nil, or_false] at hy; rcases hy with rfl <;> first | exact ⟨by decide, by decide, _, k_289, by simp [x_ncs]⟩) rfl ?_
      refine lv_astore (lv' := [(7, .ref x), (0, .ref (ad 14 0)), (1, .int v), (2, .int a0), (3, .int a1), (4, .int a2), (5, .int a3), (6, .ref out)]) hx hb d_L_formSign_23 hl (by decide) rfl (fun ls hl => ?_)
      refine lv_iconst (v := nI 2) hx hb d_L_formSign_25 (by decide) ?_
      exact x_iret hC hr hw (⟨congrArg (fun z => some (Value.int z)) (congrArg nI hK.symm), ad, nu, sg, ov, hR, rfl, fun a ha => Or.inl ha, h_out, cFo.of cFr.rf, fun z => absurd (hK.symm.trans z) (by decide), fun _ => ⟨rfl, rfl⟩⟩) (Nat.le_of_ble_eq_true rfl) (Nat.le_of_ble_eq_true rfl) d_L_formSign_26
    · refine x_catch hC hxT [⟨0, 16, 19, 13⟩, ⟨0, 16, 23, 15⟩] ⟨0, 16, 27, 17⟩ [] hno (by decide) (by decide) k_291 k_394 (by intro y hy; simp only [List.mem_cons, List.not_mem_nil, or_false] at hy; rcases hy with rfl | rfl <;> first | exact ⟨by decide, by decide, _, k_289, by simp [x_ncs]⟩ | exact ⟨by decide, by decide, _, k_290, by simp [x_ncs]⟩) rfl ?_
      refine lv_astore (lv' := [(7, .ref x), (0, .ref (ad 14 0)), (1, .int v), (2, .int a0), (3, .int a1), (4, .int a2), (5, .int a3), (6, .ref out)]) hx hb d_L_formSign_27 hl (by decide) rfl (fun ls hl => ?_)
      refine lv_iconst (v := nI 3) hx hb d_L_formSign_29 (by decide) ?_
      exact x_iret hC hr hw (⟨congrArg (fun z => some (Value.int z)) (congrArg nI hK.symm), ad, nu, sg, ov, hR, rfl, fun a ha => Or.inl ha, h_out, cFo.of cFr.rf, fun z => absurd (hK.symm.trans z) (by decide), fun _ => ⟨rfl, rfl⟩⟩) (Nat.le_of_ble_eq_true rfl) (Nat.le_of_ble_eq_true rfl) d_L_formSign_30
  refine x_callG hC (c_R_formSign l hfl G M (Array.size s.heap) fz ad nu sg hR v a0 a1 a2 a3 h20 h40 hfm) k_429 k_1 ⟨Nat.le_of_ble_eq_true rfl, Nat.le_of_ble_eq_true rfl⟩ ⟨Nat.le_of_ble_eq_true rfl, Nat.le_of_ble_eq_true rfl⟩ hw hl.1 (Nat.le_of_ble_eq_true rfl) d_L_formSign_11 (x_ivV hC k_429 k_426 k_427 k_428 (show _ ∧ _ ∧ _ = some 5 from by decide +kernel) (x_recv hC hw hc1 rfl) rfl d_L_formSign_11) (fun rv M2 H locs hq hw => ?_) hcatch
  obtain ⟨rfl, hK, nu', sg', q1, qN, qS, qL, q5⟩ := hq
  have qf : eqx [1] nu nu' ∧ eqx [2, 3, 4, 5] sg sg' ∧ laidP nu nu' sg sg' (4 + cN v) a0 a1 a2 a3 := ⟨qN, qS, qL⟩
  have q6 : ∀ a, own ad nu' a → own ad nu a ∨ M a = none := fun a ha => Or.inl (own_eq (rng_eqx qN (by decide)) ha)
  have q7 : ad 14 0 = ad 14 0 := rfl
  have hfm' : ∀ u, u < nu' 7 0 → nu' 9 u < nu' 6 0 := by rw [qN 7 (by decide), qN 9 (by decide), qN 6 (by decide)]; exact hfm
  refine W.eq (g2 := F0 m 14 ls [.int (nI (nu 1 (4 + cN v) + 1)), .int (nI 0), .ref out]) rfl ?_
  have h_out := (q5.2 out hoo (x_nn h_out)).trans h_out
  refine lv_i2l (v := Int32.toInt64 (nI (nu 1 (4 + cN v) + 1))) hx hb d_L_formSign_14 rfl ?_
  refine x_last (j := 0) hC hw h_out rfl (rfl) (by omega) (by omega) d_L_formSign_15 (fun M3 H locs em fr hw => ?_)
  have h_out := em
  refine lv_goto (tgt := 31) hx hb d_L_formSign_16 (by decide) ?_
  refine lv_iconst (v := nI 0) hx hb d_L_formSign_31 (by decide) ?_
  exact x_iret hC hr hw (⟨congrArg (fun z => some (Value.int z)) (congrArg nI hK.symm), ad, nu', sg', _, q1.out (x_fz0 hC hw hR.2.1.1) (fun z => (q6 out z).elim hoo (fun y => x_nn h_out0 y)) em fr, rfl, q6, em, cFo.put q5 em fr, fun _ => ⟨va_up_self _ _ _, qf⟩, fun z => absurd hK z⟩) (Nat.le_of_ble_eq_true rfl) (Nat.le_of_ble_eq_true rfl) d_L_formSign_32

set_option maxHeartbeats 400000 in
set_option maxRecDepth 100000 in
/-- the law: letter -/
theorem c_L_letter (l : Launch) (hfl : l.flags = flags0) (G : xT) (M : xMem) (sz : Nat) (fz : Nat) (ad : Nat → Nat → Nat) (nu : Nat → Nat → Nat) (sg : Nat → Nat → Int32) (hR : cRep G M fz ad nu sg) (out : Nat) (ov : Nat → Int64) (hoo : ¬ own ad nu out) (v co : Int32) (h4 : nu 12 0 ≤ 4) (h8 : ∀ w, nu 13 w ≤ 8) (hfm : ∀ u, u < nu 7 0 → nu 9 u < nu 6 0) (h_out : M out = some (.inl (G.2.1 2, 1, .inr (.inl ov)))) : xMet l G y_L_letter (Cond.codeWith y_L_letter b_L_letter 5 (Option.some Jvm.ClassFile.FieldType.int) [(0, 10, 13, 13), (0, 10, 17, 15), (0, 10, 21, 17)] :: x_tbl) { frames := 8, cells := 3, slots := 18, locals := 127 } [.ref (ad 14 0), .int v, .int co, .ref out] M sz (fun u M' => u = some (.int (nI (letterK nu v co))) ∧ ∃ (ad' : Nat → Nat → Nat) (nu' : Nat → Nat → Nat) (sg' : Nat → Nat → Int32) (ov' : Nat → Int64), cRep G M' fz ad' nu' sg' ∧ ad' 14 0 = ad 14 0 ∧ (∀ a, own ad' nu' a → own ad nu a ∨ M a = none) ∧ M' out = some (.inl (G.2.1 2, 1, .inr (.inl ov'))) ∧ cFo M M' ad nu out ∧ (letterK nu v co = 0 → ov' 0 = Int32.toInt64 (nI (nu 13 (cN v) + 1)) ∧ eqx [13] nu nu' ∧ eqx [14] sg sg' ∧ (nu' 13 = va_up (nu 13) (cN v) (nu 13 (cN v) + 1) ∧ sg' 14 = va_up (sg 14) (8 * cN v + nu 13 (cN v)) co)) ∧ (letterK nu v co ≠ 0 → nu' = nu ∧ sg' = sg)) (fun _ _ => False) := by
  refine xMet.ofH (by decide) (Nat.le_of_ble_eq_true rfl) ?_
  intro p e s m below meth c ls hC hr hnm hno hsz hw hl
  obtain ⟨hx, hb, hown, hts, hK, hml, hlk, hz⟩ := id hC
  have hl : lv_has ls 5 [(0, .ref (ad 14 0)), (1, .int v), (2, .int co), (3, .ref out)] := hl
  have h_out0 := h_out
  refine lv_aload_n hx hb d_L_letter_0 rfl (lv_at hl 3 rfl) ?_
  refine lv_iconst (v := nI 0) hx hb d_L_letter_1 (by decide) ?_
  refine lv_aload_n hx hb d_L_letter_2 rfl (lv_at hl 0 rfl) ?_
  refine lv_iload_n hx hb d_L_letter_3 rfl (lv_at hl 1 rfl) ?_
  refine lv_iload_n hx hb d_L_letter_4 rfl (lv_at hl 2 rfl) ?_
  have hc1 := hR.rc
  have hcatch : ∀ (x : Addr) (X : String) (M9 : xMem) (H : Heap) (locs : List Loc), (fun X M' => M' = M ∧ (letterK nu v co = 1 ∧ X = "java/lang/IndexOutOfBoundsException" ∨ letterK nu v co = 2 ∧ X = "java/lang/IllegalArgumentException" ∨ letterK nu v co = 3 ∧ X = "java/lang/UnsupportedOperationException")) X M9 → xTh s H X x → xWd G (xA M sz) s.heap M9 H locs → xWT p l e { frames := 8, cells := 3, slots := 18, locals := 127 } s m ([.ref (ad 14 0), .int v, .int co, .ref out] : List Value).toArray below meth c H locs 3 18 (xMQ below G M sz (fun u M' => u = some (.int (nI (letterK nu v co))) ∧ ∃ (ad' : Nat → Nat → Nat) (nu' : Nat → Nat → Nat) (sg' : Nat → Nat → Int32) (ov' : Nat → Int64), cRep G M' fz ad' nu' sg' ∧ ad' 14 0 = ad 14 0 ∧ (∀ a, own ad' nu' a → own ad nu a ∨ M a = none) ∧ M' out = some (.inl (G.2.1 2, 1, .inr (.inl ov'))) ∧ cFo M M' ad nu out ∧ (letterK nu v co = 0 → ov' 0 = Int32.toInt64 (nI (nu 13 (cN v) + 1)) ∧ eqx [13] nu nu' ∧ eqx [14] sg sg' ∧ (nu' 13 = va_up (nu 13) (cN v) (nu 13 (cN v) + 1) ∧ sg' 14 = va_up (sg 14) (8 * cN v + nu 13 (cN v)) co)) ∧ (letterK nu v co ≠ 0 → nu' = nu ∧ sg' = sg)) (fun _ _ => False) s 3 18) x (F0 m 5 ls [.int (nI 0), .ref out]) := by
    intro x X M9 H locs hth hxT hw
    obtain ⟨rfl, ⟨hK, rfl⟩ | ⟨hK, rfl⟩ | ⟨hK, rfl⟩⟩ := hth
    · refine x_catch hC hxT [] ⟨0, 10, 13, 13⟩ [⟨0, 10, 17, 15⟩, ⟨0, 10, 21, 17⟩] hno (by decide) (by decide) k_289 k_301 (fun y hy => absurd hy List.not_mem_nil) rfl ?_
      refine lv_astore (lv' := [(4, .ref x), (0, .ref (ad 14 0)), (1, .int v), (2, .int co), (3, .ref out)]) hx hb d_L_letter_13 hl (by decide) rfl (fun ls hl => ?_)
      refine lv_iconst (v := nI 1) hx hb d_L_letter_15 (by decide) ?_
      exact x_iret hC hr hw (⟨congrArg (fun z => some (Value.int z)) (congrArg nI hK.symm), ad, nu, sg, ov, hR, rfl, fun a ha => Or.inl ha, h_out, cFo.of cFr.rf, fun z => absurd (hK.symm.trans z) (by decide), fun _ => ⟨rfl, rfl⟩⟩) (Nat.le_of_ble_eq_true rfl) (Nat.le_of_ble_eq_true rfl) d_L_letter_16
    · refine x_catch hC hxT [⟨0, 10, 13, 13⟩] ⟨0, 10, 17, 15⟩ [⟨0, 10, 21, 17⟩] hno (by decide) (by decide) k_290 k_375 (by intro y hy; simp only [List.mem_cons, List.not_mem_nil, or_false] at hy; rcases hy with rfl <;> first | exact ⟨by decide, by decide, _, k_289, by simp [x_ncs]⟩) rfl ?_
      refine lv_astore (lv' := [(4, .ref x), (0, .ref (ad 14 0)), (1, .int v), (2, .int co), (3, .ref out)]) hx hb d_L_letter_17 hl (by decide) rfl (fun ls hl => ?_)
      refine lv_iconst (v := nI 2) hx hb d_L_letter_19 (by decide) ?_
      exact x_iret hC hr hw (⟨congrArg (fun z => some (Value.int z)) (congrArg nI hK.symm), ad, nu, sg, ov, hR, rfl, fun a ha => Or.inl ha, h_out, cFo.of cFr.rf, fun z => absurd (hK.symm.trans z) (by decide), fun _ => ⟨rfl, rfl⟩⟩) (Nat.le_of_ble_eq_true rfl) (Nat.le_of_ble_eq_true rfl) d_L_letter_20
    · refine x_catch hC hxT [⟨0, 10, 13, 13⟩, ⟨0, 10, 17, 15⟩] ⟨0, 10, 21, 17⟩ [] hno (by decide) (by decide) k_291 k_394 (by intro y hy; simp only [List.mem_cons, List.not_mem_nil, or_false] at hy; rcases hy with rfl | rfl <;> first | exact ⟨by decide, by decide, _, k_289, by simp [x_ncs]⟩ | exact ⟨by decide, by decide, _, k_290, by simp [x_ncs]⟩) rfl ?_
      refine lv_astore (lv' := [(4, .ref x), (0, .ref (ad 14 0)), (1, .int v), (2, .int co), (3, .ref out)]) hx hb d_L_letter_21 hl (by decide) rfl (fun ls hl => ?_)
      refine lv_iconst (v := nI 3) hx hb d_L_letter_23 (by decide) ?_
      exact x_iret hC hr hw (⟨congrArg (fun z => some (Value.int z)) (congrArg nI hK.symm), ad, nu, sg, ov, hR, rfl, fun a ha => Or.inl ha, h_out, cFo.of cFr.rf, fun z => absurd (hK.symm.trans z) (by decide), fun _ => ⟨rfl, rfl⟩⟩) (Nat.le_of_ble_eq_true rfl) (Nat.le_of_ble_eq_true rfl) d_L_letter_24
  refine x_callG hC (c_R_letter l hfl G M (Array.size s.heap) fz ad nu sg hR v co h4 h8 hfm) k_495 k_1 ⟨Nat.le_of_ble_eq_true rfl, Nat.le_of_ble_eq_true rfl⟩ ⟨Nat.le_of_ble_eq_true rfl, Nat.le_of_ble_eq_true rfl⟩ hw hl.1 (Nat.le_of_ble_eq_true rfl) d_L_letter_5 (x_ivV hC k_495 k_492 k_493 k_494 (show _ ∧ _ ∧ _ = some 2 from by decide +kernel) (x_recv hC hw hc1 rfl) rfl d_L_letter_5) (fun rv M2 H locs hq hw => ?_) hcatch
  obtain ⟨rfl, hK, nu', sg', q1, qN, qS, qL, q5⟩ := hq
  have qf : eqx [13] nu nu' ∧ eqx [14] sg sg' ∧ (nu' 13 = va_up (nu 13) (cN v) (nu 13 (cN v) + 1) ∧ sg' 14 = va_up (sg 14) (8 * cN v + nu 13 (cN v)) co) := ⟨qN, qS, qL⟩
  have q6 : ∀ a, own ad nu' a → own ad nu a ∨ M a = none := fun a ha => Or.inl (own_eq (rng_eqx qN (by decide)) ha)
  have q7 : ad 14 0 = ad 14 0 := rfl
  have hfm' : ∀ u, u < nu' 7 0 → nu' 9 u < nu' 6 0 := by rw [qN 7 (by decide), qN 9 (by decide), qN 6 (by decide)]; exact hfm
  refine W.eq (g2 := F0 m 8 ls [.int (nI (nu 13 (cN v) + 1)), .int (nI 0), .ref out]) rfl ?_
  have h_out := (q5.2 out hoo (x_nn h_out)).trans h_out
  refine lv_i2l (v := Int32.toInt64 (nI (nu 13 (cN v) + 1))) hx hb d_L_letter_8 rfl ?_
  refine x_last (j := 0) hC hw h_out rfl (rfl) (by omega) (by omega) d_L_letter_9 (fun M3 H locs em fr hw => ?_)
  have h_out := em
  refine lv_goto (tgt := 25) hx hb d_L_letter_10 (by decide) ?_
  refine lv_iconst (v := nI 0) hx hb d_L_letter_25 (by decide) ?_
  exact x_iret hC hr hw (⟨congrArg (fun z => some (Value.int z)) (congrArg nI hK.symm), ad, nu', sg', _, q1.out (x_fz0 hC hw hR.2.1.1) (fun z => (q6 out z).elim hoo (fun y => x_nn h_out0 y)) em fr, rfl, q6, em, cFo.put q5 em fr, fun _ => ⟨va_up_self _ _ _, qf⟩, fun z => absurd hK z⟩) (Nat.le_of_ble_eq_true rfl) (Nat.le_of_ble_eq_true rfl) d_L_letter_26

set_option maxHeartbeats 400000 in
set_option maxRecDepth 100000 in
/-- the law: octet -/
theorem c_L_octet (l : Launch) (hfl : l.flags = flags0) (G : xT) (M : xMem) (sz : Nat) (fz : Nat) (ad : Nat → Nat → Nat) (nu : Nat → Nat → Nat) (sg : Nat → Nat → Int32) (hR : cRep G M fz ad nu sg) (out : Nat) (ov : Nat → Int64) (hoo : ¬ own ad nu out) (v b : Int32) (hb0 : byP b) (h8 : nu 21 0 ≤ 8) (h60 : ∀ t, nu 23 t ≤ 60) (hfm : ∀ u, u < nu 7 0 → nu 9 u < nu 6 0) (h_out : M out = some (.inl (G.2.1 2, 1, .inr (.inl ov)))) : xMet l G y_L_octet (Cond.codeWith y_L_octet b_L_octet 5 (Option.some Jvm.ClassFile.FieldType.int) [(0, 10, 13, 13), (0, 10, 17, 17)] :: x_tbl) { frames := 8, cells := 2, slots := 12, locals := 126 } [.ref (ad 14 0), .int v, .int b, .ref out] M sz (fun u M' => u = some (.int (nI (octetK nu v))) ∧ ∃ (ad' : Nat → Nat → Nat) (nu' : Nat → Nat → Nat) (sg' : Nat → Nat → Int32) (ov' : Nat → Int64), cRep G M' fz ad' nu' sg' ∧ ad' 14 0 = ad 14 0 ∧ (∀ a, own ad' nu' a → own ad nu a ∨ M a = none) ∧ M' out = some (.inl (G.2.1 2, 1, .inr (.inl ov'))) ∧ cFo M M' ad nu out ∧ (octetK nu v = 0 → ov' 0 = Int32.toInt64 (nI (nu 23 (cN v) + 1)) ∧ eqx [23] nu nu' ∧ eqx [24] sg sg' ∧ (nu' 23 = va_up (nu 23) (cN v) (nu 23 (cN v) + 1) ∧ sg' 24 = va_up (sg 24) (60 * cN v + nu 23 (cN v)) (b &&& nI 255))) ∧ (octetK nu v ≠ 0 → nu' = nu ∧ sg' = sg)) (fun _ _ => False) := by
  refine xMet.ofH (by decide) (Nat.le_of_ble_eq_true rfl) ?_
  intro p e s m below meth c ls hC hr hnm hno hsz hw hl
  obtain ⟨hx, hb, hown, hts, hK, hml, hlk, hz⟩ := id hC
  have hl : lv_has ls 5 [(0, .ref (ad 14 0)), (1, .int v), (2, .int b), (3, .ref out)] := hl
  have h_out0 := h_out
  refine lv_aload_n hx hb d_L_octet_0 rfl (lv_at hl 3 rfl) ?_
  refine lv_iconst (v := nI 0) hx hb d_L_octet_1 (by decide) ?_
  refine lv_aload_n hx hb d_L_octet_2 rfl (lv_at hl 0 rfl) ?_
  refine lv_iload_n hx hb d_L_octet_3 rfl (lv_at hl 1 rfl) ?_
  refine lv_iload_n hx hb d_L_octet_4 rfl (lv_at hl 2 rfl) ?_
  have hc1 := hR.rc
  have hcatch : ∀ (x : Addr) (X : String) (M9 : xMem) (H : Heap) (locs : List Loc), (fun X M' => M' = M ∧ (octetK nu v = 1 ∧ X = "java/lang/IndexOutOfBoundsException" ∨ octetK nu v = 2 ∧ X = "java/lang/UnsupportedOperationException")) X M9 → xTh s H X x → xWd G (xA M sz) s.heap M9 H locs → xWT p l e { frames := 8, cells := 2, slots := 12, locals := 126 } s m ([.ref (ad 14 0), .int v, .int b, .ref out] : List Value).toArray below meth c H locs 2 12 (xMQ below G M sz (fun u M' => u = some (.int (nI (octetK nu v))) ∧ ∃ (ad' : Nat → Nat → Nat) (nu' : Nat → Nat → Nat) (sg' : Nat → Nat → Int32) (ov' : Nat → Int64), cRep G M' fz ad' nu' sg' ∧ ad' 14 0 = ad 14 0 ∧ (∀ a, own ad' nu' a → own ad nu a ∨ M a = none) ∧ M' out = some (.inl (G.2.1 2, 1, .inr (.inl ov'))) ∧ cFo M M' ad nu out ∧ (octetK nu v = 0 → ov' 0 = Int32.toInt64 (nI (nu 23 (cN v) + 1)) ∧ eqx [23] nu nu' ∧ eqx [24] sg sg' ∧ (nu' 23 = va_up (nu 23) (cN v) (nu 23 (cN v) + 1) ∧ sg' 24 = va_up (sg 24) (60 * cN v + nu 23 (cN v)) (b &&& nI 255))) ∧ (octetK nu v ≠ 0 → nu' = nu ∧ sg' = sg)) (fun _ _ => False) s 2 12) x (F0 m 5 ls [.int (nI 0), .ref out]) := by
    intro x X M9 H locs hth hxT hw
    obtain ⟨rfl, ⟨hK, rfl⟩ | ⟨hK, rfl⟩⟩ := hth
    · refine x_catch hC hxT [] ⟨0, 10, 13, 13⟩ [⟨0, 10, 17, 17⟩] hno (by decide) (by decide) k_289 k_301 (fun y hy => absurd hy List.not_mem_nil) rfl ?_
      refine lv_astore (lv' := [(4, .ref x), (0, .ref (ad 14 0)), (1, .int v), (2, .int b), (3, .ref out)]) hx hb d_L_octet_13 hl (by decide) rfl (fun ls hl => ?_)
      refine lv_iconst (v := nI 1) hx hb d_L_octet_15 (by decide) ?_
      exact x_iret hC hr hw (⟨congrArg (fun z => some (Value.int z)) (congrArg nI hK.symm), ad, nu, sg, ov, hR, rfl, fun a ha => Or.inl ha, h_out, cFo.of cFr.rf, fun z => absurd (hK.symm.trans z) (by decide), fun _ => ⟨rfl, rfl⟩⟩) (Nat.le_of_ble_eq_true rfl) (Nat.le_of_ble_eq_true rfl) d_L_octet_16
    · refine x_catch hC hxT [⟨0, 10, 13, 13⟩] ⟨0, 10, 17, 17⟩ [] hno (by decide) (by decide) k_291 k_394 (by intro y hy; simp only [List.mem_cons, List.not_mem_nil, or_false] at hy; rcases hy with rfl <;> first | exact ⟨by decide, by decide, _, k_289, by simp [x_ncs]⟩) rfl ?_
      refine lv_astore (lv' := [(4, .ref x), (0, .ref (ad 14 0)), (1, .int v), (2, .int b), (3, .ref out)]) hx hb d_L_octet_17 hl (by decide) rfl (fun ls hl => ?_)
      refine lv_iconst (v := nI 2) hx hb d_L_octet_19 (by decide) ?_
      exact x_iret hC hr hw (⟨congrArg (fun z => some (Value.int z)) (congrArg nI hK.symm), ad, nu, sg, ov, hR, rfl, fun a ha => Or.inl ha, h_out, cFo.of cFr.rf, fun z => absurd (hK.symm.trans z) (by decide), fun _ => ⟨rfl, rfl⟩⟩) (Nat.le_of_ble_eq_true rfl) (Nat.le_of_ble_eq_true rfl) d_L_octet_20
  refine x_callG hC (c_R_octet l hfl G M (Array.size s.heap) fz ad nu sg hR v b hb0 h8 h60 hfm) k_565 k_1 ⟨Nat.le_of_ble_eq_true rfl, Nat.le_of_ble_eq_true rfl⟩ ⟨Nat.le_of_ble_eq_true rfl, Nat.le_of_ble_eq_true rfl⟩ hw hl.1 (Nat.le_of_ble_eq_true rfl) d_L_octet_5 (x_ivV hC k_565 k_562 k_563 k_564 (show _ ∧ _ ∧ _ = some 2 from by decide +kernel) (x_recv hC hw hc1 rfl) rfl d_L_octet_5) (fun rv M2 H locs hq hw => ?_) hcatch
  obtain ⟨rfl, hK, nu', sg', q1, qN, qS, qL, q5⟩ := hq
  have qf : eqx [23] nu nu' ∧ eqx [24] sg sg' ∧ (nu' 23 = va_up (nu 23) (cN v) (nu 23 (cN v) + 1) ∧ sg' 24 = va_up (sg 24) (60 * cN v + nu 23 (cN v)) (b &&& nI 255)) := ⟨qN, qS, qL⟩
  have q6 : ∀ a, own ad nu' a → own ad nu a ∨ M a = none := fun a ha => Or.inl (own_eq (rng_eqx qN (by decide)) ha)
  have q7 : ad 14 0 = ad 14 0 := rfl
  have hfm' : ∀ u, u < nu' 7 0 → nu' 9 u < nu' 6 0 := by rw [qN 7 (by decide), qN 9 (by decide), qN 6 (by decide)]; exact hfm
  refine W.eq (g2 := F0 m 8 ls [.int (nI (nu 23 (cN v) + 1)), .int (nI 0), .ref out]) rfl ?_
  have h_out := (q5.2 out hoo (x_nn h_out)).trans h_out
  refine lv_i2l (v := Int32.toInt64 (nI (nu 23 (cN v) + 1))) hx hb d_L_octet_8 rfl ?_
  refine x_last (j := 0) hC hw h_out rfl (rfl) (by omega) (by omega) d_L_octet_9 (fun M3 H locs em fr hw => ?_)
  have h_out := em
  refine lv_goto (tgt := 21) hx hb d_L_octet_10 (by decide) ?_
  refine lv_iconst (v := nI 0) hx hb d_L_octet_21 (by decide) ?_
  exact x_iret hC hr hw (⟨congrArg (fun z => some (Value.int z)) (congrArg nI hK.symm), ad, nu', sg', _, q1.out (x_fz0 hC hw hR.2.1.1) (fun z => (q6 out z).elim hoo (fun y => x_nn h_out0 y)) em fr, rfl, q6, em, cFo.put q5 em fr, fun _ => ⟨va_up_self _ _ _, qf⟩, fun z => absurd hK z⟩) (Nat.le_of_ble_eq_true rfl) (Nat.le_of_ble_eq_true rfl) d_L_octet_22

set_option maxHeartbeats 400000 in
set_option maxRecDepth 100000 in
/-- the law: form -/
theorem c_L_form (l : Launch) (hfl : l.flags = flags0) (G : xT) (M : xMem) (sz : Nat) (fz : Nat) (ad : Nat → Nat → Nat) (nu : Nat → Nat → Nat) (sg : Nat → Nat → Int32) (hR : cRep G M fz ad nu sg) (out : Nat) (ov : Nat → Int64) (hoo : ¬ own ad nu out)  (h20 : nu 6 0 ≤ 20) (hf0 : ∀ f, nu 6 0 ≤ f → nu 1 (4 + f) = 0) (hfm : ∀ u, u < nu 7 0 → nu 9 u < nu 6 0) (h_out : M out = some (.inl (G.2.1 2, 1, .inr (.inl ov)))) : xMet l G y_L_form (Cond.codeWith y_L_form b_L_form 3 (Option.some Jvm.ClassFile.FieldType.int) [(0, 8, 11, 17)] :: x_tbl) { frames := 8, cells := 4, slots := 191, locals := 192 } [.ref (ad 14 0), .ref out] M sz (fun u M' => u = some (.int (nI (formK nu))) ∧ ∃ (ad' : Nat → Nat → Nat) (nu' : Nat → Nat → Nat) (sg' : Nat → Nat → Int32) (ov' : Nat → Int64), cRep G M' fz ad' nu' sg' ∧ ad' 14 0 = ad 14 0 ∧ (∀ a, own ad' nu' a → own ad nu a ∨ M a = none) ∧ M' out = some (.inl (G.2.1 2, 1, .inr (.inl ov'))) ∧ cFo M M' ad nu out ∧ (formK nu = 0 → ov' 0 = Int32.toInt64 (nI (nu 6 0)) ∧ eqx [6] nu nu' ∧ eqx [] sg sg' ∧ (nu' 6 0 = nu 6 0 + 1)) ∧ (formK nu ≠ 0 → nu' = nu ∧ sg' = sg)) (fun _ _ => False) := by
  refine xMet.ofH (by decide) (Nat.le_of_ble_eq_true rfl) ?_
  intro p e s m below meth c ls hC hr hnm hno hsz hw hl
  obtain ⟨hx, hb, hown, hts, hK, hml, hlk, hz⟩ := id hC
  have hl : lv_has ls 3 [(0, .ref (ad 14 0)), (1, .ref out)] := hl
  have h_out0 := h_out
  refine lv_aload_n hx hb d_L_form_0 rfl (lv_at hl 1 rfl) ?_
  refine lv_iconst (v := nI 0) hx hb d_L_form_1 (by decide) ?_
  refine lv_aload_n hx hb d_L_form_2 rfl (lv_at hl 0 rfl) ?_
  have hc1 := hR.rc
  have hcatch : ∀ (x : Addr) (X : String) (M9 : xMem) (H : Heap) (locs : List Loc), (fun X M' => M' = M ∧ (formK nu = 1 ∧ X = "java/lang/UnsupportedOperationException")) X M9 → xTh s H X x → xWd G (xA M sz) s.heap M9 H locs → xWT p l e { frames := 8, cells := 4, slots := 191, locals := 192 } s m ([.ref (ad 14 0), .ref out] : List Value).toArray below meth c H locs 4 191 (xMQ below G M sz (fun u M' => u = some (.int (nI (formK nu))) ∧ ∃ (ad' : Nat → Nat → Nat) (nu' : Nat → Nat → Nat) (sg' : Nat → Nat → Int32) (ov' : Nat → Int64), cRep G M' fz ad' nu' sg' ∧ ad' 14 0 = ad 14 0 ∧ (∀ a, own ad' nu' a → own ad nu a ∨ M a = none) ∧ M' out = some (.inl (G.2.1 2, 1, .inr (.inl ov'))) ∧ cFo M M' ad nu out ∧ (formK nu = 0 → ov' 0 = Int32.toInt64 (nI (nu 6 0)) ∧ eqx [6] nu nu' ∧ eqx [] sg sg' ∧ (nu' 6 0 = nu 6 0 + 1)) ∧ (formK nu ≠ 0 → nu' = nu ∧ sg' = sg)) (fun _ _ => False) s 4 191) x (F0 m 3 ls [.int (nI 0), .ref out]) := by
    intro x X M9 H locs hth hxT hw
    obtain ⟨rfl, ⟨hK, rfl⟩⟩ := hth
    refine x_catch hC hxT [] ⟨0, 8, 11, 17⟩ [] hno (by decide) (by decide) k_291 k_394 (fun y hy => absurd hy List.not_mem_nil) rfl ?_
    refine lv_astore_n (lv' := [(2, .ref x), (0, .ref (ad 14 0)), (1, .ref out)]) hx hb d_L_form_11 rfl hl (by decide) rfl (fun ls hl => ?_)
    refine lv_iconst (v := nI 1) hx hb d_L_form_12 (by decide) ?_
    exact x_iret hC hr hw (⟨congrArg (fun z => some (Value.int z)) (congrArg nI hK.symm), ad, nu, sg, ov, hR, rfl, fun a ha => Or.inl ha, h_out, cFo.of cFr.rf, fun z => absurd (hK.symm.trans z) (by decide), fun _ => ⟨rfl, rfl⟩⟩) (Nat.le_of_ble_eq_true rfl) (Nat.le_of_ble_eq_true rfl) d_L_form_13
  refine x_callG hC (c_R_form l hfl G M (Array.size s.heap) fz ad nu sg hR h20 hf0 hfm) k_422 k_1 ⟨Nat.le_of_ble_eq_true rfl, Nat.le_of_ble_eq_true rfl⟩ ⟨Nat.le_of_ble_eq_true rfl, Nat.le_of_ble_eq_true rfl⟩ hw hl.1 (Nat.le_of_ble_eq_true rfl) d_L_form_3 (x_ivV hC k_422 k_419 k_420 k_421 (show _ ∧ _ ∧ _ = some 0 from by decide +kernel) (x_recv hC hw hc1 rfl) rfl d_L_form_3) (fun rv M2 H locs hq hw => ?_) hcatch
  obtain ⟨rfl, hK, ad', nu', sg', q1, qN, qS, qL, q5, q6, q7⟩ := hq
  have qf : eqx [6] nu nu' ∧ eqx [] sg sg' ∧ (nu' 6 0 = nu 6 0 + 1) := ⟨qN, qS, qL⟩
  have hfm' : ∀ u, u < nu' 7 0 → nu' 9 u < nu' 6 0 := by rw [qN 7 (by decide), qN 9 (by decide), qL]; exact fun u hu => Nat.lt_succ_of_lt (hfm u hu)
  refine W.eq (g2 := F0 m 6 ls [.int (nI (nu 6 0)), .int (nI 0), .ref out]) rfl ?_
  have h_out := (q5.2 out hoo (x_nn h_out)).trans h_out
  refine lv_i2l (v := Int32.toInt64 (nI (nu 6 0))) hx hb d_L_form_6 rfl ?_
  refine x_last (j := 0) hC hw h_out rfl (rfl) (by omega) (by omega) d_L_form_7 (fun M3 H locs em fr hw => ?_)
  have h_out := em
  refine lv_goto (tgt := 14) hx hb d_L_form_8 (by decide) ?_
  refine lv_iconst (v := nI 0) hx hb d_L_form_14 (by decide) ?_
  exact x_iret hC hr hw (⟨congrArg (fun z => some (Value.int z)) (congrArg nI hK.symm), ad', nu', sg', _, q1.out (x_fz0 hC hw hR.2.1.1) (fun z => (q6 out z).elim hoo (fun y => x_nn h_out0 y)) em fr, q7, q6, em, cFo.put q5 em fr, fun _ => ⟨va_up_self _ _ _, qf⟩, fun z => absurd hK z⟩) (Nat.le_of_ble_eq_true rfl) (Nat.le_of_ble_eq_true rfl) d_L_form_15

set_option maxHeartbeats 400000 in
set_option maxRecDepth 100000 in
/-- the law: word -/
theorem c_L_word (l : Launch) (hfl : l.flags = flags0) (G : xT) (M : xMem) (sz : Nat) (fz : Nat) (ad : Nat → Nat → Nat) (nu : Nat → Nat → Nat) (sg : Nat → Nat → Int32) (hR : cRep G M fz ad nu sg) (out : Nat) (ov : Nat → Int64) (hoo : ¬ own ad nu out)  (h4 : nu 12 0 ≤ 4) (hw0 : ∀ w, nu 12 0 ≤ w → nu 13 w = 0) (hfm : ∀ u, u < nu 7 0 → nu 9 u < nu 6 0) (h_out : M out = some (.inl (G.2.1 2, 1, .inr (.inl ov)))) : xMet l G y_L_word (Cond.codeWith y_L_word b_L_word 3 (Option.some Jvm.ClassFile.FieldType.int) [(0, 8, 11, 17)] :: x_tbl) { frames := 8, cells := 4, slots := 38, locals := 192 } [.ref (ad 14 0), .ref out] M sz (fun u M' => u = some (.int (nI (wordK nu))) ∧ ∃ (ad' : Nat → Nat → Nat) (nu' : Nat → Nat → Nat) (sg' : Nat → Nat → Int32) (ov' : Nat → Int64), cRep G M' fz ad' nu' sg' ∧ ad' 14 0 = ad 14 0 ∧ (∀ a, own ad' nu' a → own ad nu a ∨ M a = none) ∧ M' out = some (.inl (G.2.1 2, 1, .inr (.inl ov'))) ∧ cFo M M' ad nu out ∧ (wordK nu = 0 → ov' 0 = Int32.toInt64 (nI (nu 12 0)) ∧ eqx [12] nu nu' ∧ eqx [] sg sg' ∧ (nu' 12 0 = nu 12 0 + 1)) ∧ (wordK nu ≠ 0 → nu' = nu ∧ sg' = sg)) (fun _ _ => False) := by
  refine xMet.ofH (by decide) (Nat.le_of_ble_eq_true rfl) ?_
  intro p e s m below meth c ls hC hr hnm hno hsz hw hl
  obtain ⟨hx, hb, hown, hts, hK, hml, hlk, hz⟩ := id hC
  have hl : lv_has ls 3 [(0, .ref (ad 14 0)), (1, .ref out)] := hl
  have h_out0 := h_out
  refine lv_aload_n hx hb d_L_word_0 rfl (lv_at hl 1 rfl) ?_
  refine lv_iconst (v := nI 0) hx hb d_L_word_1 (by decide) ?_
  refine lv_aload_n hx hb d_L_word_2 rfl (lv_at hl 0 rfl) ?_
  have hc1 := hR.rc
  have hcatch : ∀ (x : Addr) (X : String) (M9 : xMem) (H : Heap) (locs : List Loc), (fun X M' => M' = M ∧ (wordK nu = 1 ∧ X = "java/lang/UnsupportedOperationException")) X M9 → xTh s H X x → xWd G (xA M sz) s.heap M9 H locs → xWT p l e { frames := 8, cells := 4, slots := 38, locals := 192 } s m ([.ref (ad 14 0), .ref out] : List Value).toArray below meth c H locs 4 38 (xMQ below G M sz (fun u M' => u = some (.int (nI (wordK nu))) ∧ ∃ (ad' : Nat → Nat → Nat) (nu' : Nat → Nat → Nat) (sg' : Nat → Nat → Int32) (ov' : Nat → Int64), cRep G M' fz ad' nu' sg' ∧ ad' 14 0 = ad 14 0 ∧ (∀ a, own ad' nu' a → own ad nu a ∨ M a = none) ∧ M' out = some (.inl (G.2.1 2, 1, .inr (.inl ov'))) ∧ cFo M M' ad nu out ∧ (wordK nu = 0 → ov' 0 = Int32.toInt64 (nI (nu 12 0)) ∧ eqx [12] nu nu' ∧ eqx [] sg sg' ∧ (nu' 12 0 = nu 12 0 + 1)) ∧ (wordK nu ≠ 0 → nu' = nu ∧ sg' = sg)) (fun _ _ => False) s 4 38) x (F0 m 3 ls [.int (nI 0), .ref out]) := by
    intro x X M9 H locs hth hxT hw
    obtain ⟨rfl, ⟨hK, rfl⟩⟩ := hth
    refine x_catch hC hxT [] ⟨0, 8, 11, 17⟩ [] hno (by decide) (by decide) k_291 k_394 (fun y hy => absurd hy List.not_mem_nil) rfl ?_
    refine lv_astore_n (lv' := [(2, .ref x), (0, .ref (ad 14 0)), (1, .ref out)]) hx hb d_L_word_11 rfl hl (by decide) rfl (fun ls hl => ?_)
    refine lv_iconst (v := nI 1) hx hb d_L_word_12 (by decide) ?_
    exact x_iret hC hr hw (⟨congrArg (fun z => some (Value.int z)) (congrArg nI hK.symm), ad, nu, sg, ov, hR, rfl, fun a ha => Or.inl ha, h_out, cFo.of cFr.rf, fun z => absurd (hK.symm.trans z) (by decide), fun _ => ⟨rfl, rfl⟩⟩) (Nat.le_of_ble_eq_true rfl) (Nat.le_of_ble_eq_true rfl) d_L_word_13
  refine x_callG hC (c_R_word l hfl G M (Array.size s.heap) fz ad nu sg hR h4 hw0 hfm) k_475 k_1 ⟨Nat.le_of_ble_eq_true rfl, Nat.le_of_ble_eq_true rfl⟩ ⟨Nat.le_of_ble_eq_true rfl, Nat.le_of_ble_eq_true rfl⟩ hw hl.1 (Nat.le_of_ble_eq_true rfl) d_L_word_3 (x_ivV hC k_475 k_472 k_473 k_474 (show _ ∧ _ ∧ _ = some 0 from by decide +kernel) (x_recv hC hw hc1 rfl) rfl d_L_word_3) (fun rv M2 H locs hq hw => ?_) hcatch
  obtain ⟨rfl, hK, ad', nu', sg', q1, qN, qS, qL, q5, q6, q7⟩ := hq
  have qf : eqx [12] nu nu' ∧ eqx [] sg sg' ∧ (nu' 12 0 = nu 12 0 + 1) := ⟨qN, qS, qL⟩
  have hfm' : ∀ u, u < nu' 7 0 → nu' 9 u < nu' 6 0 := by rw [qN 7 (by decide), qN 9 (by decide), qN 6 (by decide)]; exact hfm
  refine W.eq (g2 := F0 m 6 ls [.int (nI (nu 12 0)), .int (nI 0), .ref out]) rfl ?_
  have h_out := (q5.2 out hoo (x_nn h_out)).trans h_out
  refine lv_i2l (v := Int32.toInt64 (nI (nu 12 0))) hx hb d_L_word_6 rfl ?_
  refine x_last (j := 0) hC hw h_out rfl (rfl) (by omega) (by omega) d_L_word_7 (fun M3 H locs em fr hw => ?_)
  have h_out := em
  refine lv_goto (tgt := 14) hx hb d_L_word_8 (by decide) ?_
  refine lv_iconst (v := nI 0) hx hb d_L_word_14 (by decide) ?_
  exact x_iret hC hr hw (⟨congrArg (fun z => some (Value.int z)) (congrArg nI hK.symm), ad', nu', sg', _, q1.out (x_fz0 hC hw hR.2.1.1) (fun z => (q6 out z).elim hoo (fun y => x_nn h_out0 y)) em fr, q7, q6, em, cFo.put q5 em fr, fun _ => ⟨va_up_self _ _ _, qf⟩, fun z => absurd hK z⟩) (Nat.le_of_ble_eq_true rfl) (Nat.le_of_ble_eq_true rfl) d_L_word_15

set_option maxHeartbeats 400000 in
set_option maxRecDepth 100000 in
/-- the law: store -/
theorem c_L_store (l : Launch) (hfl : l.flags = flags0) (G : xT) (M : xMem) (sz : Nat) (fz : Nat) (ad : Nat → Nat → Nat) (nu : Nat → Nat → Nat) (sg : Nat → Nat → Int32) (hR : cRep G M fz ad nu sg) (out : Nat) (ov : Nat → Int64) (hoo : ¬ own ad nu out) (en : Int32) (h8 : nu 21 0 ≤ 8) (ht0 : ∀ t, nu 21 0 ≤ t → nu 23 t = 0) (hfm : ∀ u, u < nu 7 0 → nu 9 u < nu 6 0) (h_out : M out = some (.inl (G.2.1 2, 1, .inr (.inl ov)))) : xMet l G y_L_store (Cond.codeWith y_L_store b_L_store 4 (Option.some Jvm.ClassFile.FieldType.int) [(0, 9, 12, 15), (0, 9, 15, 17)] :: x_tbl) { frames := 8, cells := 5, slots := 97, locals := 193 } [.ref (ad 14 0), .int en, .ref out] M sz (fun u M' => u = some (.int (nI (storeK nu en))) ∧ ∃ (ad' : Nat → Nat → Nat) (nu' : Nat → Nat → Nat) (sg' : Nat → Nat → Int32) (ov' : Nat → Int64), cRep G M' fz ad' nu' sg' ∧ ad' 14 0 = ad 14 0 ∧ (∀ a, own ad' nu' a → own ad nu a ∨ M a = none) ∧ M' out = some (.inl (G.2.1 2, 1, .inr (.inl ov'))) ∧ cFo M M' ad nu out ∧ (storeK nu en = 0 → ov' 0 = Int32.toInt64 (nI (nu 21 0)) ∧ eqx [21] nu nu' ∧ eqx [22] sg sg' ∧ (nu' 21 0 = nu 21 0 + 1 ∧ sg' 22 = va_up (sg 22) (nu 21 0) en)) ∧ (storeK nu en ≠ 0 → nu' = nu ∧ sg' = sg)) (fun _ _ => False) := by
  refine xMet.ofH (by decide) (Nat.le_of_ble_eq_true rfl) ?_
  intro p e s m below meth c ls hC hr hnm hno hsz hw hl
  obtain ⟨hx, hb, hown, hts, hK, hml, hlk, hz⟩ := id hC
  have hl : lv_has ls 4 [(0, .ref (ad 14 0)), (1, .int en), (2, .ref out)] := hl
  have h_out0 := h_out
  refine lv_aload_n hx hb d_L_store_0 rfl (lv_at hl 2 rfl) ?_
  refine lv_iconst (v := nI 0) hx hb d_L_store_1 (by decide) ?_
  refine lv_aload_n hx hb d_L_store_2 rfl (lv_at hl 0 rfl) ?_
  refine lv_iload_n hx hb d_L_store_3 rfl (lv_at hl 1 rfl) ?_
  have hc1 := hR.rc
  have hcatch : ∀ (x : Addr) (X : String) (M9 : xMem) (H : Heap) (locs : List Loc), (fun X M' => M' = M ∧ (storeK nu en = 1 ∧ X = "java/lang/IllegalArgumentException" ∨ storeK nu en = 2 ∧ X = "java/lang/UnsupportedOperationException")) X M9 → xTh s H X x → xWd G (xA M sz) s.heap M9 H locs → xWT p l e { frames := 8, cells := 5, slots := 97, locals := 193 } s m ([.ref (ad 14 0), .int en, .ref out] : List Value).toArray below meth c H locs 5 97 (xMQ below G M sz (fun u M' => u = some (.int (nI (storeK nu en))) ∧ ∃ (ad' : Nat → Nat → Nat) (nu' : Nat → Nat → Nat) (sg' : Nat → Nat → Int32) (ov' : Nat → Int64), cRep G M' fz ad' nu' sg' ∧ ad' 14 0 = ad 14 0 ∧ (∀ a, own ad' nu' a → own ad nu a ∨ M a = none) ∧ M' out = some (.inl (G.2.1 2, 1, .inr (.inl ov'))) ∧ cFo M M' ad nu out ∧ (storeK nu en = 0 → ov' 0 = Int32.toInt64 (nI (nu 21 0)) ∧ eqx [21] nu nu' ∧ eqx [22] sg sg' ∧ (nu' 21 0 = nu 21 0 + 1 ∧ sg' 22 = va_up (sg 22) (nu 21 0) en)) ∧ (storeK nu en ≠ 0 → nu' = nu ∧ sg' = sg)) (fun _ _ => False) s 5 97) x (F0 m 4 ls [.int (nI 0), .ref out]) := by
    intro x X M9 H locs hth hxT hw
    obtain ⟨rfl, ⟨hK, rfl⟩ | ⟨hK, rfl⟩⟩ := hth
    · refine x_catch hC hxT [] ⟨0, 9, 12, 15⟩ [⟨0, 9, 15, 17⟩] hno (by decide) (by decide) k_290 k_375 (fun y hy => absurd hy List.not_mem_nil) rfl ?_
      refine lv_astore_n (lv' := [(3, .ref x), (0, .ref (ad 14 0)), (1, .int en), (2, .ref out)]) hx hb d_L_store_12 rfl hl (by decide) rfl (fun ls hl => ?_)
      refine lv_iconst (v := nI 1) hx hb d_L_store_13 (by decide) ?_
      exact x_iret hC hr hw (⟨congrArg (fun z => some (Value.int z)) (congrArg nI hK.symm), ad, nu, sg, ov, hR, rfl, fun a ha => Or.inl ha, h_out, cFo.of cFr.rf, fun z => absurd (hK.symm.trans z) (by decide), fun _ => ⟨rfl, rfl⟩⟩) (Nat.le_of_ble_eq_true rfl) (Nat.le_of_ble_eq_true rfl) d_L_store_14
    · refine x_catch hC hxT [⟨0, 9, 12, 15⟩] ⟨0, 9, 15, 17⟩ [] hno (by decide) (by decide) k_291 k_394 (by intro y hy; simp only [List.mem_cons, List.not_mem_nil, or_false] at hy; rcases hy with rfl <;> first | exact ⟨by decide, by decide, _, k_290, by simp [x_ncs]⟩) rfl ?_
      refine lv_astore_n (lv' := [(3, .ref x), (0, .ref (ad 14 0)), (1, .int en), (2, .ref out)]) hx hb d_L_store_15 rfl hl (by decide) rfl (fun ls hl => ?_)
      refine lv_iconst (v := nI 2) hx hb d_L_store_16 (by decide) ?_
      exact x_iret hC hr hw (⟨congrArg (fun z => some (Value.int z)) (congrArg nI hK.symm), ad, nu, sg, ov, hR, rfl, fun a ha => Or.inl ha, h_out, cFo.of cFr.rf, fun z => absurd (hK.symm.trans z) (by decide), fun _ => ⟨rfl, rfl⟩⟩) (Nat.le_of_ble_eq_true rfl) (Nat.le_of_ble_eq_true rfl) d_L_store_17
  refine x_callG hC (c_R_store l hfl G M (Array.size s.heap) fz ad nu sg hR en h8 ht0 hfm) k_542 k_1 ⟨Nat.le_of_ble_eq_true rfl, Nat.le_of_ble_eq_true rfl⟩ ⟨Nat.le_of_ble_eq_true rfl, Nat.le_of_ble_eq_true rfl⟩ hw hl.1 (Nat.le_of_ble_eq_true rfl) d_L_store_4 (x_ivV hC k_542 k_539 k_540 k_541 (show _ ∧ _ ∧ _ = some 1 from by decide +kernel) (x_recv hC hw hc1 rfl) rfl d_L_store_4) (fun rv M2 H locs hq hw => ?_) hcatch
  obtain ⟨rfl, hK, ad', nu', sg', q1, qN, qS, qL, q5, q6, q7⟩ := hq
  have qf : eqx [21] nu nu' ∧ eqx [22] sg sg' ∧ (nu' 21 0 = nu 21 0 + 1 ∧ sg' 22 = va_up (sg 22) (nu 21 0) en) := ⟨qN, qS, qL⟩
  have hfm' : ∀ u, u < nu' 7 0 → nu' 9 u < nu' 6 0 := by rw [qN 7 (by decide), qN 9 (by decide), qN 6 (by decide)]; exact hfm
  refine W.eq (g2 := F0 m 7 ls [.int (nI (nu 21 0)), .int (nI 0), .ref out]) rfl ?_
  have h_out := (q5.2 out hoo (x_nn h_out)).trans h_out
  refine lv_i2l (v := Int32.toInt64 (nI (nu 21 0))) hx hb d_L_store_7 rfl ?_
  refine x_last (j := 0) hC hw h_out rfl (rfl) (by omega) (by omega) d_L_store_8 (fun M3 H locs em fr hw => ?_)
  have h_out := em
  refine lv_goto (tgt := 18) hx hb d_L_store_9 (by decide) ?_
  refine lv_iconst (v := nI 0) hx hb d_L_store_18 (by decide) ?_
  exact x_iret hC hr hw (⟨congrArg (fun z => some (Value.int z)) (congrArg nI hK.symm), ad', nu', sg', _, q1.out (x_fz0 hC hw hR.2.1.1) (fun z => (q6 out z).elim hoo (fun y => x_nn h_out0 y)) em fr, q7, q6, em, cFo.put q5 em fr, fun _ => ⟨va_up_self _ _ _, qf⟩, fun z => absurd hK z⟩) (Nat.le_of_ble_eq_true rfl) (Nat.le_of_ble_eq_true rfl) d_L_store_19

set_option maxHeartbeats 400000 in
set_option maxRecDepth 100000 in
/-- the law: area -/
theorem c_L_area (l : Launch) (hfl : l.flags = flags0) (G : xT) (M : xMem) (sz : Nat) (fz : Nat) (ad : Nat → Nat → Nat) (nu : Nat → Nat → Nat) (sg : Nat → Nat → Int32) (hR : cRep G M fz ad nu sg) (out : Nat) (ov : Nat → Int64) (hoo : ¬ own ad nu out) (pg x9 y9 wd hg : Int32) (h8 : nu 15 0 ≤ 8) (hfm : ∀ u, u < nu 7 0 → nu 9 u < nu 6 0) (h_out : M out = some (.inl (G.2.1 2, 1, .inr (.inl ov)))) : xMet l G y_L_area (Cond.codeWith y_L_area b_L_area 8 (Option.some Jvm.ClassFile.FieldType.int) [(0, 16, 19, 13), (0, 16, 23, 15), (0, 16, 27, 17)] :: x_tbl) { frames := 8, cells := 8, slots := 63, locals := 197 } [.ref (ad 14 0), .int pg, .int x9, .int y9, .int wd, .int hg, .ref out] M sz (fun u M' => u = some (.int (nI (areaK nu pg x9 y9 wd hg))) ∧ ∃ (ad' : Nat → Nat → Nat) (nu' : Nat → Nat → Nat) (sg' : Nat → Nat → Int32) (ov' : Nat → Int64), cRep G M' fz ad' nu' sg' ∧ ad' 14 0 = ad 14 0 ∧ (∀ a, own ad' nu' a → own ad nu a ∨ M a = none) ∧ M' out = some (.inl (G.2.1 2, 1, .inr (.inl ov'))) ∧ cFo M M' ad nu out ∧ (areaK nu pg x9 y9 wd hg = 0 → ov' 0 = Int32.toInt64 (nI (nu 15 0 + 1)) ∧ eqx [15] nu nu' ∧ eqx [16, 17, 18, 19, 20] sg sg' ∧ (nu' 15 0 = nu 15 0 + 1 ∧ sg' 16 = va_up (sg 16) (nu 15 0) pg ∧ sg' 17 = va_up (sg 17) (nu 15 0) x9 ∧ sg' 18 = va_up (sg 18) (nu 15 0) y9 ∧ sg' 19 = va_up (sg 19) (nu 15 0) wd ∧ sg' 20 = va_up (sg 20) (nu 15 0) hg)) ∧ (areaK nu pg x9 y9 wd hg ≠ 0 → nu' = nu ∧ sg' = sg)) (fun _ _ => False) := by
  refine xMet.ofH (by decide) (Nat.le_of_ble_eq_true rfl) ?_
  intro p e s m below meth c ls hC hr hnm hno hsz hw hl
  obtain ⟨hx, hb, hown, hts, hK, hml, hlk, hz⟩ := id hC
  have hl : lv_has ls 8 [(0, .ref (ad 14 0)), (1, .int pg), (2, .int x9), (3, .int y9), (4, .int wd), (5, .int hg), (6, .ref out)] := hl
  have h_out0 := h_out
  refine lv_aload hx hb d_L_area_0 (lv_at hl 6 rfl) ?_
  refine lv_iconst (v := nI 0) hx hb d_L_area_2 (by decide) ?_
  refine lv_aload_n hx hb d_L_area_3 rfl (lv_at hl 0 rfl) ?_
  refine lv_iload_n hx hb d_L_area_4 rfl (lv_at hl 1 rfl) ?_
  refine lv_iload_n hx hb d_L_area_5 rfl (lv_at hl 2 rfl) ?_
  refine lv_iload_n hx hb d_L_area_6 rfl (lv_at hl 3 rfl) ?_
  refine lv_iload hx hb d_L_area_7 (lv_at hl 4 rfl) ?_
  refine lv_iload hx hb d_L_area_9 (lv_at hl 5 rfl) ?_
  have hc1 := hR.rc
  have hcatch : ∀ (x : Addr) (X : String) (M9 : xMem) (H : Heap) (locs : List Loc), (fun X M' => M' = M ∧ (areaK nu pg x9 y9 wd hg = 1 ∧ X = "java/lang/IndexOutOfBoundsException" ∨ areaK nu pg x9 y9 wd hg = 2 ∧ X = "java/lang/IllegalArgumentException" ∨ areaK nu pg x9 y9 wd hg = 3 ∧ X = "java/lang/UnsupportedOperationException")) X M9 → xTh s H X x → xWd G (xA M sz) s.heap M9 H locs → xWT p l e { frames := 8, cells := 8, slots := 63, locals := 197 } s m ([.ref (ad 14 0), .int pg, .int x9, .int y9, .int wd, .int hg, .ref out] : List Value).toArray below meth c H locs 8 63 (xMQ below G M sz (fun u M' => u = some (.int (nI (areaK nu pg x9 y9 wd hg))) ∧ ∃ (ad' : Nat → Nat → Nat) (nu' : Nat → Nat → Nat) (sg' : Nat → Nat → Int32) (ov' : Nat → Int64), cRep G M' fz ad' nu' sg' ∧ ad' 14 0 = ad 14 0 ∧ (∀ a, own ad' nu' a → own ad nu a ∨ M a = none) ∧ M' out = some (.inl (G.2.1 2, 1, .inr (.inl ov'))) ∧ cFo M M' ad nu out ∧ (areaK nu pg x9 y9 wd hg = 0 → ov' 0 = Int32.toInt64 (nI (nu 15 0 + 1)) ∧ eqx [15] nu nu' ∧ eqx [16, 17, 18, 19, 20] sg sg' ∧ (nu' 15 0 = nu 15 0 + 1 ∧ sg' 16 = va_up (sg 16) (nu 15 0) pg ∧ sg' 17 = va_up (sg 17) (nu 15 0) x9 ∧ sg' 18 = va_up (sg 18) (nu 15 0) y9 ∧ sg' 19 = va_up (sg 19) (nu 15 0) wd ∧ sg' 20 = va_up (sg 20) (nu 15 0) hg)) ∧ (areaK nu pg x9 y9 wd hg ≠ 0 → nu' = nu ∧ sg' = sg)) (fun _ _ => False) s 8 63) x (F0 m 11 ls [.int (nI 0), .ref out]) := by
    intro x X M9 H locs hth hxT hw
    obtain ⟨rfl, ⟨hK, rfl⟩ | ⟨hK, rfl⟩ | ⟨hK, rfl⟩⟩ := hth
    · refine x_catch hC hxT [] ⟨0, 16, 19, 13⟩ [⟨0, 16, 23, 15⟩, ⟨0, 16, 27, 17⟩] hno (by decide) (by decide) k_289 k_301 (fun y hy => absurd hy List.not_mem_nil) rfl ?_
      refine lv_astore (lv' := [(7, .ref x), (0, .ref (ad 14 0)), (1, .int pg), (2, .int x9), (3, .int y9), (4, .int wd), (5, .int hg), (6, .ref out)]) hx hb d_L_area_19 hl (by decide) rfl (fun ls hl => ?_)
      refine lv_iconst (v := nI 1) hx hb d_L_area_21 (by decide) ?_
      exact x_iret hC hr hw (⟨congrArg (fun z => some (Value.int z)) (congrArg nI hK.symm), ad, nu, sg, ov, hR, rfl, fun a ha => Or.inl ha, h_out, cFo.of cFr.rf, fun z => absurd (hK.symm.trans z) (by decide), fun _ => ⟨rfl, rfl⟩⟩) (Nat.le_of_ble_eq_true rfl) (Nat.le_of_ble_eq_true rfl) d_L_area_22
    · refine x_catch hC hxT [⟨0, 16, 19, 13⟩] ⟨0, 16, 23, 15⟩ [⟨0, 16, 27, 17⟩] hno (by decide) (by decide) k_290 k_375 (by intro y hy; simp only [List.mem_cons, List.not_mem_nil, or_false] at hy; rcases hy with rfl <;> first | exact ⟨by decide, by decide, _, k_289, by simp [x_ncs]⟩) rfl ?_
      refine lv_astore (lv' := [(7, .ref x), (0, .ref (ad 14 0)), (1, .int pg), (2, .int x9), (3, .int y9), (4, .int wd), (5, .int hg), (6, .ref out)]) hx hb d_L_area_23 hl (by decide) rfl (fun ls hl => ?_)
      refine lv_iconst (v := nI 2) hx hb d_L_area_25 (by decide) ?_
      exact x_iret hC hr hw (⟨congrArg (fun z => some (Value.int z)) (congrArg nI hK.symm), ad, nu, sg, ov, hR, rfl, fun a ha => Or.inl ha, h_out, cFo.of cFr.rf, fun z => absurd (hK.symm.trans z) (by decide), fun _ => ⟨rfl, rfl⟩⟩) (Nat.le_of_ble_eq_true rfl) (Nat.le_of_ble_eq_true rfl) d_L_area_26
    · refine x_catch hC hxT [⟨0, 16, 19, 13⟩, ⟨0, 16, 23, 15⟩] ⟨0, 16, 27, 17⟩ [] hno (by decide) (by decide) k_291 k_394 (by intro y hy; simp only [List.mem_cons, List.not_mem_nil, or_false] at hy; rcases hy with rfl | rfl <;> first | exact ⟨by decide, by decide, _, k_289, by simp [x_ncs]⟩ | exact ⟨by decide, by decide, _, k_290, by simp [x_ncs]⟩) rfl ?_
      refine lv_astore (lv' := [(7, .ref x), (0, .ref (ad 14 0)), (1, .int pg), (2, .int x9), (3, .int y9), (4, .int wd), (5, .int hg), (6, .ref out)]) hx hb d_L_area_27 hl (by decide) rfl (fun ls hl => ?_)
      refine lv_iconst (v := nI 3) hx hb d_L_area_29 (by decide) ?_
      exact x_iret hC hr hw (⟨congrArg (fun z => some (Value.int z)) (congrArg nI hK.symm), ad, nu, sg, ov, hR, rfl, fun a ha => Or.inl ha, h_out, cFo.of cFr.rf, fun z => absurd (hK.symm.trans z) (by decide), fun _ => ⟨rfl, rfl⟩⟩) (Nat.le_of_ble_eq_true rfl) (Nat.le_of_ble_eq_true rfl) d_L_area_30
  refine x_callG hC (c_R_area l hfl G M (Array.size s.heap) fz ad nu sg hR pg x9 y9 wd hg h8 hfm) k_512 k_1 ⟨Nat.le_of_ble_eq_true rfl, Nat.le_of_ble_eq_true rfl⟩ ⟨Nat.le_of_ble_eq_true rfl, Nat.le_of_ble_eq_true rfl⟩ hw hl.1 (Nat.le_of_ble_eq_true rfl) d_L_area_11 (x_ivV hC k_512 k_509 k_510 k_511 (show _ ∧ _ ∧ _ = some 5 from by decide +kernel) (x_recv hC hw hc1 rfl) rfl d_L_area_11) (fun rv M2 H locs hq hw => ?_) hcatch
  obtain ⟨rfl, hK, ad', nu', sg', q1, qN, qS, qL, q5, q6, q7⟩ := hq
  have qf : eqx [15] nu nu' ∧ eqx [16, 17, 18, 19, 20] sg sg' ∧ (nu' 15 0 = nu 15 0 + 1 ∧ sg' 16 = va_up (sg 16) (nu 15 0) pg ∧ sg' 17 = va_up (sg 17) (nu 15 0) x9 ∧ sg' 18 = va_up (sg 18) (nu 15 0) y9 ∧ sg' 19 = va_up (sg 19) (nu 15 0) wd ∧ sg' 20 = va_up (sg 20) (nu 15 0) hg) := ⟨qN, qS, qL⟩
  have hfm' : ∀ u, u < nu' 7 0 → nu' 9 u < nu' 6 0 := by rw [qN 7 (by decide), qN 9 (by decide), qN 6 (by decide)]; exact hfm
  refine W.eq (g2 := F0 m 14 ls [.int (nI (nu 15 0 + 1)), .int (nI 0), .ref out]) rfl ?_
  have h_out := (q5.2 out hoo (x_nn h_out)).trans h_out
  refine lv_i2l (v := Int32.toInt64 (nI (nu 15 0 + 1))) hx hb d_L_area_14 rfl ?_
  refine x_last (j := 0) hC hw h_out rfl (rfl) (by omega) (by omega) d_L_area_15 (fun M3 H locs em fr hw => ?_)
  have h_out := em
  refine lv_goto (tgt := 31) hx hb d_L_area_16 (by decide) ?_
  refine lv_iconst (v := nI 0) hx hb d_L_area_31 (by decide) ?_
  exact x_iret hC hr hw (⟨congrArg (fun z => some (Value.int z)) (congrArg nI hK.symm), ad', nu', sg', _, q1.out (x_fz0 hC hw hR.2.1.1) (fun z => (q6 out z).elim hoo (fun y => x_nn h_out0 y)) em fr, q7, q6, em, cFo.put q5 em fr, fun _ => ⟨va_up_self _ _ _, qf⟩, fun z => absurd hK z⟩) (Nat.le_of_ble_eq_true rfl) (Nat.le_of_ble_eq_true rfl) d_L_area_32

theorem useK_fo {nu : Nat → Nat → Nat} {pg fo dx dy : Int32} (h : useK nu pg fo dx dy = 0) : numP pg 4 ∧ numP fo (nu 6 0) := by
  refine Classical.byContradiction (fun z => ?_)
  unfold useK at h
  rw [kt_t z] at h
  cases h
theorem use_fm {nu nu' : Nat → Nat → Nat} {fo : Nat} (hfm : ∀ u, u < nu 7 0 → nu 9 u < nu 6 0) (h6 : nu' 6 0 = nu 6 0) (h7 : nu' 7 0 = nu 7 0 + 1) (h9 : nu' 9 = va_up (nu 9) (nu 7 0) fo) (hfo : fo < nu 6 0) : ∀ u, u < nu' 7 0 → nu' 9 u < nu' 6 0 := by
  rw [h6, h7, h9]
  intro u hu
  by_cases hz : u = nu 7 0
  · rw [hz, va_up_self]
    exact hfo
  · rw [va_up_ne _ _ hz]
    exact hfm u (by omega)
set_option maxHeartbeats 400000 in
set_option maxRecDepth 100000 in
/-- the law: use -/
theorem c_L_use (l : Launch) (hfl : l.flags = flags0) (G : xT) (M : xMem) (sz : Nat) (fz : Nat) (ad : Nat → Nat → Nat) (nu : Nat → Nat → Nat) (sg : Nat → Nat → Int32) (hR : cRep G M fz ad nu sg) (out : Nat) (ov : Nat → Int64) (hoo : ¬ own ad nu out) (pg fo dx dy : Int32) (h20 : nu 6 0 ≤ 20) (h12 : nu 7 0 ≤ 12) (hfm : ∀ u, u < nu 7 0 → nu 9 u < nu 6 0) (h_out : M out = some (.inl (G.2.1 2, 1, .inr (.inl ov)))) : xMet l G y_L_use (Cond.codeWith y_L_use b_L_use 7 (Option.some Jvm.ClassFile.FieldType.int) [(0, 14, 17, 13), (0, 14, 21, 15), (0, 14, 25, 17)] :: x_tbl) { frames := 8, cells := 7, slots := 58, locals := 197 } [.ref (ad 14 0), .int pg, .int fo, .int dx, .int dy, .ref out] M sz (fun u M' => u = some (.int (nI (useK nu pg fo dx dy))) ∧ ∃ (ad' : Nat → Nat → Nat) (nu' : Nat → Nat → Nat) (sg' : Nat → Nat → Int32) (ov' : Nat → Int64), cRep G M' fz ad' nu' sg' ∧ ad' 14 0 = ad 14 0 ∧ (∀ a, own ad' nu' a → own ad nu a ∨ M a = none) ∧ M' out = some (.inl (G.2.1 2, 1, .inr (.inl ov'))) ∧ cFo M M' ad nu out ∧ (useK nu pg fo dx dy = 0 → ov' 0 = Int32.toInt64 (nI (nu 7 0)) ∧ eqx [7, 9] nu nu' ∧ eqx [8, 10, 11] sg sg' ∧ (nu' 7 0 = nu 7 0 + 1 ∧ nu' 9 = va_up (nu 9) (nu 7 0) (cN fo) ∧ sg' 8 = va_up (sg 8) (nu 7 0) pg ∧ sg' 10 = va_up (sg 10) (nu 7 0) dx ∧ sg' 11 = va_up (sg 11) (nu 7 0) dy)) ∧ (useK nu pg fo dx dy ≠ 0 → nu' = nu ∧ sg' = sg)) (fun _ _ => False) := by
  refine xMet.ofH (by decide) (Nat.le_of_ble_eq_true rfl) ?_
  intro p e s m below meth c ls hC hr hnm hno hsz hw hl
  obtain ⟨hx, hb, hown, hts, hK, hml, hlk, hz⟩ := id hC
  have hl : lv_has ls 7 [(0, .ref (ad 14 0)), (1, .int pg), (2, .int fo), (3, .int dx), (4, .int dy), (5, .ref out)] := hl
  have h_out0 := h_out
  refine lv_aload hx hb d_L_use_0 (lv_at hl 5 rfl) ?_
  refine lv_iconst (v := nI 0) hx hb d_L_use_2 (by decide) ?_
  refine lv_aload_n hx hb d_L_use_3 rfl (lv_at hl 0 rfl) ?_
  refine lv_iload_n hx hb d_L_use_4 rfl (lv_at hl 1 rfl) ?_
  refine lv_iload_n hx hb d_L_use_5 rfl (lv_at hl 2 rfl) ?_
  refine lv_iload_n hx hb d_L_use_6 rfl (lv_at hl 3 rfl) ?_
  refine lv_iload hx hb d_L_use_7 (lv_at hl 4 rfl) ?_
  have hc1 := hR.rc
  have hcatch : ∀ (x : Addr) (X : String) (M9 : xMem) (H : Heap) (locs : List Loc), (fun X M' => M' = M ∧ (useK nu pg fo dx dy = 1 ∧ X = "java/lang/IndexOutOfBoundsException" ∨ useK nu pg fo dx dy = 2 ∧ X = "java/lang/IllegalArgumentException" ∨ useK nu pg fo dx dy = 3 ∧ X = "java/lang/UnsupportedOperationException")) X M9 → xTh s H X x → xWd G (xA M sz) s.heap M9 H locs → xWT p l e { frames := 8, cells := 7, slots := 58, locals := 197 } s m ([.ref (ad 14 0), .int pg, .int fo, .int dx, .int dy, .ref out] : List Value).toArray below meth c H locs 7 58 (xMQ below G M sz (fun u M' => u = some (.int (nI (useK nu pg fo dx dy))) ∧ ∃ (ad' : Nat → Nat → Nat) (nu' : Nat → Nat → Nat) (sg' : Nat → Nat → Int32) (ov' : Nat → Int64), cRep G M' fz ad' nu' sg' ∧ ad' 14 0 = ad 14 0 ∧ (∀ a, own ad' nu' a → own ad nu a ∨ M a = none) ∧ M' out = some (.inl (G.2.1 2, 1, .inr (.inl ov'))) ∧ cFo M M' ad nu out ∧ (useK nu pg fo dx dy = 0 → ov' 0 = Int32.toInt64 (nI (nu 7 0)) ∧ eqx [7, 9] nu nu' ∧ eqx [8, 10, 11] sg sg' ∧ (nu' 7 0 = nu 7 0 + 1 ∧ nu' 9 = va_up (nu 9) (nu 7 0) (cN fo) ∧ sg' 8 = va_up (sg 8) (nu 7 0) pg ∧ sg' 10 = va_up (sg 10) (nu 7 0) dx ∧ sg' 11 = va_up (sg 11) (nu 7 0) dy)) ∧ (useK nu pg fo dx dy ≠ 0 → nu' = nu ∧ sg' = sg)) (fun _ _ => False) s 7 58) x (F0 m 9 ls [.int (nI 0), .ref out]) := by
    intro x X M9 H locs hth hxT hw
    obtain ⟨rfl, ⟨hK, rfl⟩ | ⟨hK, rfl⟩ | ⟨hK, rfl⟩⟩ := hth
    · refine x_catch hC hxT [] ⟨0, 14, 17, 13⟩ [⟨0, 14, 21, 15⟩, ⟨0, 14, 25, 17⟩] hno (by decide) (by decide) k_289 k_301 (fun y hy => absurd hy List.not_mem_nil) rfl ?_
      refine lv_astore (lv' := [(6, .ref x), (0, .ref (ad 14 0)), (1, .int pg), (2, .int fo), (3, .int dx), (4, .int dy), (5, .ref out)]) hx hb d_L_use_17 hl (by decide) rfl (fun ls hl => ?_)
      refine lv_iconst (v := nI 1) hx hb d_L_use_19 (by decide) ?_
      exact x_iret hC hr hw (⟨congrArg (fun z => some (Value.int z)) (congrArg nI hK.symm), ad, nu, sg, ov, hR, rfl, fun a ha => Or.inl ha, h_out, cFo.of cFr.rf, fun z => absurd (hK.symm.trans z) (by decide), fun _ => ⟨rfl, rfl⟩⟩) (Nat.le_of_ble_eq_true rfl) (Nat.le_of_ble_eq_true rfl) d_L_use_20
    · refine x_catch hC hxT [⟨0, 14, 17, 13⟩] ⟨0, 14, 21, 15⟩ [⟨0, 14, 25, 17⟩] hno (by decide) (by decide) k_290 k_375 (by intro y hy; simp only [List.mem_cons, List.not_mem_nil, or_false] at hy; rcases hy with rfl <;> first | exact ⟨by decide, by decide, _, k_289, by simp [x_ncs]⟩) rfl ?_
      refine lv_astore (lv' := [(6, .ref x), (0, .ref (ad 14 0)), (1, .int pg), (2, .int fo), (3, .int dx), (4, .int dy), (5, .ref out)]) hx hb d_L_use_21 hl (by decide) rfl (fun ls hl => ?_)
      refine lv_iconst (v := nI 2) hx hb d_L_use_23 (by decide) ?_
      exact x_iret hC hr hw (⟨congrArg (fun z => some (Value.int z)) (congrArg nI hK.symm), ad, nu, sg, ov, hR, rfl, fun a ha => Or.inl ha, h_out, cFo.of cFr.rf, fun z => absurd (hK.symm.trans z) (by decide), fun _ => ⟨rfl, rfl⟩⟩) (Nat.le_of_ble_eq_true rfl) (Nat.le_of_ble_eq_true rfl) d_L_use_24
    · refine x_catch hC hxT [⟨0, 14, 17, 13⟩, ⟨0, 14, 21, 15⟩] ⟨0, 14, 25, 17⟩ [] hno (by decide) (by decide) k_291 k_394 (by intro y hy; simp only [List.mem_cons, List.not_mem_nil, or_false] at hy; rcases hy with rfl | rfl <;> first | exact ⟨by decide, by decide, _, k_289, by simp [x_ncs]⟩ | exact ⟨by decide, by decide, _, k_290, by simp [x_ncs]⟩) rfl ?_
      refine lv_astore (lv' := [(6, .ref x), (0, .ref (ad 14 0)), (1, .int pg), (2, .int fo), (3, .int dx), (4, .int dy), (5, .ref out)]) hx hb d_L_use_25 hl (by decide) rfl (fun ls hl => ?_)
      refine lv_iconst (v := nI 3) hx hb d_L_use_27 (by decide) ?_
      exact x_iret hC hr hw (⟨congrArg (fun z => some (Value.int z)) (congrArg nI hK.symm), ad, nu, sg, ov, hR, rfl, fun a ha => Or.inl ha, h_out, cFo.of cFr.rf, fun z => absurd (hK.symm.trans z) (by decide), fun _ => ⟨rfl, rfl⟩⟩) (Nat.le_of_ble_eq_true rfl) (Nat.le_of_ble_eq_true rfl) d_L_use_28
  refine x_callG hC (c_R_use l hfl G M (Array.size s.heap) fz ad nu sg hR pg fo dx dy h20 h12 hfm) k_436 k_1 ⟨Nat.le_of_ble_eq_true rfl, Nat.le_of_ble_eq_true rfl⟩ ⟨Nat.le_of_ble_eq_true rfl, Nat.le_of_ble_eq_true rfl⟩ hw hl.1 (Nat.le_of_ble_eq_true rfl) d_L_use_9 (x_ivV hC k_436 k_433 k_434 k_435 (show _ ∧ _ ∧ _ = some 4 from by decide +kernel) (x_recv hC hw hc1 rfl) rfl d_L_use_9) (fun rv M2 H locs hq hw => ?_) hcatch
  obtain ⟨rfl, hK, ad', nu', sg', q1, qN, qS, qL, q5, q6, q7⟩ := hq
  have qf : eqx [7, 9] nu nu' ∧ eqx [8, 10, 11] sg sg' ∧ (nu' 7 0 = nu 7 0 + 1 ∧ nu' 9 = va_up (nu 9) (nu 7 0) (cN fo) ∧ sg' 8 = va_up (sg 8) (nu 7 0) pg ∧ sg' 10 = va_up (sg 10) (nu 7 0) dx ∧ sg' 11 = va_up (sg 11) (nu 7 0) dy) := ⟨qN, qS, qL⟩
  have hfm' : ∀ u, u < nu' 7 0 → nu' 9 u < nu' 6 0 := use_fm hfm (congrFun (qN 6 (by decide)) 0) qL.1 qL.2.1 (useK_fo hK).2.2
  refine W.eq (g2 := F0 m 12 ls [.int (nI (nu 7 0)), .int (nI 0), .ref out]) rfl ?_
  have h_out := (q5.2 out hoo (x_nn h_out)).trans h_out
  refine lv_i2l (v := Int32.toInt64 (nI (nu 7 0))) hx hb d_L_use_12 rfl ?_
  refine x_last (j := 0) hC hw h_out rfl (rfl) (by omega) (by omega) d_L_use_13 (fun M3 H locs em fr hw => ?_)
  have h_out := em
  refine lv_goto (tgt := 29) hx hb d_L_use_14 (by decide) ?_
  refine lv_iconst (v := nI 0) hx hb d_L_use_29 (by decide) ?_
  exact x_iret hC hr hw (⟨congrArg (fun z => some (Value.int z)) (congrArg nI hK.symm), ad', nu', sg', _, q1.out (x_fz0 hC hw hR.2.1.1) (fun z => (q6 out z).elim hoo (fun y => x_nn h_out0 y)) em fr, q7, q6, em, cFo.put q5 em fr, fun _ => ⟨va_up_self _ _ _, qf⟩, fun z => absurd hK z⟩) (Nat.le_of_ble_eq_true rfl) (Nat.le_of_ble_eq_true rfl) d_L_use_30

set_option maxHeartbeats 400000 in
set_option maxRecDepth 100000 in
/-- the law: black -/
theorem c_L_black (l : Launch) (hfl : l.flags = flags0) (G : xT) (M : xMem) (sz : Nat) (fz : Nat) (ad : Nat → Nat → Nat) (nu : Nat → Nat → Nat) (sg : Nat → Nat → Int32) (hR : cRep G M fz ad nu sg) (out : Nat) (ov : Nat → Int64) (hoo : ¬ own ad nu out)  (h20 : nu 6 0 ≤ 20) (h12 : nu 7 0 ≤ 12) (h4 : nu 12 0 ≤ 4) (h8a : nu 15 0 ≤ 8) (h40 : ∀ r, nu 1 r ≤ 40) (h8 : ∀ w, nu 13 w ≤ 8) (hfm : ∀ u, u < nu 7 0 → nu 9 u < nu 6 0) (hlt : ∀ w, w < nu 12 0 → ∀ j, j < nu 13 w → ¬ sg 14 (8 * w + j) = 0) (hst8 : nu 21 0 ≤ 8) (h60 : ∀ t, nu 23 t ≤ 60) (hen : ∀ t, t < nu 21 0 → ∃ en, en < 4 ∧ sg 22 t = nI en) (hok : ∀ j, okB (sg 24 j)) (h_out : M out = some (.inl (G.2.1 2, 1, .inr (.inl ov)))) : xMet l G y_L_black (Cond.codeWith y_L_black b_L_black 3 (Option.some Jvm.ClassFile.FieldType.int) [(0, 8, 11, 17)] :: x_tbl) { frames := 10, cells := 36, slots := 2220, locals := 239 } [.ref (ad 14 0), .ref out] M sz (fun u M' => u = some (.int (nI (blackK nu sg))) ∧ ∃ (ad' : Nat → Nat → Nat) (nu' : Nat → Nat → Nat) (sg' : Nat → Nat → Int32) (ov' : Nat → Int64), cRep G M' fz ad' nu' sg' ∧ ad' 14 0 = ad 14 0 ∧ (∀ a, own ad' nu' a → own ad nu a ∨ M a = none) ∧ M' out = some (.inl (G.2.1 2, 1, .inr (.inl ov'))) ∧ cFo M M' ad nu out ∧ (blackK nu sg = 0 → ov' 0 = Int32.toInt64 (nI (blackN nu sg)) ∧ blackP nu sg nu' sg') ∧ (blackK nu sg ≠ 0 → nu' = nu ∧ sg' = sg)) (fun _ _ => False) := by
  refine xMet.ofH (by decide) (Nat.le_of_ble_eq_true rfl) ?_
  intro p e s m below meth c ls hC hr hnm hno hsz hw hl
  obtain ⟨hx, hb, hown, hts, hK, hml, hlk, hz⟩ := id hC
  have hl : lv_has ls 3 [(0, .ref (ad 14 0)), (1, .ref out)] := hl
  have h_out0 := h_out
  refine lv_aload_n hx hb d_L_black_0 rfl (lv_at hl 1 rfl) ?_
  refine lv_iconst (v := nI 0) hx hb d_L_black_1 (by decide) ?_
  refine lv_aload_n hx hb d_L_black_2 rfl (lv_at hl 0 rfl) ?_
  have hc1 := hR.rc
  have hcatch : ∀ (x : Addr) (X : String) (M9 : xMem) (H : Heap) (locs : List Loc), (fun X M' => blackK nu sg = 1 ∧ X = "java/lang/UnsupportedOperationException" ∧ cRep G M' fz ad nu sg ∧ cFr M M' ad nu) X M9 → xTh s H X x → xWd G (xA M sz) s.heap M9 H locs → xWT p l e { frames := 10, cells := 36, slots := 2220, locals := 239 } s m ([.ref (ad 14 0), .ref out] : List Value).toArray below meth c H locs 36 2220 (xMQ below G M sz (fun u M' => u = some (.int (nI (blackK nu sg))) ∧ ∃ (ad' : Nat → Nat → Nat) (nu' : Nat → Nat → Nat) (sg' : Nat → Nat → Int32) (ov' : Nat → Int64), cRep G M' fz ad' nu' sg' ∧ ad' 14 0 = ad 14 0 ∧ (∀ a, own ad' nu' a → own ad nu a ∨ M a = none) ∧ M' out = some (.inl (G.2.1 2, 1, .inr (.inl ov'))) ∧ cFo M M' ad nu out ∧ (blackK nu sg = 0 → ov' 0 = Int32.toInt64 (nI (blackN nu sg)) ∧ blackP nu sg nu' sg') ∧ (blackK nu sg ≠ 0 → nu' = nu ∧ sg' = sg)) (fun _ _ => False) s 36 2220) x (F0 m 3 ls [.int (nI 0), .ref out]) := by
    intro x X M9 H locs hth hxT hw
    obtain ⟨hK, rfl, hR9, hC9⟩ := hth
    refine x_catch hC hxT [] ⟨0, 8, 11, 17⟩ [] hno (by decide) (by decide) k_291 k_394 (fun y hy => absurd hy List.not_mem_nil) rfl ?_
    refine lv_astore_n (lv' := [(2, .ref x), (0, .ref (ad 14 0)), (1, .ref out)]) hx hb d_L_black_11 rfl hl (by decide) rfl (fun ls hl => ?_)
    refine lv_iconst (v := nI 1) hx hb d_L_black_12 (by decide) ?_
    exact x_iret hC hr hw (⟨congrArg (fun z => some (Value.int z)) (congrArg nI hK.symm), ad, nu, sg, ov, hR9, rfl, fun a ha => Or.inl ha, (hC9.2 out hoo (x_nn h_out)).trans h_out, cFo.of hC9, fun z => absurd (hK.symm.trans z) (by decide), fun _ => ⟨rfl, rfl⟩⟩) (Nat.le_of_ble_eq_true rfl) (Nat.le_of_ble_eq_true rfl) d_L_black_13
  refine x_callG hC (c_R_black l hfl G M (Array.size s.heap) fz ad nu sg hR h20 h12 h4 h8a h40 h8 hfm hlt hst8 h60 hen hok) k_581 k_1 ⟨Nat.le_of_ble_eq_true rfl, Nat.le_of_ble_eq_true rfl⟩ ⟨Nat.le_of_ble_eq_true rfl, Nat.le_of_ble_eq_true rfl⟩ hw hl.1 (Nat.le_of_ble_eq_true rfl) d_L_black_3 (x_ivV hC k_581 k_578 k_579 k_580 (show _ ∧ _ ∧ _ = some 0 from by decide +kernel) (x_recv hC hw hc1 rfl) rfl d_L_black_3) (fun rv M2 H locs hq hw => ?_) hcatch
  obtain ⟨rfl, hK, ad', nu', sg', q1, qf, q5, q6, q7, h40', hfm', h60'⟩ := hq
  refine W.eq (g2 := F0 m 6 ls [.int (nI (blackN nu sg)), .int (nI 0), .ref out]) rfl ?_
  have h_out := (q5.2 out hoo (x_nn h_out)).trans h_out
  refine lv_i2l (v := Int32.toInt64 (nI (blackN nu sg))) hx hb d_L_black_6 rfl ?_
  refine x_last (j := 0) hC hw h_out rfl (rfl) (by omega) (by omega) d_L_black_7 (fun M3 H locs em fr hw => ?_)
  have h_out := em
  refine lv_goto (tgt := 14) hx hb d_L_black_8 (by decide) ?_
  refine lv_iconst (v := nI 0) hx hb d_L_black_14 (by decide) ?_
  exact x_iret hC hr hw (⟨congrArg (fun z => some (Value.int z)) (congrArg nI hK.symm), ad', nu', sg', _, q1.out (x_fz0 hC hw hR.2.1.1) (fun z => (q6 out z).elim hoo (fun y => x_nn h_out0 y)) em fr, q7, q6, em, cFo.put q5 em fr, fun _ => ⟨va_up_self _ _ _, qf⟩, fun z => absurd hK z⟩) (Nat.le_of_ble_eq_true rfl) (Nat.le_of_ble_eq_true rfl) d_L_black_15

set_option maxHeartbeats 400000 in
set_option maxRecDepth 100000 in
/-- the law: left -/
theorem c_L_left (l : Launch) (hfl : l.flags = flags0) (G : xT) (M : xMem) (sz : Nat) (fz : Nat) (ad : Nat → Nat → Nat) (nu : Nat → Nat → Nat) (sg : Nat → Nat → Int32) (hR : cRep G M fz ad nu sg) (out : Nat) (ov : Nat → Int64) (hoo : ¬ own ad nu out) (i wh : Int32) (h100 : nu 25 0 ≤ 100) (hfm : ∀ u, u < nu 7 0 → nu 9 u < nu 6 0) (h_out : M out = some (.inl (G.2.1 2, 1, .inr (.inl ov)))) : xMet l G y_L_left (Cond.codeWith y_L_left b_L_left 5 (Option.some Jvm.ClassFile.FieldType.int) [(0, 10, 13, 13)] :: x_tbl) { frames := 8, cells := 2, slots := 12, locals := 125 } [.ref (ad 14 0), .int i, .int wh, .ref out] M sz (fun u M' => u = some (.int (nI (leftK nu i wh))) ∧ ∃ (ad' : Nat → Nat → Nat) (nu' : Nat → Nat → Nat) (sg' : Nat → Nat → Int32) (ov' : Nat → Int64), cRep G M' fz ad' nu' sg' ∧ ad' 14 0 = ad 14 0 ∧ (∀ a, own ad' nu' a → own ad nu a ∨ M a = none) ∧ M' out = some (.inl (G.2.1 2, 1, .inr (.inl ov'))) ∧ cFo M M' ad nu out ∧ (leftK nu i wh = 0 → ov' 0 = Int32.toInt64 (sg 26 (5 * cN i + cN wh)) ∧ nu' = nu ∧ sg' = sg) ∧ (leftK nu i wh ≠ 0 → nu' = nu ∧ sg' = sg)) (fun _ _ => False) := by
  refine xMet.ofH (by decide) (Nat.le_of_ble_eq_true rfl) ?_
  intro p e s m below meth c ls hC hr hnm hno hsz hw hl
  obtain ⟨hx, hb, hown, hts, hK, hml, hlk, hz⟩ := id hC
  have hl : lv_has ls 5 [(0, .ref (ad 14 0)), (1, .int i), (2, .int wh), (3, .ref out)] := hl
  have h_out0 := h_out
  refine lv_aload_n hx hb d_L_left_0 rfl (lv_at hl 3 rfl) ?_
  refine lv_iconst (v := nI 0) hx hb d_L_left_1 (by decide) ?_
  refine lv_aload_n hx hb d_L_left_2 rfl (lv_at hl 0 rfl) ?_
  refine lv_iload_n hx hb d_L_left_3 rfl (lv_at hl 1 rfl) ?_
  refine lv_iload_n hx hb d_L_left_4 rfl (lv_at hl 2 rfl) ?_
  have hc1 := hR.rc
  have hcatch : ∀ (x : Addr) (X : String) (M9 : xMem) (H : Heap) (locs : List Loc), (fun X M' => M' = M ∧ (leftK nu i wh = 1 ∧ X = "java/lang/IndexOutOfBoundsException")) X M9 → xTh s H X x → xWd G (xA M sz) s.heap M9 H locs → xWT p l e { frames := 8, cells := 2, slots := 12, locals := 125 } s m ([.ref (ad 14 0), .int i, .int wh, .ref out] : List Value).toArray below meth c H locs 2 12 (xMQ below G M sz (fun u M' => u = some (.int (nI (leftK nu i wh))) ∧ ∃ (ad' : Nat → Nat → Nat) (nu' : Nat → Nat → Nat) (sg' : Nat → Nat → Int32) (ov' : Nat → Int64), cRep G M' fz ad' nu' sg' ∧ ad' 14 0 = ad 14 0 ∧ (∀ a, own ad' nu' a → own ad nu a ∨ M a = none) ∧ M' out = some (.inl (G.2.1 2, 1, .inr (.inl ov'))) ∧ cFo M M' ad nu out ∧ (leftK nu i wh = 0 → ov' 0 = Int32.toInt64 (sg 26 (5 * cN i + cN wh)) ∧ nu' = nu ∧ sg' = sg) ∧ (leftK nu i wh ≠ 0 → nu' = nu ∧ sg' = sg)) (fun _ _ => False) s 2 12) x (F0 m 5 ls [.int (nI 0), .ref out]) := by
    intro x X M9 H locs hth hxT hw
    obtain ⟨rfl, ⟨hK, rfl⟩⟩ := hth
    refine x_catch hC hxT [] ⟨0, 10, 13, 13⟩ [] hno (by decide) (by decide) k_289 k_301 (fun y hy => absurd hy List.not_mem_nil) rfl ?_
    refine lv_astore (lv' := [(4, .ref x), (0, .ref (ad 14 0)), (1, .int i), (2, .int wh), (3, .ref out)]) hx hb d_L_left_13 hl (by decide) rfl (fun ls hl => ?_)
    refine lv_iconst (v := nI 1) hx hb d_L_left_15 (by decide) ?_
    exact x_iret hC hr hw (⟨congrArg (fun z => some (Value.int z)) (congrArg nI hK.symm), ad, nu, sg, ov, hR, rfl, fun a ha => Or.inl ha, h_out, cFo.of cFr.rf, fun z => absurd (hK.symm.trans z) (by decide), fun _ => ⟨rfl, rfl⟩⟩) (Nat.le_of_ble_eq_true rfl) (Nat.le_of_ble_eq_true rfl) d_L_left_16
  refine x_callG hC (c_R_left l hfl G M (Array.size s.heap) fz ad nu sg hR i wh h100) k_692 k_1 ⟨Nat.le_of_ble_eq_true rfl, Nat.le_of_ble_eq_true rfl⟩ ⟨Nat.le_of_ble_eq_true rfl, Nat.le_of_ble_eq_true rfl⟩ hw hl.1 (Nat.le_of_ble_eq_true rfl) d_L_left_5 (x_ivV hC k_692 k_689 k_690 k_691 (show _ ∧ _ ∧ _ = some 2 from by decide +kernel) (x_recv hC hw hc1 rfl) rfl d_L_left_5) (fun rv M2 H locs hq hw => ?_) hcatch
  obtain ⟨rfl, hK, hM⟩ := hq
  subst M2
  refine W.eq (g2 := F0 m 8 ls [.int (sg 26 (5 * cN i + cN wh)), .int (nI 0), .ref out]) rfl ?_
  have q5 : cFr M M ad nu := cFr.rf
  refine lv_i2l (v := Int32.toInt64 (sg 26 (5 * cN i + cN wh))) hx hb d_L_left_8 rfl ?_
  refine x_last (j := 0) hC hw h_out rfl (rfl) (by omega) (by omega) d_L_left_9 (fun M3 H locs em fr hw => ?_)
  have h_out := em
  refine lv_goto (tgt := 17) hx hb d_L_left_10 (by decide) ?_
  refine lv_iconst (v := nI 0) hx hb d_L_left_17 (by decide) ?_
  exact x_iret hC hr hw (⟨congrArg (fun z => some (Value.int z)) (congrArg nI hK.symm), ad, nu, sg, _, hR.out (x_fz0 hC hw hR.2.1.1) (hoo) em fr, rfl, fun a ha => Or.inl ha, em, cFo.put q5 em fr, fun _ => ⟨va_up_self _ _ _, ⟨rfl, rfl⟩⟩, fun z => absurd hK z⟩) (Nat.le_of_ble_eq_true rfl) (Nat.le_of_ble_eq_true rfl) d_L_left_18

set_option maxHeartbeats 400000 in
set_option maxRecDepth 100000 in
/-- the law: formOf -/
theorem c_L_formOf (l : Launch) (hfl : l.flags = flags0) (G : xT) (M : xMem) (sz : Nat) (fz : Nat) (ad : Nat → Nat → Nat) (nu : Nat → Nat → Nat) (sg : Nat → Nat → Int32) (hR : cRep G M fz ad nu sg) (out : Nat) (ov : Nat → Int64) (hoo : ¬ own ad nu out) (v : Int32) (h12 : nu 7 0 ≤ 12) (hfm : ∀ u, u < nu 7 0 → nu 9 u < nu 6 0) (h_out : M out = some (.inl (G.2.1 2, 1, .inr (.inl ov)))) : xMet l G y_L_formOf (Cond.codeWith y_L_formOf b_L_formOf 4 (Option.some Jvm.ClassFile.FieldType.int) [(0, 9, 12, 13)] :: x_tbl) { frames := 7, cells := 1, slots := 6, locals := 103 } [.ref (ad 14 0), .int v, .ref out] M sz (fun u M' => u = some (.int (nI (formOfK nu v))) ∧ ∃ (ad' : Nat → Nat → Nat) (nu' : Nat → Nat → Nat) (sg' : Nat → Nat → Int32) (ov' : Nat → Int64), cRep G M' fz ad' nu' sg' ∧ ad' 14 0 = ad 14 0 ∧ (∀ a, own ad' nu' a → own ad nu a ∨ M a = none) ∧ M' out = some (.inl (G.2.1 2, 1, .inr (.inl ov'))) ∧ cFo M M' ad nu out ∧ (formOfK nu v = 0 → ov' 0 = Int32.toInt64 (nI (nu 9 (cN v))) ∧ nu' = nu ∧ sg' = sg) ∧ (formOfK nu v ≠ 0 → nu' = nu ∧ sg' = sg)) (fun _ _ => False) := by
  refine xMet.ofH (by decide) (Nat.le_of_ble_eq_true rfl) ?_
  intro p e s m below meth c ls hC hr hnm hno hsz hw hl
  obtain ⟨hx, hb, hown, hts, hK, hml, hlk, hz⟩ := id hC
  have hl : lv_has ls 4 [(0, .ref (ad 14 0)), (1, .int v), (2, .ref out)] := hl
  have h_out0 := h_out
  refine lv_aload_n hx hb d_L_formOf_0 rfl (lv_at hl 2 rfl) ?_
  refine lv_iconst (v := nI 0) hx hb d_L_formOf_1 (by decide) ?_
  refine lv_aload_n hx hb d_L_formOf_2 rfl (lv_at hl 0 rfl) ?_
  refine lv_iload_n hx hb d_L_formOf_3 rfl (lv_at hl 1 rfl) ?_
  have hc1 := hR.rc
  have hcatch : ∀ (x : Addr) (X : String) (M9 : xMem) (H : Heap) (locs : List Loc), (fun X M' => M' = M ∧ (formOfK nu v = 1 ∧ X = "java/lang/IndexOutOfBoundsException")) X M9 → xTh s H X x → xWd G (xA M sz) s.heap M9 H locs → xWT p l e { frames := 7, cells := 1, slots := 6, locals := 103 } s m ([.ref (ad 14 0), .int v, .ref out] : List Value).toArray below meth c H locs 1 6 (xMQ below G M sz (fun u M' => u = some (.int (nI (formOfK nu v))) ∧ ∃ (ad' : Nat → Nat → Nat) (nu' : Nat → Nat → Nat) (sg' : Nat → Nat → Int32) (ov' : Nat → Int64), cRep G M' fz ad' nu' sg' ∧ ad' 14 0 = ad 14 0 ∧ (∀ a, own ad' nu' a → own ad nu a ∨ M a = none) ∧ M' out = some (.inl (G.2.1 2, 1, .inr (.inl ov'))) ∧ cFo M M' ad nu out ∧ (formOfK nu v = 0 → ov' 0 = Int32.toInt64 (nI (nu 9 (cN v))) ∧ nu' = nu ∧ sg' = sg) ∧ (formOfK nu v ≠ 0 → nu' = nu ∧ sg' = sg)) (fun _ _ => False) s 1 6) x (F0 m 4 ls [.int (nI 0), .ref out]) := by
    intro x X M9 H locs hth hxT hw
    obtain ⟨rfl, ⟨hK, rfl⟩⟩ := hth
    refine x_catch hC hxT [] ⟨0, 9, 12, 13⟩ [] hno (by decide) (by decide) k_289 k_301 (fun y hy => absurd hy List.not_mem_nil) rfl ?_
    refine lv_astore_n (lv' := [(3, .ref x), (0, .ref (ad 14 0)), (1, .int v), (2, .ref out)]) hx hb d_L_formOf_12 rfl hl (by decide) rfl (fun ls hl => ?_)
    refine lv_iconst (v := nI 1) hx hb d_L_formOf_13 (by decide) ?_
    exact x_iret hC hr hw (⟨congrArg (fun z => some (Value.int z)) (congrArg nI hK.symm), ad, nu, sg, ov, hR, rfl, fun a ha => Or.inl ha, h_out, cFo.of cFr.rf, fun z => absurd (hK.symm.trans z) (by decide), fun _ => ⟨rfl, rfl⟩⟩) (Nat.le_of_ble_eq_true rfl) (Nat.le_of_ble_eq_true rfl) d_L_formOf_14
  refine x_callG hC (c_R_formOf l hfl G M (Array.size s.heap) fz ad nu sg hR v h12 hfm) k_718 k_1 ⟨Nat.le_of_ble_eq_true rfl, Nat.le_of_ble_eq_true rfl⟩ ⟨Nat.le_of_ble_eq_true rfl, Nat.le_of_ble_eq_true rfl⟩ hw hl.1 (Nat.le_of_ble_eq_true rfl) d_L_formOf_4 (x_ivV hC k_718 k_715 k_716 k_717 (show _ ∧ _ ∧ _ = some 1 from by decide +kernel) (x_recv hC hw hc1 rfl) rfl d_L_formOf_4) (fun rv M2 H locs hq hw => ?_) hcatch
  obtain ⟨rfl, hK, hM⟩ := hq
  subst M2
  refine W.eq (g2 := F0 m 7 ls [.int (nI (nu 9 (cN v))), .int (nI 0), .ref out]) rfl ?_
  have q5 : cFr M M ad nu := cFr.rf
  refine lv_i2l (v := Int32.toInt64 (nI (nu 9 (cN v)))) hx hb d_L_formOf_7 rfl ?_
  refine x_last (j := 0) hC hw h_out rfl (rfl) (by omega) (by omega) d_L_formOf_8 (fun M3 H locs em fr hw => ?_)
  have h_out := em
  refine lv_goto (tgt := 15) hx hb d_L_formOf_9 (by decide) ?_
  refine lv_iconst (v := nI 0) hx hb d_L_formOf_15 (by decide) ?_
  exact x_iret hC hr hw (⟨congrArg (fun z => some (Value.int z)) (congrArg nI hK.symm), ad, nu, sg, _, hR.out (x_fz0 hC hw hR.2.1.1) (hoo) em fr, rfl, fun a ha => Or.inl ha, em, cFo.put q5 em fr, fun _ => ⟨va_up_self _ _ _, ⟨rfl, rfl⟩⟩, fun z => absurd hK z⟩) (Nat.le_of_ble_eq_true rfl) (Nat.le_of_ble_eq_true rfl) d_L_formOf_16

set_option maxHeartbeats 400000 in
set_option maxRecDepth 100000 in
/-- the law: byteOf -/
theorem c_L_byteOf (l : Launch) (hfl : l.flags = flags0) (G : xT) (M : xMem) (sz : Nat) (fz : Nat) (ad : Nat → Nat → Nat) (nu : Nat → Nat → Nat) (sg : Nat → Nat → Int32) (hR : cRep G M fz ad nu sg) (out : Nat) (ov : Nat → Int64) (hoo : ¬ own ad nu out) (so i : Int32) (h8 : nu 21 0 ≤ 8) (h60 : ∀ t, nu 23 t ≤ 60) (hfm : ∀ u, u < nu 7 0 → nu 9 u < nu 6 0) (h_out : M out = some (.inl (G.2.1 2, 1, .inr (.inl ov)))) : xMet l G y_L_byteOf (Cond.codeWith y_L_byteOf b_L_byteOf 5 (Option.some Jvm.ClassFile.FieldType.int) [(0, 10, 13, 13)] :: x_tbl) { frames := 8, cells := 2, slots := 12, locals := 126 } [.ref (ad 14 0), .int so, .int i, .ref out] M sz (fun u M' => u = some (.int (nI (byteOfK nu so i))) ∧ ∃ (ad' : Nat → Nat → Nat) (nu' : Nat → Nat → Nat) (sg' : Nat → Nat → Int32) (ov' : Nat → Int64), cRep G M' fz ad' nu' sg' ∧ ad' 14 0 = ad 14 0 ∧ (∀ a, own ad' nu' a → own ad nu a ∨ M a = none) ∧ M' out = some (.inl (G.2.1 2, 1, .inr (.inl ov'))) ∧ cFo M M' ad nu out ∧ (byteOfK nu so i = 0 → ov' 0 = Int32.toInt64 ((Int32.toInt8 (sg 24 (60 * cN so + cN i))).toInt32) ∧ nu' = nu ∧ sg' = sg) ∧ (byteOfK nu so i ≠ 0 → nu' = nu ∧ sg' = sg)) (fun _ _ => False) := by
  refine xMet.ofH (by decide) (Nat.le_of_ble_eq_true rfl) ?_
  intro p e s m below meth c ls hC hr hnm hno hsz hw hl
  obtain ⟨hx, hb, hown, hts, hK, hml, hlk, hz⟩ := id hC
  have hl : lv_has ls 5 [(0, .ref (ad 14 0)), (1, .int so), (2, .int i), (3, .ref out)] := hl
  have h_out0 := h_out
  refine lv_aload_n hx hb d_L_byteOf_0 rfl (lv_at hl 3 rfl) ?_
  refine lv_iconst (v := nI 0) hx hb d_L_byteOf_1 (by decide) ?_
  refine lv_aload_n hx hb d_L_byteOf_2 rfl (lv_at hl 0 rfl) ?_
  refine lv_iload_n hx hb d_L_byteOf_3 rfl (lv_at hl 1 rfl) ?_
  refine lv_iload_n hx hb d_L_byteOf_4 rfl (lv_at hl 2 rfl) ?_
  have hc1 := hR.rc
  have hcatch : ∀ (x : Addr) (X : String) (M9 : xMem) (H : Heap) (locs : List Loc), (fun X M' => M' = M ∧ (byteOfK nu so i = 1 ∧ X = "java/lang/IndexOutOfBoundsException")) X M9 → xTh s H X x → xWd G (xA M sz) s.heap M9 H locs → xWT p l e { frames := 8, cells := 2, slots := 12, locals := 126 } s m ([.ref (ad 14 0), .int so, .int i, .ref out] : List Value).toArray below meth c H locs 2 12 (xMQ below G M sz (fun u M' => u = some (.int (nI (byteOfK nu so i))) ∧ ∃ (ad' : Nat → Nat → Nat) (nu' : Nat → Nat → Nat) (sg' : Nat → Nat → Int32) (ov' : Nat → Int64), cRep G M' fz ad' nu' sg' ∧ ad' 14 0 = ad 14 0 ∧ (∀ a, own ad' nu' a → own ad nu a ∨ M a = none) ∧ M' out = some (.inl (G.2.1 2, 1, .inr (.inl ov'))) ∧ cFo M M' ad nu out ∧ (byteOfK nu so i = 0 → ov' 0 = Int32.toInt64 ((Int32.toInt8 (sg 24 (60 * cN so + cN i))).toInt32) ∧ nu' = nu ∧ sg' = sg) ∧ (byteOfK nu so i ≠ 0 → nu' = nu ∧ sg' = sg)) (fun _ _ => False) s 2 12) x (F0 m 5 ls [.int (nI 0), .ref out]) := by
    intro x X M9 H locs hth hxT hw
    obtain ⟨rfl, ⟨hK, rfl⟩⟩ := hth
    refine x_catch hC hxT [] ⟨0, 10, 13, 13⟩ [] hno (by decide) (by decide) k_289 k_301 (fun y hy => absurd hy List.not_mem_nil) rfl ?_
    refine lv_astore (lv' := [(4, .ref x), (0, .ref (ad 14 0)), (1, .int so), (2, .int i), (3, .ref out)]) hx hb d_L_byteOf_13 hl (by decide) rfl (fun ls hl => ?_)
    refine lv_iconst (v := nI 1) hx hb d_L_byteOf_15 (by decide) ?_
    exact x_iret hC hr hw (⟨congrArg (fun z => some (Value.int z)) (congrArg nI hK.symm), ad, nu, sg, ov, hR, rfl, fun a ha => Or.inl ha, h_out, cFo.of cFr.rf, fun z => absurd (hK.symm.trans z) (by decide), fun _ => ⟨rfl, rfl⟩⟩) (Nat.le_of_ble_eq_true rfl) (Nat.le_of_ble_eq_true rfl) d_L_byteOf_16
  refine x_callG hC (c_R_byteOf l hfl G M (Array.size s.heap) fz ad nu sg hR so i h8 h60) k_710 k_1 ⟨Nat.le_of_ble_eq_true rfl, Nat.le_of_ble_eq_true rfl⟩ ⟨Nat.le_of_ble_eq_true rfl, Nat.le_of_ble_eq_true rfl⟩ hw hl.1 (Nat.le_of_ble_eq_true rfl) d_L_byteOf_5 (x_ivV hC k_710 k_707 k_708 k_709 (show _ ∧ _ ∧ _ = some 2 from by decide +kernel) (x_recv hC hw hc1 rfl) rfl d_L_byteOf_5) (fun rv M2 H locs hq hw => ?_) hcatch
  obtain ⟨rfl, hK, hM⟩ := hq
  subst M2
  refine W.eq (g2 := F0 m 8 ls [.int ((Int32.toInt8 (sg 24 (60 * cN so + cN i))).toInt32), .int (nI 0), .ref out]) rfl ?_
  have q5 : cFr M M ad nu := cFr.rf
  refine lv_i2l (v := Int32.toInt64 ((Int32.toInt8 (sg 24 (60 * cN so + cN i))).toInt32)) hx hb d_L_byteOf_8 rfl ?_
  refine x_last (j := 0) hC hw h_out rfl (rfl) (by omega) (by omega) d_L_byteOf_9 (fun M3 H locs em fr hw => ?_)
  have h_out := em
  refine lv_goto (tgt := 17) hx hb d_L_byteOf_10 (by decide) ?_
  refine lv_iconst (v := nI 0) hx hb d_L_byteOf_17 (by decide) ?_
  exact x_iret hC hr hw (⟨congrArg (fun z => some (Value.int z)) (congrArg nI hK.symm), ad, nu, sg, _, hR.out (x_fz0 hC hw hR.2.1.1) (hoo) em fr, rfl, fun a ha => Or.inl ha, em, cFo.put q5 em fr, fun _ => ⟨va_up_self _ _ _, ⟨rfl, rfl⟩⟩, fun z => absurd hK z⟩) (Nat.le_of_ble_eq_true rfl) (Nat.le_of_ble_eq_true rfl) d_L_byteOf_18

set_option maxHeartbeats 400000 in
set_option maxRecDepth 100000 in
/-- the law: many -/
theorem c_L_many (l : Launch) (hfl : l.flags = flags0) (G : xT) (M : xMem) (sz : Nat) (fz : Nat) (ad : Nat → Nat → Nat) (nu : Nat → Nat → Nat) (sg : Nat → Nat → Int32) (hR : cRep G M fz ad nu sg) (out : Nat) (ov : Nat → Int64) (hoo : ¬ own ad nu out) (wh no : Int32) (h20 : nu 6 0 ≤ 20) (h8 : nu 21 0 ≤ 8) (h4 : nu 12 0 ≤ 4) (hfm : ∀ u, u < nu 7 0 → nu 9 u < nu 6 0) (h_out : M out = some (.inl (G.2.1 2, 1, .inr (.inl ov)))) : xMet l G y_L_many (Cond.codeWith y_L_many b_L_many 5 (Option.some Jvm.ClassFile.FieldType.int) [(0, 10, 13, 13)] :: x_tbl) { frames := 8, cells := 1, slots := 6, locals := 125 } [.ref (ad 14 0), .int wh, .int no, .ref out] M sz (fun u M' => u = some (.int (nI (manyK nu wh no))) ∧ ∃ (ad' : Nat → Nat → Nat) (nu' : Nat → Nat → Nat) (sg' : Nat → Nat → Int32) (ov' : Nat → Int64), cRep G M' fz ad' nu' sg' ∧ ad' 14 0 = ad 14 0 ∧ (∀ a, own ad' nu' a → own ad nu a ∨ M a = none) ∧ M' out = some (.inl (G.2.1 2, 1, .inr (.inl ov'))) ∧ cFo M M' ad nu out ∧ (manyK nu wh no = 0 → ov' 0 = Int32.toInt64 (nI (manyV nu wh no)) ∧ nu' = nu ∧ sg' = sg) ∧ (manyK nu wh no ≠ 0 → nu' = nu ∧ sg' = sg)) (fun _ _ => False) := by
  refine xMet.ofH (by decide) (Nat.le_of_ble_eq_true rfl) ?_
  intro p e s m below meth c ls hC hr hnm hno hsz hw hl
  obtain ⟨hx, hb, hown, hts, hK, hml, hlk, hz⟩ := id hC
  have hl : lv_has ls 5 [(0, .ref (ad 14 0)), (1, .int wh), (2, .int no), (3, .ref out)] := hl
  have h_out0 := h_out
  refine lv_aload_n hx hb d_L_many_0 rfl (lv_at hl 3 rfl) ?_
  refine lv_iconst (v := nI 0) hx hb d_L_many_1 (by decide) ?_
  refine lv_aload_n hx hb d_L_many_2 rfl (lv_at hl 0 rfl) ?_
  refine lv_iload_n hx hb d_L_many_3 rfl (lv_at hl 1 rfl) ?_
  refine lv_iload_n hx hb d_L_many_4 rfl (lv_at hl 2 rfl) ?_
  have hc1 := hR.rc
  have hcatch : ∀ (x : Addr) (X : String) (M9 : xMem) (H : Heap) (locs : List Loc), (fun X M' => M' = M ∧ (manyK nu wh no = 1 ∧ X = "java/lang/IndexOutOfBoundsException")) X M9 → xTh s H X x → xWd G (xA M sz) s.heap M9 H locs → xWT p l e { frames := 8, cells := 1, slots := 6, locals := 125 } s m ([.ref (ad 14 0), .int wh, .int no, .ref out] : List Value).toArray below meth c H locs 1 6 (xMQ below G M sz (fun u M' => u = some (.int (nI (manyK nu wh no))) ∧ ∃ (ad' : Nat → Nat → Nat) (nu' : Nat → Nat → Nat) (sg' : Nat → Nat → Int32) (ov' : Nat → Int64), cRep G M' fz ad' nu' sg' ∧ ad' 14 0 = ad 14 0 ∧ (∀ a, own ad' nu' a → own ad nu a ∨ M a = none) ∧ M' out = some (.inl (G.2.1 2, 1, .inr (.inl ov'))) ∧ cFo M M' ad nu out ∧ (manyK nu wh no = 0 → ov' 0 = Int32.toInt64 (nI (manyV nu wh no)) ∧ nu' = nu ∧ sg' = sg) ∧ (manyK nu wh no ≠ 0 → nu' = nu ∧ sg' = sg)) (fun _ _ => False) s 1 6) x (F0 m 5 ls [.int (nI 0), .ref out]) := by
    intro x X M9 H locs hth hxT hw
    obtain ⟨rfl, ⟨hK, rfl⟩⟩ := hth
    refine x_catch hC hxT [] ⟨0, 10, 13, 13⟩ [] hno (by decide) (by decide) k_289 k_301 (fun y hy => absurd hy List.not_mem_nil) rfl ?_
    refine lv_astore (lv' := [(4, .ref x), (0, .ref (ad 14 0)), (1, .int wh), (2, .int no), (3, .ref out)]) hx hb d_L_many_13 hl (by decide) rfl (fun ls hl => ?_)
    refine lv_iconst (v := nI 1) hx hb d_L_many_15 (by decide) ?_
    exact x_iret hC hr hw (⟨congrArg (fun z => some (Value.int z)) (congrArg nI hK.symm), ad, nu, sg, ov, hR, rfl, fun a ha => Or.inl ha, h_out, cFo.of cFr.rf, fun z => absurd (hK.symm.trans z) (by decide), fun _ => ⟨rfl, rfl⟩⟩) (Nat.le_of_ble_eq_true rfl) (Nat.le_of_ble_eq_true rfl) d_L_many_16
  refine x_callG hC (c_R_many l hfl G M (Array.size s.heap) fz ad nu sg hR wh no h20 h8 h4) k_726 k_1 ⟨Nat.le_of_ble_eq_true rfl, Nat.le_of_ble_eq_true rfl⟩ ⟨Nat.le_of_ble_eq_true rfl, Nat.le_of_ble_eq_true rfl⟩ hw hl.1 (Nat.le_of_ble_eq_true rfl) d_L_many_5 (x_ivV hC k_726 k_723 k_724 k_725 (show _ ∧ _ ∧ _ = some 2 from by decide +kernel) (x_recv hC hw hc1 rfl) rfl d_L_many_5) (fun rv M2 H locs hq hw => ?_) hcatch
  obtain ⟨rfl, hK, hM⟩ := hq
  subst M2
  refine W.eq (g2 := F0 m 8 ls [.int (nI (manyV nu wh no)), .int (nI 0), .ref out]) rfl ?_
  have q5 : cFr M M ad nu := cFr.rf
  refine lv_i2l (v := Int32.toInt64 (nI (manyV nu wh no))) hx hb d_L_many_8 rfl ?_
  refine x_last (j := 0) hC hw h_out rfl (rfl) (by omega) (by omega) d_L_many_9 (fun M3 H locs em fr hw => ?_)
  have h_out := em
  refine lv_goto (tgt := 17) hx hb d_L_many_10 (by decide) ?_
  refine lv_iconst (v := nI 0) hx hb d_L_many_17 (by decide) ?_
  exact x_iret hC hr hw (⟨congrArg (fun z => some (Value.int z)) (congrArg nI hK.symm), ad, nu, sg, _, hR.out (x_fz0 hC hw hR.2.1.1) (hoo) em fr, rfl, fun a ha => Or.inl ha, em, cFo.put q5 em fr, fun _ => ⟨va_up_self _ _ _, ⟨rfl, rfl⟩⟩, fun z => absurd hK z⟩) (Nat.le_of_ble_eq_true rfl) (Nat.le_of_ble_eq_true rfl) d_L_many_18

set_option maxHeartbeats 400000 in
set_option maxRecDepth 100000 in
/-- the law: at -/
theorem c_L_at (l : Launch) (hfl : l.flags = flags0) (G : xT) (M : xMem) (sz : Nat) (fz : Nat) (ad : Nat → Nat → Nat) (nu : Nat → Nat → Nat) (sg : Nat → Nat → Int32) (hR : cRep G M fz ad nu sg) (out : Nat) (ov : Nat → Int64) (hoo : ¬ own ad nu out) (of no i wh : Int32) (h20 : nu 6 0 ≤ 20) (h40 : ∀ r, nu 1 r ≤ 40) (hfm : ∀ u, u < nu 7 0 → nu 9 u < nu 6 0) (h_out : M out = some (.inl (G.2.1 2, 1, .inr (.inl ov)))) : xMet l G y_L_at (Cond.codeWith y_L_at b_L_at 7 (Option.some Jvm.ClassFile.FieldType.int) [(0, 14, 17, 13)] :: x_tbl) { frames := 8, cells := 4, slots := 24, locals := 128 } [.ref (ad 14 0), .int of, .int no, .int i, .int wh, .ref out] M sz (fun u M' => u = some (.int (nI (atK nu of no i wh))) ∧ ∃ (ad' : Nat → Nat → Nat) (nu' : Nat → Nat → Nat) (sg' : Nat → Nat → Int32) (ov' : Nat → Int64), cRep G M' fz ad' nu' sg' ∧ ad' 14 0 = ad 14 0 ∧ (∀ a, own ad' nu' a → own ad nu a ∨ M a = none) ∧ M' out = some (.inl (G.2.1 2, 1, .inr (.inl ov'))) ∧ cFo M M' ad nu out ∧ (atK nu of no i wh = 0 → ov' 0 = Int32.toInt64 (sg (2 + cN wh) (40 * rowN of no + cN i)) ∧ nu' = nu ∧ sg' = sg) ∧ (atK nu of no i wh ≠ 0 → nu' = nu ∧ sg' = sg)) (fun _ _ => False) := by
  refine xMet.ofH (by decide) (Nat.le_of_ble_eq_true rfl) ?_
  intro p e s m below meth c ls hC hr hnm hno hsz hw hl
  obtain ⟨hx, hb, hown, hts, hK, hml, hlk, hz⟩ := id hC
  have hl : lv_has ls 7 [(0, .ref (ad 14 0)), (1, .int of), (2, .int no), (3, .int i), (4, .int wh), (5, .ref out)] := hl
  have h_out0 := h_out
  refine lv_aload hx hb d_L_at_0 (lv_at hl 5 rfl) ?_
  refine lv_iconst (v := nI 0) hx hb d_L_at_2 (by decide) ?_
  refine lv_aload_n hx hb d_L_at_3 rfl (lv_at hl 0 rfl) ?_
  refine lv_iload_n hx hb d_L_at_4 rfl (lv_at hl 1 rfl) ?_
  refine lv_iload_n hx hb d_L_at_5 rfl (lv_at hl 2 rfl) ?_
  refine lv_iload_n hx hb d_L_at_6 rfl (lv_at hl 3 rfl) ?_
  refine lv_iload hx hb d_L_at_7 (lv_at hl 4 rfl) ?_
  have hc1 := hR.rc
  have hcatch : ∀ (x : Addr) (X : String) (M9 : xMem) (H : Heap) (locs : List Loc), (fun X M' => M' = M ∧ (atK nu of no i wh = 1 ∧ X = "java/lang/IndexOutOfBoundsException")) X M9 → xTh s H X x → xWd G (xA M sz) s.heap M9 H locs → xWT p l e { frames := 8, cells := 4, slots := 24, locals := 128 } s m ([.ref (ad 14 0), .int of, .int no, .int i, .int wh, .ref out] : List Value).toArray below meth c H locs 4 24 (xMQ below G M sz (fun u M' => u = some (.int (nI (atK nu of no i wh))) ∧ ∃ (ad' : Nat → Nat → Nat) (nu' : Nat → Nat → Nat) (sg' : Nat → Nat → Int32) (ov' : Nat → Int64), cRep G M' fz ad' nu' sg' ∧ ad' 14 0 = ad 14 0 ∧ (∀ a, own ad' nu' a → own ad nu a ∨ M a = none) ∧ M' out = some (.inl (G.2.1 2, 1, .inr (.inl ov'))) ∧ cFo M M' ad nu out ∧ (atK nu of no i wh = 0 → ov' 0 = Int32.toInt64 (sg (2 + cN wh) (40 * rowN of no + cN i)) ∧ nu' = nu ∧ sg' = sg) ∧ (atK nu of no i wh ≠ 0 → nu' = nu ∧ sg' = sg)) (fun _ _ => False) s 4 24) x (F0 m 9 ls [.int (nI 0), .ref out]) := by
    intro x X M9 H locs hth hxT hw
    obtain ⟨rfl, ⟨hK, rfl⟩⟩ := hth
    refine x_catch hC hxT [] ⟨0, 14, 17, 13⟩ [] hno (by decide) (by decide) k_289 k_301 (fun y hy => absurd hy List.not_mem_nil) rfl ?_
    refine lv_astore (lv' := [(6, .ref x), (0, .ref (ad 14 0)), (1, .int of), (2, .int no), (3, .int i), (4, .int wh), (5, .ref out)]) hx hb d_L_at_17 hl (by decide) rfl (fun ls hl => ?_)
    refine lv_iconst (v := nI 1) hx hb d_L_at_19 (by decide) ?_
    exact x_iret hC hr hw (⟨congrArg (fun z => some (Value.int z)) (congrArg nI hK.symm), ad, nu, sg, ov, hR, rfl, fun a ha => Or.inl ha, h_out, cFo.of cFr.rf, fun z => absurd (hK.symm.trans z) (by decide), fun _ => ⟨rfl, rfl⟩⟩) (Nat.le_of_ble_eq_true rfl) (Nat.le_of_ble_eq_true rfl) d_L_at_20
  refine x_callG hC (c_R_at l hfl G M (Array.size s.heap) fz ad nu sg hR of no i wh h20 h40) k_703 k_1 ⟨Nat.le_of_ble_eq_true rfl, Nat.le_of_ble_eq_true rfl⟩ ⟨Nat.le_of_ble_eq_true rfl, Nat.le_of_ble_eq_true rfl⟩ hw hl.1 (Nat.le_of_ble_eq_true rfl) d_L_at_9 (x_ivV hC k_703 k_700 k_701 k_702 (show _ ∧ _ ∧ _ = some 4 from by decide +kernel) (x_recv hC hw hc1 rfl) rfl d_L_at_9) (fun rv M2 H locs hq hw => ?_) hcatch
  obtain ⟨rfl, hK, hM⟩ := hq
  subst M2
  refine W.eq (g2 := F0 m 12 ls [.int (sg (2 + cN wh) (40 * rowN of no + cN i)), .int (nI 0), .ref out]) rfl ?_
  have q5 : cFr M M ad nu := cFr.rf
  refine lv_i2l (v := Int32.toInt64 (sg (2 + cN wh) (40 * rowN of no + cN i))) hx hb d_L_at_12 rfl ?_
  refine x_last (j := 0) hC hw h_out rfl (rfl) (by omega) (by omega) d_L_at_13 (fun M3 H locs em fr hw => ?_)
  have h_out := em
  refine lv_goto (tgt := 21) hx hb d_L_at_14 (by decide) ?_
  refine lv_iconst (v := nI 0) hx hb d_L_at_21 (by decide) ?_
  exact x_iret hC hr hw (⟨congrArg (fun z => some (Value.int z)) (congrArg nI hK.symm), ad, nu, sg, _, hR.out (x_fz0 hC hw hR.2.1.1) (hoo) em fr, rfl, fun a ha => Or.inl ha, em, cFo.put q5 em fr, fun _ => ⟨va_up_self _ _ _, ⟨rfl, rfl⟩⟩, fun z => absurd hK z⟩) (Nat.le_of_ble_eq_true rfl) (Nat.le_of_ble_eq_true rfl) d_L_at_22
