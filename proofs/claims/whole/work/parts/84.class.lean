/-! stores that have been cut -/
theorem kp_sur {P : Nat → Prop} : ∀ {n j : Nat}, j < kp P n → ∃ i, i < n ∧ em P i ∧ kp P i = j
  | 0, j, h => absurd h (Nat.not_lt_zero j)
  | n + 1, j, h => by
    by_cases he : em P n
    · rw [kp_t he] at h
      by_cases hz : j = kp P n
      · exact ⟨n, by omega, he, hz.symm⟩
      · obtain ⟨i, h1, h2, h3⟩ := kp_sur (P := P) (n := n) (j := j) (by omega)
        exact ⟨i, by omega, h2, h3⟩
    · rw [kp_f he] at h
      obtain ⟨i, h1, h2, h3⟩ := kp_sur (P := P) (n := n) (j := j) h
      exact ⟨i, by omega, h2, h3⟩
theorem cut_ok {P : Nat → Prop} {n : Nat} {g f : Nat → Int32} (h : cutI P 0 n (cV P (nI 42) g 0) g f) (hg : ∀ i, i < n → okB (g i)) : ∀ j, j < kp P n → okB (f j) := by
  intro j hj
  obtain ⟨i, h1, h2, rfl⟩ := kp_sur hj
  have e := h.1 i h1 h2
  rw [Nat.zero_add] at e
  rw [e]
  by_cases hp : P i
  · rw [cV_t hp]
    exact ⟨42, by decide, rfl⟩
  · rw [cV_f hp, Nat.zero_add]
    exact hg i h1
theorem stI_in {en k j : Nat} (h : j < stI en k) : ∃ i, i < k ∧ (j = stI en i ∨ (en ≠ 0 ∧ j = stI en i + 1)) := by
  by_cases h0 : en = 0
  · subst h0
    exact ⟨j, h, Or.inl rfl⟩
  · have e : ∀ x, stI en x = 2 * x := by
      intro x
      unfold stI
      split
      · exact absurd rfl h0
      · rfl
    rw [e] at h
    refine ⟨j / 2, by omega, ?_⟩
    rw [e]
    by_cases hz : j % 2 = 0
    · exact Or.inl (by omega)
    · exact Or.inr ⟨h0, by omega⟩
theorem w0_lt {en c : Nat} (hc : c < 256) : w0 en c < 256 := by
  unfold w0
  split
  · exact hc
  · omega
  · exact hc
  · exact hxN_lt (by omega)
theorem w1_lt {en c : Nat} (hc : c < 256) : w1 en c < 256 := by
  unfold w1
  split
  · omega
  · exact hc
  · omega
  · exact hxN_lt (by omega)
theorem wrS_by {en k : Nat} {g f : Nat → Int32} (h : wrS en k g f) : ∀ j, j < stI en k → byP (f j) := by
  intro j hj
  obtain ⟨i, h1, h2 | ⟨h2, h3⟩⟩ := stI_in hj
  · rw [h2]
    exact (h i h1).1.2
  · rw [h3]
    exact ((h i h1).2 h2).2
def stSg (sg : Nat → Nat → Int32) (t m : Nat) (f : Nat → Int32) : Nat → Nat → Int32 := va_up sg 24 (fun j => if 60 * t ≤ j ∧ j < 60 * t + m then (f (j - 60 * t) &&& nI 255) else sg 24 j)
theorem stSg_in {sg : Nat → Nat → Int32} {t m j : Nat} {f : Nat → Int32} (hj : j < m) : stSg sg t m f 24 (60 * t + j) = (f j &&& nI 255) := by
  unfold stSg
  rw [va_up_self, if_pos ⟨by omega, by omega⟩]
  congr 2
  omega
theorem stSg_out {sg : Nat → Nat → Int32} {t m j : Nat} {f : Nat → Int32} (hj : j < 60 * t ∨ 60 * t + m ≤ j) : stSg sg t m f 24 j = sg 24 j := by
  unfold stSg
  rw [va_up_self, if_neg (by omega)]
theorem stSg_S {sg : Nat → Nat → Int32} {t m : Nat} {f : Nat → Int32} : eqx [24] sg (stSg sg t m f) := eqx.up sg 24 _
theorem stSg_ok {sg : Nat → Nat → Int32} {t m : Nat} {f : Nat → Int32} (h : ∀ j, okB (sg 24 j)) (hf : ∀ j, j < m → byP (f j)) : ∀ j, okB (stSg sg t m f 24 j) := by
  intro j
  by_cases hz : 60 * t ≤ j ∧ j < 60 * t + m
  · have e : j = 60 * t + (j - 60 * t) := by omega
    rw [e, stSg_in (by omega)]
    exact by_ok (hf _ (by omega))
  · rw [stSg_out (by omega)]
    exact h j
section SC
variable {nu : Nat → Nat → Nat} {sg : Nat → Nat → Int32} {P : Nat → Prop} {en t n : Nat} {row fC f' : Nat → Int32}
theorem st_wrI (h : wrS en (kp P n) fC f') (hc : cutI P 0 n (cV P (nI 42) row 0) row fC) : wrI P en (60 * t) n (cV P (nI 42) row 0) (sg 24) (stSg sg t (stI en (kp P n)) f' 24) := by
  refine ⟨fun i hi he => ?_, fun j hj => stSg_out hj⟩
  have hk := kp_lt he hi
  have hl := stI_lt (en := en) hk
  have h1 := stS_1 en
  obtain ⟨a, b⟩ := h (kp P i) hk
  have e := hc.1 i hi he
  rw [Nat.zero_add] at e
  rw [e] at a b
  rw [stSg_in (by omega)]
  refine ⟨a.1, fun hne => ?_⟩
  have h2 := stS_2 hne
  rw [Nat.add_assoc, stSg_in (by omega)]
  exact (b hne).1
end SC
theorem cutI.cong {P Q : Nat → Prop} {k : Nat} {g f f' : Nat → Int32} (h : cutI P 0 k (cV P (nI 42) g 0) f f') (hc : ∀ i, i < k → (P i ↔ Q i)) : cutI Q 0 k (cV Q (nI 42) g 0) f f' := by
  have ek : ∀ i, i ≤ k → kp P i = kp Q i := fun i hi => kp_c (fun j hj => hc j (by omega))
  refine ⟨fun i hi he => ?_, fun j hj => h.2 j (by rw [ek k (Nat.le_refl k)]; exact hj)⟩
  have g := h.1 i hi ((em_c (fun j hj => hc j (by omega))).mpr he)
  rw [ek i (by omega)] at g
  exact g.trans (cV_c (hc i hi))
theorem cutI.row {P : Nat → Prop} {k : Nat} {g g2 f f' : Nat → Int32} (h : cutI P 0 k (cV P (nI 42) g 0) f f') (hg : ∀ j, j < k → g j = g2 j) : ∀ i, i < k → em P i → f' (0 + kp P i) = cV P (nI 42) g2 0 i := by
  intro i hi he
  rw [h.1 i hi he]
  exact cV_src (by rw [Nat.zero_add]; exact hg i hi)
theorem cnt60 {P Q : Nat → Prop} {n : Nat} (hn : n ≤ 60) (h : ∀ k, k < 64 → (P k ↔ Q k)) (hq : ∀ k, Q k → k < n) : cnt P 64 = cnt Q n := by
  rw [cnt_c (P := P) (Q := Q) (fun k hk => h k hk)]
  exact cnt_tail (by omega) (fun k h1 h2 z => by have := hq k z; omega)
theorem up60 {nu : Nat → Nat → Nat} {q v : Nat} (h : ∀ r, nu 23 r ≤ 60) (hv : v ≤ 60) : ∀ r, va_up nu 23 (va_up (nu 23) q v) 23 r ≤ 60 := by
  intro r
  rw [va_up_self]
  by_cases hz : r = q
  · rw [hz, va_up_self]
    exact hv
  · rw [va_up_ne _ _ hz]
    exact h r
/-- over the codes that the bytes say -/
theorem st_row {P : Nat → Prop} {n : Nat} {g row f : Nat → Int32} (h : cutI P 0 n (cV P (nI 42) g 0) g f) (hg : ∀ j, j < n → g j = row j) : cutI P 0 n (cV P (nI 42) row 0) row (fun j => if j < kp P n then f j else row j) := by
  refine ⟨fun i hi he => ?_, fun j hj => ?_⟩
  · have hk := kp_lt he hi
    show (if 0 + kp P i < kp P n then f (0 + kp P i) else row (0 + kp P i)) = _
    rw [if_pos (by omega)]
    exact h.row hg i hi he
  · show (if j < kp P n then f j else row j) = row j
    rw [if_neg (by omega)]
theorem wrS_c {en k : Nat} {g row f : Nat → Int32} (h : wrS en k g f) : wrS en k (fun j => if j < k then g j else row j) f := by
  intro j hj
  have e : (if j < k then g j else row j) = g j := if_pos hj
  show ((f (stI en j) &&& nI 255) = nI (w0 en (cN (if j < k then g j else row j))) ∧ _) ∧ (en ≠ 0 → (f (stI en j + 1) &&& nI 255) = nI (w1 en (cN (if j < k then g j else row j))) ∧ _)
  rw [e]
  exact h j hj
set_option maxHeartbeats 400000 in
set_option maxRecDepth 100000 in
/-- cutStores -/
theorem c_R_cutStores (l : Launch) (G : xT) (M : xMem) (sz : Nat) (fz : Nat) (ad : Nat → Nat → Nat) (nu nuc : Nat → Nat → Nat) (sg sgc : Nat → Nat → Int32) (hR : cRep G M fz ad nuc sgc) (hN0 : eqx [1, 6, 9] nu nuc) (hS0 : eqx [2, 3, 4, 5] sg sgc) (hfmc : ∀ u, u < nuc 7 0 → nuc 9 u < nuc 6 0) (h4 : nu 12 0 ≤ 4) (h8 : ∀ w, nu 13 w ≤ 8) (hst8 : nu 21 0 ≤ 8) (h60 : ∀ t, nu 23 t ≤ 60) (hen : ∀ t, t < nu 21 0 → ∃ en, en < 4 ∧ sg 22 t = nI en) (hok : ∀ j, okB (sg 24 j)) : xMet l G y_R_cutStores (Cond.code y_R_cutStores b_R_cutStores 6 (Option.some Jvm.ClassFile.FieldType.int) :: x_tbl) { frames := 4, cells := 0, slots := 0, locals := 89 } [.ref (ad 14 0)] M sz (fun u M' => u = some (.int (nI (sm (stoN nu sg) (nu 21 0)))) ∧ ∃ (nu' : Nat → Nat → Nat) (sg' : Nat → Nat → Int32), cRep G M' fz ad nu' sg' ∧ eqx [23] nuc nu' ∧ eqx [24] sgc sg' ∧ stQ nu sg nu' sg' (nu 21 0) ∧ (∀ j, okB (sg' 24 j)) ∧ (∀ x, nu' 23 x ≤ 60) ∧ cFr M M' ad nuc) (fun _ _ => False) := by
  refine xMet.of (by decide) (Nat.le_of_ble_eq_true rfl) ?_
  intro p e s m below meth c ls hC hr hnm hno hsz hw hl
  obtain ⟨hx, hb, hown, hts, hK, hml, hlk, hz⟩ := id hC
  have hl : lv_has ls 6 [(0, .ref (ad 14 0))] := hl
  refine lv_iconst (v := nI 0) hx hb d_R_cutStores_0 (by decide) ?_
  refine x_vi (y := nI (sm (stoN nu sg) 0)) (rfl) ?_
  refine lv_istore_n (lv' := [(1, .int (nI (sm (stoN nu sg) 0))), (0, .ref (ad 14 0))]) hx hb d_R_cutStores_1 rfl hl (by decide) rfl (fun ls hl => ?_)
  refine lv_iconst (v := nI 0) hx hb d_R_cutStores_2 (by decide) ?_
  refine lv_istore_n (lv' := [(2, .int (nI 0)), (1, .int (nI (sm (stoN nu sg) 0))), (0, .ref (ad 14 0))]) hx hb d_R_cutStores_3 rfl hl (by decide) rfl (fun ls hl => ?_)
  have HL4 : ∀ (z4 t : Nat) (nu1 : Nat → Nat → Nat) (sg1 : Nat → Nat → Int32), t ≤ nu 21 0 → nu 21 0 + 1 ≤ t + z4 → (eqx [23] nuc nu1) → (eqx [24] sgc sg1) → (stQ nu sg nu1 sg1 t) → (∀ x, nu1 23 x ≤ 60) → (∀ j, okB (sg1 24 j)) → ∀ (M1 : xMem), ∀ (H : Heap) (locs : List Loc) (ls : Array Slot), (cRep G M1 fz ad nu1 sg1) → (cFr M M1 ad nuc) → xWd G (xA M sz) s.heap M1 H locs → lv_has ls 6 [(0, .ref (ad 14 0)), (1, .int (nI (sm (stoN nu sg) t))), (2, .int (nI t))] → W p l e { frames := 4, cells := 0, slots := 0, locals := 89 } s m ([.ref (ad 14 0)] : List Value).toArray below meth c H locs 0 0 (xMQ below G M sz (fun u M' => u = some (.int (nI (sm (stoN nu sg) (nu 21 0)))) ∧ ∃ (nu' : Nat → Nat → Nat) (sg' : Nat → Nat → Int32), cRep G M' fz ad nu' sg' ∧ eqx [23] nuc nu' ∧ eqx [24] sgc sg' ∧ stQ nu sg nu' sg' (nu 21 0) ∧ (∀ j, okB (sg' 24 j)) ∧ (∀ x, nu' 23 x ≤ 60) ∧ cFr M M' ad nuc) (fun _ _ => False) s 0 0) (F0 m 4 ls []) := by
    intro z4
    induction z4 with
    | zero =>
      intro t nu1 sg1 h1 h2
      omega
    | succ z4 ih4 =>
      intro t nu1 sg1 hi4 hz4 hN hS hQ h601 hok1 M1 H locs ls  hR1 hC9 hw hl
      have e21 : nu1 21 0 = nu 21 0 := by rw [hN 21 (by decide), hN0 21 (by decide)]
      have e12 : nu1 12 = nu 12 := by rw [hN 12 (by decide), hN0 12 (by decide)]
      have e13 : nu1 13 = nu 13 := by rw [hN 13 (by decide), hN0 13 (by decide)]
      have e14 : sg1 14 = sg 14 := by rw [hS 14 (by decide), hS0 14 (by decide)]
      have e22 : sg1 22 = sg 22 := by rw [hS 22 (by decide), hS0 22 (by decide)]
      have hfm1 : ∀ u, u < nu1 7 0 → nu1 9 u < nu1 6 0 := by rw [hN 7 (by decide), hN 9 (by decide), hN 6 (by decide)]; exact hfmc
      refine lv_iload_n hx hb d_R_cutStores_4 rfl (lv_at hl 2 rfl) ?_
      refine lv_aload_n hx hb d_R_cutStores_5 rfl (lv_at hl 0 rfl) ?_
      have hc1 := hR1.rc
      refine x_get hC hw hc1 rfl 5 (by decide) (hts _ k_181) (fun _ h9 => h9) rfl d_R_cutStores_6 ?_
      obtain ⟨mc2, hc2⟩ := hR1.la (k := 5) (by decide)
      refine x_callG hC (c_size l G M1 (Array.size H) fz ad nu1 sg1 hR1 5 (by decide)) k_212 k_4 ⟨Nat.le_of_ble_eq_true rfl, Nat.le_of_ble_eq_true rfl⟩ ⟨Nat.le_of_ble_eq_true rfl, Nat.le_of_ble_eq_true rfl⟩ hw hl.1 (Nat.le_of_ble_eq_true rfl) d_R_cutStores_9 (x_ivV hC k_212 k_209 k_210 k_211 (show _ ∧ _ ∧ _ = some 0 from by decide +kernel) (x_recv hC hw hc2 rfl) rfl d_R_cutStores_9) (fun rv M3 H locs hq hw => ?_) (fun _ _ _ _ _ h _ _ => h.elim)
      obtain ⟨rfl, hM⟩ := hq
      subst M3
      refine W.eq (g2 := F0 m 12 ls [.int (nI (nu1 21 0)), .int (nI t)]) rfl ?_
      refine lv_icmp_ge (tgt := 87) hx hb d_R_cutStores_12 (by decide) (fun c_12 => ?_) (fun c_12 => ?_)
      · have c_12 := (nI_leI (by omega) (by omega)).mp c_12
        refine lv_iload_n hx hb d_R_cutStores_87 rfl (lv_at hl 1 rfl) ?_
        have hke : t = nu 21 0 := by omega
        subst hke
        exact x_iret hC hr hw (⟨rfl, nu1, sg1, hR1, hN, hS, hQ, hok1, h601, hC9⟩) (Nat.le_of_ble_eq_true rfl) (Nat.le_of_ble_eq_true rfl) d_R_cutStores_88
      · have c_12 := Nat.not_le.mp ((not_congr (nI_leI (by omega) (by omega))).mp c_12)
        refine lv_aload_n hx hb d_R_cutStores_15 rfl (lv_at hl 0 rfl) ?_
        refine x_get hC hw hc1 rfl 5 (by decide) (hts _ k_181) (fun _ h9 => h9) rfl d_R_cutStores_16 ?_
        refine lv_iload_n hx hb d_R_cutStores_19 rfl (lv_at hl 2 rfl) ?_
        refine x_callG hC (c_get l G M1 (Array.size H) fz ad nu1 sg1 hR1 5 (by decide) (t) (show t < nu1 21 0 by omega)) k_216 k_4 ⟨Nat.le_of_ble_eq_true rfl, Nat.le_of_ble_eq_true rfl⟩ ⟨Nat.le_of_ble_eq_true rfl, Nat.le_of_ble_eq_true rfl⟩ hw hl.1 (Nat.le_of_ble_eq_true rfl) d_R_cutStores_20 (x_ivV hC k_216 k_213 k_214 k_215 (show _ ∧ _ ∧ _ = some 1 from by decide +kernel) (x_recv hC hw hc2 rfl) rfl d_R_cutStores_20) (fun rv M4 H locs hq hw => ?_) (fun _ _ _ _ _ h _ _ => h.elim)
        obtain ⟨rfl, hM⟩ := hq
        subst M4
        refine W.eq (g2 := F0 m 23 ls [.ref (ad 8 t)]) rfl ?_
        have hc5 := hR1.so (t := t) (by omega)
        refine x_cast hC hw hc5 rfl (hts _ k_261) d_R_cutStores_23 ?_
        refine lv_astore_n (lv' := [(3, .ref (ad 8 t)), (0, .ref (ad 14 0)), (1, .int (nI (sm (stoN nu sg) t))), (2, .int (nI t))]) hx hb d_R_cutStores_26 rfl hl (by decide) rfl (fun ls hl => ?_)
        refine lv_aload_n hx hb d_R_cutStores_27 rfl (lv_at hl 0 rfl) ?_
        refine lv_aload_n hx hb d_R_cutStores_28 rfl (lv_at hl 1 rfl) ?_
        refine x_get hC hw hc1 rfl 7 (by decide) (hts _ k_183) (fun _ h9 => h9) rfl d_R_cutStores_29 ?_
        refine lv_aload_n hx hb d_R_cutStores_32 rfl (lv_at hl 0 rfl) ?_
        obtain ⟨en, hen4, henq⟩ := hen t (by omega)
        have hcen : cN (sg 22 t) = en := by rw [henq]; exact cN_nI (by omega)
        have h22 : sg1 22 t = nI en := by rw [e22]; exact henq
        have ht1 : t < nu1 21 0 := by omega
        have h6t := h601 t
        refine x_get hC hw hc5 rfl 0 (by decide) (hts _ k_548) (fun _ h9 => h9) rfl d_R_cutStores_33 ?_
        refine x_vi (y := nI en) h22 ?_
        obtain ⟨p6, hc6, hp6⟩ := hR1.by (t := t) (by omega)
        obtain ⟨n7, hc7⟩ := hR1.co
        obtain ⟨p8, hc8⟩ := hR1.cv
        have hvc : ad 9 t ≠ ad 13 0 := hR1.2.2.2.2 t ht1
        refine x_callG hC (c_T_readInto l G M1 (Array.size H) (ad 8 t) (ad 9 t) (ad 12 0) (ad 13 0) (nu1 23 t) (60 * t) en (sg1 22 t) n7 p6 p8 (sg1 24) hen4 h6t (fun j hj => (hp6 j hj).2) (fun j hj => (hp6 j hj).1) hok1 hvc hc5 hc6 hc7 hc8) k_265 k_25 ⟨Nat.le_of_ble_eq_true rfl, Nat.le_of_ble_eq_true rfl⟩ ⟨Nat.le_of_ble_eq_true rfl, Nat.le_of_ble_eq_true rfl⟩ hw hl.1 (Nat.le_of_ble_eq_true rfl) d_R_cutStores_36 (x_ivV hC k_265 k_262 k_263 k_264 (show _ ∧ _ ∧ _ = some 2 from by decide +kernel) (x_recv hC hw hc5 rfl) rfl d_R_cutStores_36) (fun rv M9 H locs hq hw => ?_) (fun _ _ _ _ _ h _ _ => h.elim)
        obtain ⟨rfl, k', g', h_q, h_v, hW, fr⟩ := hq
        have hC9 := hC9.trans (cFr.of (ad := ad) (nu := nuc) fr (own2 (k := 12) (k' := 13) Nat.zero_lt_one Nat.zero_lt_one)) (fun a ha => Or.inl ha)
        have hR1 := hR1.coU (x_fz0 hC hw hR1.2.1.1) hfm1 fr h_q h_v
        have hc5 := fr.get hc5 (by simp [(hR1.ne (k := 8) (i := t) (k' := 12) (j := 0) ht1 Nat.zero_lt_one (by decide)), (hR1.ne (k := 8) (i := t) (k' := 13) (j := 0) ht1 Nat.zero_lt_one (by decide))])
        refine W.eq (g2 := F0 m 39 ls [.int (zI (wellP (sg1 24) en (60 * t) (nu1 23 t)))]) rfl ?_
        refine lv_if_eq (tgt := 76) hx hb d_R_cutStores_39 (by decide) (fun c_39 => ?_) (fun c_39 => ?_)
        · have c_39 := zI_0.mp c_39
          refine lv_aload_n hx hb d_R_cutStores_76 rfl (lv_at hl 0 rfl) ?_
          refine lv_iconst (v := nI 0) hx hb d_R_cutStores_77 (by decide) ?_
          have hc10 := hR1.so (t := t) (by omega)
          obtain ⟨p11, hc11, hp11⟩ := hR1.by (t := t) (by omega)
          refine x_put (ty := .int) hC hw hc10 rfl 1 (by decide) (hts _ k_550) (fun _ h9 => h9) rfl (by decide +kernel) rfl rfl (Nat.le_of_ble_eq_true rfl) d_R_cutStores_78 (fun M12 H locs em fr hw => ?_)
          have em : M12 (ad 8 t) = some (.inr (6, [.int (sg1 22 t), .int (nI 0), .ref (ad 9 t)])) := em
          have hc11 := (fr _ (hR1.ne (k := 9) (i := t) (k' := 8) (j := t) ht1 ht1 (by decide))).trans hc11
          have hc10 := em
          have fr : xfr _ _ [ad 8 t, ad 9 t] := xfr.rf.put em fr (Or.inl List.mem_cons_self)
          have hC9 := hC9.trans (cFr.of (ad := ad) (nu := nuc) fr (own2 (k := 8) (k' := 9) (show t < nuc 21 0 by rw [← hN 21 (by decide)]; exact ht1) (show t < nuc 21 0 by rw [← hN 21 (by decide)]; exact ht1))) (fun a ha => Or.inl ha)
          have hR3 : cRep G M12 fz ad (va_up nu1 23 (va_up (nu1 23) t 0)) sg1 := hR1.stoU (x_fz0 hC hw hR1.2.1.1) hfm1 ht1 fr (by rw [va_up_self, va_up_self]; exact hc10) hc11 ((eqx.up nu1 23 _).wide (by decide)) (fun _ _ => rfl) (by rw [va_up_self, va_up_self]; exact fun j hj => absurd hj (Nat.not_lt_zero j)) (fun i hi => ⟨by rw [va_up_self, va_up_ne _ _ hi], fun _ _ => rfl⟩)
          have hsn : stoN nu sg t = 0 := by rw [← x_stN hQ hcen e12 e13 e14, csN_f c_39]
          have hsm : sm (stoN nu sg) (t + 1) = sm (stoN nu sg) t := by show _ + stoN nu sg t = _; rw [hsn, Nat.add_zero]
          have hl : lv_has ls 6 [(3, .ref (ad 8 t)), (0, .ref (ad 14 0)), (1, .int (nI (sm (stoN nu sg) (t + 1)))), (2, .int (nI t))] := by rw [hsm]; exact hl
          refine lv_iinc (v := nI (t + 1)) (lv' := [(2, .int (nI (t + 1))), (3, .ref (ad 8 t)), (0, .ref (ad 14 0)), (1, .int (nI (sm (stoN nu sg) (t + 1))))]) hx hb d_R_cutStores_81 hl (k := 3) rfl (by exact nI_1 _) (by decide) rfl (fun ls hl => ?_)
          refine lv_goto (tgt := 4) hx hb d_R_cutStores_84 (by decide) ?_
          exact ih4 (t + 1) (va_up nu1 23 (va_up (nu1 23) t 0)) (sg1) (by omega) (by omega) (hN.trans (eqx.up nu1 23 _) (fun _ h => h) (fun _ h => h)) (hS) (x_st hQ hcen h60 e12 e13 e14 (fun z => absurd z c_39) (fun _ => ⟨va_up_self _ _ _, rfl⟩)) (up60 h601 (Nat.zero_le _)) (hok1) _ _ _ _ (hR3) (hC9) hw (lv_sub hl [2, 3, 0] rfl)
        · have c_39 := zI_1.mp c_39
          obtain ⟨rfl, hgr⟩ := hW c_39
          have hsn := stN_le en (nu1 23 t)
          refine lv_aload_n hx hb d_R_cutStores_42 rfl (lv_at hl 1 rfl) ?_
          have hc13 := hR1.rc
          refine x_callG hC (c_R_marksOfWords l G M9 (Array.size H) fz ad nu1 sg1 _ hR1 [] xfr.rf vlP.nil (stN en (nu1 23 t)) g' (by omega) (by rw [e12]; exact h4) (by rw [e13]; exact h8) h_q h_v) k_593 k_1 ⟨Nat.le_of_ble_eq_true rfl, Nat.le_of_ble_eq_true rfl⟩ ⟨Nat.le_of_ble_eq_true rfl, Nat.le_of_ble_eq_true rfl⟩ hw hl.1 (Nat.le_of_ble_eq_true rfl) d_R_cutStores_43 (x_ivV hC k_593 k_590 k_592 kp_12 (show _ ∧ _ ∧ _ = some 0 from by decide +kernel) (x_recv hC hw hc13 rfl) rfl d_R_cutStores_43) (fun rv M14 H locs hq hw => ?_) (fun _ _ _ _ _ h _ _ => h.elim)
          obtain ⟨mv, rfl, hmv, hM⟩ := hq
          have hmq : ∀ k, k < 64 → (bitP mv k ↔ iwP nu1 sg1 (sRow (sg1 24) en (60 * t)) (stN en (nu1 23 t)) k) := fun k hk => (hmv k hk).trans (iwP_c hgr)
          subst M14
          refine W.eq (g2 := F0 m 46 ls [.long mv]) rfl ?_
          refine lv_lstore (lv' := [(4, .long mv), (3, .ref (ad 8 t)), (0, .ref (ad 14 0)), (1, .int (nI (sm (stoN nu sg) t))), (2, .int (nI t))]) hx hb d_R_cutStores_46 hl (by decide) rfl (fun ls hl => ?_)
          refine lv_aload_n hx hb d_R_cutStores_48 rfl (lv_at hl 2 rfl) ?_
          refine x_get hC hw hc13 rfl 7 (by decide) (hts _ k_183) (fun _ h9 => h9) rfl d_R_cutStores_49 ?_
          refine lv_lload hx hb d_R_cutStores_52 (lv_at hl 0 rfl) ?_
          refine x_callG hC (c_C_cut l G M9 (Array.size H) (ad 12 0) (ad 13 0) (stN en (nu1 23 t)) mv g' (by omega) h_q h_v) k_621 k_6 ⟨Nat.le_of_ble_eq_true rfl, Nat.le_of_ble_eq_true rfl⟩ ⟨Nat.le_of_ble_eq_true rfl, Nat.le_of_ble_eq_true rfl⟩ hw hl.1 (Nat.le_of_ble_eq_true rfl) d_R_cutStores_54 (x_ivA (x := ⟨"RedactCheck$Codes", "cut", "(J)V"⟩) (owner := "RedactCheck$Row") hC k_618 k_670 k_671 k_620 k_672 (show _ ∧ _ ∧ _ = some 1 from by decide +kernel) (x_recv hC hw h_q rfl) rfl d_R_cutStores_54) (fun rv M15 H locs hq hw => ?_) (fun _ _ _ _ _ h _ _ => h.elim)
          obtain ⟨rfl, fC, h_q, h_v, hcut, fr⟩ := hq
          have hcq := hcut.cong (fun i hi => hmq i (by omega))
          have hkp : kp (bitP mv) (stN en (nu1 23 t)) = kp (iwP nu1 sg1 (sRow (sg1 24) en (60 * t)) (stN en (nu1 23 t))) (stN en (nu1 23 t)) := kp_c (fun i hi => hmq i (by omega))
          rw [hkp] at h_q
          have hC9 := hC9.trans (cFr.of (ad := ad) (nu := nuc) fr (own2 (k := 12) (k' := 13) Nat.zero_lt_one Nat.zero_lt_one)) (fun a ha => Or.inl ha)
          have hR1 := hR1.coU (x_fz0 hC hw hR1.2.1.1) hfm1 fr h_q h_v
          refine W.eq (g2 := F0 m 57 ls []) rfl ?_
          refine lv_aload_n hx hb d_R_cutStores_57 rfl (lv_at hl 1 rfl) ?_
          refine lv_aload_n hx hb d_R_cutStores_58 rfl (lv_at hl 2 rfl) ?_
          have hc16 := hR1.rc
          refine x_get hC hw hc16 rfl 7 (by decide) (hts _ k_183) (fun _ h9 => h9) rfl d_R_cutStores_59 ?_
          have hc17 := hR1.so (t := t) (by omega)
          obtain ⟨p18, hc18, hp18⟩ := hR1.by (t := t) (by omega)
          rw [h22] at hc17
          have hkl := kp_le (iwP nu1 sg1 (sRow (sg1 24) en (60 * t)) (stN en (nu1 23 t))) (stN en (nu1 23 t))
          have hgok : ∀ i, i < stN en (nu1 23 t) → okB (g' i) := fun i hi => by rw [hgr i hi]; exact x_sRowOk hok1 hen4 c_39 i hi
          refine x_callG hC (c_T_write l G M15 (Array.size H) (ad 8 t) (ad 9 t) (ad 12 0) (ad 13 0) (kp (iwP nu1 sg1 (sRow (sg1 24) en (60 * t)) (stN en (nu1 23 t))) (stN en (nu1 23 t))) en (nI (nu1 23 t)) p18 fC hen4 (by omega) (Nat.le_trans (stI_le hkl) h6t) (cut_ok hcq hgok) hvc hc17 hc18 h_q h_v) k_676 k_25 ⟨Nat.le_of_ble_eq_true rfl, Nat.le_of_ble_eq_true rfl⟩ ⟨Nat.le_of_ble_eq_true rfl, Nat.le_of_ble_eq_true rfl⟩ hw hl.1 (Nat.le_of_ble_eq_true rfl) d_R_cutStores_62 (x_ivV hC k_676 k_673 k_674 k_675 (show _ ∧ _ ∧ _ = some 1 from by decide +kernel) (x_recv hC hw hc17 rfl) rfl d_R_cutStores_62) (fun rv M19 H locs hq hw => ?_) (fun _ _ _ _ _ h _ _ => h.elim)
          obtain ⟨rfl, f', h_r, h_p, hwr, fr⟩ := hq
          have hC9 := hC9.trans (cFr.of (ad := ad) (nu := nuc) fr (own2 (k := 8) (k' := 9) (show t < nuc 21 0 by rw [← hN 21 (by decide)]; exact ht1) (show t < nuc 21 0 by rw [← hN 21 (by decide)]; exact ht1))) (fun a ha => Or.inl ha)
          refine W.eq (g2 := F0 m 65 ls []) rfl ?_
          have hcr : cutI (iwP nu1 sg1 (sRow (sg1 24) en (60 * t)) (stN en (nu1 23 t))) 0 (stN en (nu1 23 t)) (cV (iwP nu1 sg1 (sRow (sg1 24) en (60 * t)) (stN en (nu1 23 t))) (nI 42) (sRow (sg1 24) en (60 * t)) 0) (sRow (sg1 24) en (60 * t)) (fun j => if j < kp (iwP nu1 sg1 (sRow (sg1 24) en (60 * t)) (stN en (nu1 23 t))) (stN en (nu1 23 t)) then fC j else sRow (sg1 24) en (60 * t) j) := st_row hcq hgr
          have hmle : stI en (kp (iwP nu1 sg1 (sRow (sg1 24) en (60 * t)) (stN en (nu1 23 t))) (stN en (nu1 23 t))) ≤ nu1 23 t := stI_le hkl
          have hR3 : cRep G M19 fz ad (va_up nu1 23 (va_up (nu1 23) t (stI en (kp (iwP nu1 sg1 (sRow (sg1 24) en (60 * t)) (stN en (nu1 23 t))) (stN en (nu1 23 t)))))) (stSg sg1 t (stI en (kp (iwP nu1 sg1 (sRow (sg1 24) en (60 * t)) (stN en (nu1 23 t))) (stN en (nu1 23 t)))) f') := hR1.stoU (x_fz0 hC hw hR1.2.1.1) hfm1 ht1 fr (by rw [va_up_self, va_up_self, h22]; exact h_r) h_p ((eqx.up nu1 23 _).wide (by decide)) stSg_S (by rw [va_up_self, va_up_self]; exact fun j hj => ⟨stSg_in hj, wrS_by hwr j hj⟩) (fun i hi => ⟨by rw [va_up_self, va_up_ne _ _ hi], fun j hj => by have := h601 i; exact stSg_out (by omega)⟩)
          refine lv_iload_n hx hb d_R_cutStores_65 rfl (lv_at hl 3 rfl) ?_
          refine lv_lload hx hb d_R_cutStores_66 (lv_at hl 0 rfl) ?_
          refine x_callG hC (c_bitCount l G M19 (Array.size H) mv) k_647 k_26 ⟨Nat.le_of_ble_eq_true rfl, Nat.le_of_ble_eq_true rfl⟩ ⟨Nat.le_of_ble_eq_true rfl, Nat.le_of_ble_eq_true rfl⟩ hw hl.1 (Nat.le_of_ble_eq_true rfl) d_R_cutStores_68 (x_ivS hC k_647 k_645 k_646 k_26 (show _ ∧ _ ∧ _ = some 1 from by decide +kernel) rfl d_R_cutStores_68) (fun rv M20 H locs hq hw => ?_) (fun _ _ _ _ _ h _ _ => h.elim)
          obtain ⟨rfl, hM⟩ := hq
          subst M20
          refine W.eq (g2 := F0 m 71 ls [.int (nI (cnt (bitP mv) 64)), .int (nI (sm (stoN nu sg) t))]) rfl ?_
          refine x_vi (y := nI (stoN nu sg t)) (congrArg nI (by rw [cnt60 (n := stN en (nu1 23 t)) (by omega) hmq (fun k z => iwP_lt z), ← x_stN hQ hcen e12 e13 e14, csN_t c_39])) ?_
          refine lv_iadd hx hb d_R_cutStores_71 ?_
          refine x_vi (y := nI ((sm (stoN nu sg) t) + (stoN nu sg t))) (nI_add _ _) ?_
          refine x_vi (y := nI (sm (stoN nu sg) (t + 1))) (rfl) ?_
          refine lv_istore_n (lv' := [(1, .int (nI (sm (stoN nu sg) (t + 1)))), (4, .long mv), (3, .ref (ad 8 t)), (0, .ref (ad 14 0)), (2, .int (nI t))]) hx hb d_R_cutStores_72 rfl hl (by decide) rfl (fun ls hl => ?_)
          refine lv_goto (tgt := 81) hx hb d_R_cutStores_73 (by decide) ?_
          refine lv_iinc (v := nI (t + 1)) (lv' := [(2, .int (nI (t + 1))), (1, .int (nI (sm (stoN nu sg) (t + 1)))), (4, .long mv), (3, .ref (ad 8 t)), (0, .ref (ad 14 0))]) hx hb d_R_cutStores_81 hl (k := 4) rfl (by exact nI_1 _) (by decide) rfl (fun ls hl => ?_)
          refine lv_goto (tgt := 4) hx hb d_R_cutStores_84 (by decide) ?_
          exact ih4 (t + 1) (va_up nu1 23 (va_up (nu1 23) t (stI en (kp (iwP nu1 sg1 (sRow (sg1 24) en (60 * t)) (stN en (nu1 23 t))) (stN en (nu1 23 t)))))) (stSg sg1 t (stI en (kp (iwP nu1 sg1 (sRow (sg1 24) en (60 * t)) (stN en (nu1 23 t))) (stN en (nu1 23 t)))) f') (by omega) (by omega) (hN.trans (eqx.up nu1 23 _) (fun _ h => h) (fun _ h => h)) (hS.trans stSg_S (fun _ h => h) (fun _ h => h)) (x_st hQ hcen h60 e12 e13 e14 (fun _ => ⟨va_up_self _ _ _, st_wrI (wrS_c hwr) hcr⟩) (fun z => absurd c_39 z)) (up60 h601 (Nat.le_trans hmle h6t)) (stSg_ok hok1 (wrS_by hwr)) _ _ _ _ (hR3) (hC9) hw (lv_sub hl [4, 1, 0] rfl)
  exact HL4 (nu 21 0 + 1) (0) (nuc) (sgc) (by omega) (by omega) (eqx.rf) (eqx.rf) (⟨fun x hx => absurd hx (Nat.not_lt_zero x), fun x _ => by rw [hN0 23 (by decide)], fun j _ => by rw [hS0 24 (by decide)]⟩) ((by rw [hN0 23 (by decide)]; exact h60)) ((by rw [hS0 24 (by decide)]; exact hok)) _ _ _ _ (hR) (cFr.rf) hw (lv_sub hl [2, 1, 0] rfl)
