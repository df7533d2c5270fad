/-! marks of words, place by place -/
def iwV (nu : Nat → Nat → Nat) (sg : Nat → Nat → Int32) (row : Nat → Int32) (rs p w k : Nat) : Prop := ∃ w' p', (p' < p ∨ p' = p ∧ w' < w) ∧ w' < nu 12 0 ∧ stP nu sg row rs w' p' ∧ p' ≤ k ∧ k < p' + nu 13 w'
section IWV
variable {nu : Nat → Nat → Nat} {sg : Nat → Nat → Int32} {row : Nat → Int32} {rs p w k : Nat}
theorem iwV_0 : ¬ iwV nu sg row rs 0 0 k := by
  intro ⟨w', p', h, _⟩
  omega
theorem iwV_row : iwV nu sg row rs p (nu 12 0) k ↔ iwV nu sg row rs (p + 1) 0 k := by
  constructor
  · intro ⟨w', p', h1, h2⟩
    exact ⟨w', p', by omega, h2⟩
  · intro ⟨w', p', h1, h2, h3⟩
    exact ⟨w', p', by omega, h2, h3⟩
theorem iwV_y (hw : w < nu 12 0) (hs : stP nu sg row rs w p) : iwV nu sg row rs p (w + 1) k ↔ iwV nu sg row rs p w k ∨ (p ≤ k ∧ k < p + nu 13 w) := by
  constructor
  · intro ⟨w', p', h1, h2, h3⟩
    by_cases hz : w' = w ∧ p' = p
    · obtain ⟨rfl, rfl⟩ := hz
      exact Or.inr h3.2
    · exact Or.inl ⟨w', p', by omega, h2, h3⟩
  · rintro (⟨w', p', h1, h2⟩ | h)
    · exact ⟨w', p', by omega, h2⟩
    · exact ⟨w, p, Or.inr ⟨rfl, by omega⟩, hw, hs, h⟩
theorem iwV_n (hs : ¬ stP nu sg row rs w p) : iwV nu sg row rs p (w + 1) k ↔ iwV nu sg row rs p w k := by
  constructor
  · intro ⟨w', p', h1, h2, h3, h4⟩
    by_cases hz : w' = w ∧ p' = p
    · obtain ⟨rfl, rfl⟩ := hz
      exact absurd h3 hs
    · exact ⟨w', p', by omega, h2, h3, h4⟩
  · intro ⟨w', p', h1, h2⟩
    exact ⟨w', p', by omega, h2⟩
theorem iwV_end : iwV nu sg row rs rs 0 k ↔ iwP nu sg row rs k := by
  constructor
  · intro ⟨w', p', h1, h2, h3, h4⟩
    exact ⟨w', p', h2, h3, h4⟩
  · intro ⟨w', p', h2, h3, h4⟩
    have a := h3.1
    have b := h3.2.1
    exact ⟨w', p', by omega, h2, h3, h4⟩
theorem iw_nz (hlt : ∀ w, w < nu 12 0 → ∀ j, j < nu 13 w → ¬ sg 14 (8 * w + j) = 0) (h : iwP nu sg row rs k) : k < rs ∧ ¬ row k = 0 := by
  refine ⟨iwP_lt h, ?_⟩
  obtain ⟨w', p', h2, h3, h4, h5⟩ := h
  have e := h3.2.2 (k - p') (by omega)
  rw [show p' + (k - p') = k by omega] at e
  rw [e]
  exact hlt w' h2 _ (by omega)
/-- a row's marks -/
theorem mk_or {r : Nat} {pg dx dy : Int32} {g : Nat → Int32} (hlt : ∀ w, w < nu 12 0 → ∀ j, j < nu 13 w → ¬ sg 14 (8 * w + j) = 0) (hg : ∀ j, j < nu 1 r → g j = sg 2 (40 * r + j)) : (iwP nu sg g (nu 1 r) k ∨ (k < nu 1 r ∧ ¬ sg 2 (40 * r + k) = 0 ∧ meP sg pg (sg 3 (40 * r + k) + dx) (sg 4 (40 * r + k) + dy) (sg 5 (40 * r + k)) (nu 15 0))) ↔ mkP nu sg r pg dx dy k := by
  unfold mkP
  constructor
  · rintro (h | ⟨h1, h2, h3⟩)
    · have h' := (iwP_c hg).mp h
      obtain ⟨a, b⟩ := iw_nz hlt h
      rw [hg k a] at b
      exact ⟨a, b, Or.inl h'⟩
    · exact ⟨h1, h2, Or.inr h3⟩
  · rintro ⟨h1, h2, h3 | h3⟩
    · exact Or.inl ((iwP_c hg).mpr h3)
    · exact Or.inr ⟨h1, h2, h3⟩
end IWV
theorem mkP_lt {nu : Nat → Nat → Nat} {sg : Nat → Nat → Int32} {r k : Nat} {pg dx dy : Int32} (h : mkP nu sg r pg dx dy k) : k < nu 1 r := h.1
theorem cnt64 {P Q : Nat → Prop} {n : Nat} (hn : n ≤ 40) (h : ∀ k, k < 64 → (P k ↔ Q k)) (hq : ∀ k, Q k → k < n) : cnt P 64 = cnt Q 40 := by
  rw [cnt_c (P := P) (Q := Q) (fun k hk => h k hk)]
  exact cnt_tail (by decide) (fun k h1 h2 z => by have := hq k z; omega)
theorem any64 {mk : Int64} {Q : Nat → Prop} {n : Nat} (hn : n ≤ 40) (h : ∀ k, k < 64 → (bitP mk k ↔ Q k)) (hq : ∀ k, Q k → k < n) : ¬ mk = 0 ↔ ∃ k, k < 40 ∧ Q k := by
  constructor
  · intro hne
    refine Classical.byContradiction (fun z => hne (bitP_ext (fun i hi => ?_)))
    constructor
    · intro hb
      have hQ := (h i hi).mp hb
      exact absurd ⟨i, by have := hq i hQ; omega, hQ⟩ z
    · intro hb
      exact absurd hb (bitP_0 hi)
  · intro ⟨k, hk, hQ⟩ z
    rw [z] at h
    exact bitP_0 (show k < 64 by omega) ((h k (by omega)).mpr hQ)
theorem eq64 {a b : Int64} {P Q : Nat → Prop} {n m : Nat} (hn : n ≤ 40) (hm : m ≤ 40) (ha : ∀ k, k < 64 → (bitP a k ↔ P k)) (hb : ∀ k, k < 64 → (bitP b k ↔ Q k)) (hp : ∀ k, P k → k < n) (hq : ∀ k, Q k → k < m) : a = b ↔ ∀ k, k < 40 → (P k ↔ Q k) := by
  constructor
  · intro e k hk
    rw [← ha k (by omega), ← hb k (by omega), e]
  · intro h
    refine bitP_ext (fun i hi => ?_)
    rw [ha i hi, hb i hi]
    by_cases h40 : i < 40
    · exact h i h40
    · exact ⟨fun z => by have := hp i z; omega, fun z => by have := hq i z; omega⟩
set_option maxHeartbeats 400000 in
set_option maxRecDepth 100000 in
/-- isInArea -/
theorem c_R_isInArea (l : Launch) (G : xT) (M : xMem) (sz : Nat) (fz : Nat) (ad : Nat → Nat → Nat) (nu : Nat → Nat → Nat) (sg : Nat → Nat → Int32) (M0 : xMem) (hR : cRep G M0 fz ad nu sg) (S : List Nat) (hV : xfr M0 M S) (hSL : vlP ad nu S) (pg x y wd : Int32) (h8a : nu 15 0 ≤ 8)  : xMet l G y_R_isInArea (Cond.code y_R_isInArea b_R_isInArea 7 (Option.some Jvm.ClassFile.FieldType.boolean) :: x_tbl) { frames := 3, cells := 0, slots := 0, locals := 64 } [.ref (ad 14 0), .int pg, .int x, .int y, .int wd] M sz (fun u M' => u = some (.int (zI (meP sg pg x y wd (nu 15 0)))) ∧ M' = M) (fun _ _ => False) := by
  refine xMet.of (by decide) (Nat.le_of_ble_eq_true rfl) ?_
  intro p e s m below meth c ls hC hr hnm hno hsz hw hl
  obtain ⟨hx, hb, hown, hts, hK, hml, hlk, hz⟩ := id hC
  have hl : lv_has ls 7 [(0, .ref (ad 14 0)), (1, .int pg), (2, .int x), (3, .int y), (4, .int wd)] := hl
  refine lv_iconst (v := nI 0) hx hb d_R_isInArea_0 (by decide) ?_
  refine lv_istore (lv' := [(5, .int (nI 0)), (0, .ref (ad 14 0)), (1, .int pg), (2, .int x), (3, .int y), (4, .int wd)]) hx hb d_R_isInArea_1 hl (by decide) rfl (fun ls hl => ?_)
  have HL3 : ∀ (z3 i : Nat), i ≤ nu 15 0 → nu 15 0 + 1 ≤ i + z3 → (¬ ∃ a, a < i ∧ arP sg pg x y wd a) → ∀ (H : Heap) (locs : List Loc) (ls : Array Slot), xWd G (xA M sz) s.heap M H locs → lv_has ls 7 [(0, .ref (ad 14 0)), (1, .int pg), (2, .int x), (3, .int y), (4, .int wd), (5, .int (nI i))] → W p l e { frames := 3, cells := 0, slots := 0, locals := 64 } s m ([.ref (ad 14 0), .int pg, .int x, .int y, .int wd] : List Value).toArray below meth c H locs 0 0 (xMQ below G M sz (fun u M' => u = some (.int (zI (meP sg pg x y wd (nu 15 0)))) ∧ M' = M) (fun _ _ => False) s 0 0) (F0 m 3 ls []) := by
    intro z3
    induction z3 with
    | zero =>
      intro i  h1 h2
      omega
    | succ z3 ih3 =>
      intro i  hi3 hz3 hno H locs ls  hw hl
      refine lv_iload hx hb d_R_isInArea_3 (lv_at hl 5 rfl) ?_
      refine lv_aload_n hx hb d_R_isInArea_5 rfl (lv_at hl 0 rfl) ?_
      have hc1 := hR.rc
      have hc1 := hV.get hc1 (hR.ninS hSL (show 0 < 1 by omega) (by decide))
      refine x_get hC hw hc1 rfl 4 (by decide) (hts _ k_180) (fun _ h9 => h9) rfl d_R_isInArea_6 ?_
      obtain ⟨mc2, hc2⟩ := hR.la (k := 4) (by decide)
      have hc2 := hV.get hc2 (hR.ninS hSL (show 4 < 6 by omega) (by decide))
      refine x_callG hC (c_sizeV l G M (Array.size H) fz ad nu sg M0 hR _ hV hSL 4 (by decide)) k_212 k_4 ⟨Nat.le_of_ble_eq_true rfl, Nat.le_of_ble_eq_true rfl⟩ ⟨Nat.le_of_ble_eq_true rfl, Nat.le_of_ble_eq_true rfl⟩ hw hl.1 (Nat.le_of_ble_eq_true rfl) d_R_isInArea_9 (x_ivV hC k_212 k_209 k_210 k_211 (show _ ∧ _ ∧ _ = some 0 from by decide +kernel) (x_recv hC hw hc2 rfl) rfl d_R_isInArea_9) (fun rv M3 H locs hq hw => ?_) (fun _ _ _ _ _ h _ _ => h.elim)
      obtain ⟨rfl, hM⟩ := hq
      subst M3
      refine W.eq (g2 := F0 m 12 ls [.int (nI (nu 15 0)), .int (nI i)]) rfl ?_
      refine lv_icmp_ge (tgt := 58) hx hb d_R_isInArea_12 (by decide) (fun c_12 => ?_) (fun c_12 => ?_)
      · have c_12 := (nI_leI (by omega) (by omega)).mp c_12
        refine lv_iconst (v := nI 0) hx hb d_R_isInArea_58 (by decide) ?_
        have hke : i = nu 15 0 := by omega
        rw [hke] at hno
        exact x_zret hC hr hw (by decide +kernel) (⟨congrArg (fun z => some (Value.int z)) ((zI_f hno).symm), rfl⟩) (Nat.le_of_ble_eq_true rfl) (Nat.le_of_ble_eq_true rfl) d_R_isInArea_59
      · have c_12 := Nat.not_le.mp ((not_congr (nI_leI (by omega) (by omega))).mp c_12)
        refine lv_aload_n hx hb d_R_isInArea_15 rfl (lv_at hl 0 rfl) ?_
        refine x_get hC hw hc1 rfl 4 (by decide) (hts _ k_180) (fun _ h9 => h9) rfl d_R_isInArea_16 ?_
        refine lv_iload hx hb d_R_isInArea_19 (lv_at hl 5 rfl) ?_
        refine x_callG hC (c_getV l G M (Array.size H) fz ad nu sg M0 hR _ hV hSL 4 (by decide) (i) (show i < nu 15 0 by omega)) k_216 k_4 ⟨Nat.le_of_ble_eq_true rfl, Nat.le_of_ble_eq_true rfl⟩ ⟨Nat.le_of_ble_eq_true rfl, Nat.le_of_ble_eq_true rfl⟩ hw hl.1 (Nat.le_of_ble_eq_true rfl) d_R_isInArea_21 (x_ivV hC k_216 k_213 k_214 k_215 (show _ ∧ _ ∧ _ = some 1 from by decide +kernel) (x_recv hC hw hc2 rfl) rfl d_R_isInArea_21) (fun rv M4 H locs hq hw => ?_) (fun _ _ _ _ _ h _ _ => h.elim)
        obtain ⟨rfl, hM⟩ := hq
        subst M4
        refine W.eq (g2 := F0 m 24 ls [.ref (ad 7 i)]) rfl ?_
        have hc5 := hR.ar (a := i) (by omega)
        have hc5 := hV.get hc5 (hR.ninS hSL (show i < nu 15 0 by omega) (by decide))
        refine x_cast hC hw hc5 rfl (hts _ k_513) d_R_isInArea_24 ?_
        refine lv_astore (lv' := [(6, .ref (ad 7 i)), (0, .ref (ad 14 0)), (1, .int pg), (2, .int x), (3, .int y), (4, .int wd), (5, .int (nI i))]) hx hb d_R_isInArea_27 hl (by decide) rfl (fun ls hl => ?_)
        refine lv_aload hx hb d_R_isInArea_29 (lv_at hl 0 rfl) ?_
        refine x_get hC hw hc5 rfl 0 (by decide) (hts _ k_520) (fun _ h9 => h9) rfl d_R_isInArea_31 ?_
        refine lv_iload_n hx hb d_R_isInArea_34 rfl (lv_at hl 2 rfl) ?_
        refine lv_icmp_ne (tgt := 52) hx hb d_R_isInArea_35 (by decide) (fun c_35 => ?_) (fun c_35 => ?_)
        · refine lv_iinc (v := nI (i + 1)) (lv' := [(5, .int (nI (i + 1))), (6, .ref (ad 7 i)), (0, .ref (ad 14 0)), (1, .int pg), (2, .int x), (3, .int y), (4, .int wd)]) hx hb d_R_isInArea_52 hl (k := 6) rfl (by exact nI_1 _) (by decide) rfl (fun ls hl => ?_)
          refine lv_goto (tgt := 3) hx hb d_R_isInArea_55 (by decide) ?_
          exact ih3 (i + 1)  (by omega) (by omega) (x_exS hno (fun z => c_35 z.1)) _ _ _ hw (lv_sub hl [2, 3, 4, 5, 6, 0] rfl)
        · refine lv_aload hx hb d_R_isInArea_38 (lv_at hl 0 rfl) ?_
          refine lv_iload_n hx hb d_R_isInArea_40 rfl (lv_at hl 3 rfl) ?_
          refine lv_iload_n hx hb d_R_isInArea_41 rfl (lv_at hl 4 rfl) ?_
          refine lv_iload hx hb d_R_isInArea_42 (lv_at hl 5 rfl) ?_
          refine x_callG hC (c_A_touches l G M (Array.size H) (ad 7 i) (sg 16 i) (sg 17 i) (sg 18 i) (sg 19 i) (sg 20 i) x y wd hc5) k_606 k_24 ⟨Nat.le_of_ble_eq_true rfl, Nat.le_of_ble_eq_true rfl⟩ ⟨Nat.le_of_ble_eq_true rfl, Nat.le_of_ble_eq_true rfl⟩ hw hl.1 (Nat.le_of_ble_eq_true rfl) d_R_isInArea_44 (x_ivV hC k_606 k_603 k_604 k_605 (show _ ∧ _ ∧ _ = some 3 from by decide +kernel) (x_recv hC hw hc5 rfl) rfl d_R_isInArea_44) (fun rv M6 H locs hq hw => ?_) (fun _ _ _ _ _ h _ _ => h.elim)
          obtain ⟨rfl, hM⟩ := hq
          subst M6
          refine W.eq (g2 := F0 m 47 ls [.int (zI (toP (sg 17 i) (sg 18 i) (sg 19 i) (sg 20 i) x y wd))]) rfl ?_
          refine lv_if_eq (tgt := 52) hx hb d_R_isInArea_47 (by decide) (fun c_47 => ?_) (fun c_47 => ?_)
          · have c_47 := zI_0.mp c_47
            refine lv_iinc (v := nI (i + 1)) (lv' := [(5, .int (nI (i + 1))), (6, .ref (ad 7 i)), (0, .ref (ad 14 0)), (1, .int pg), (2, .int x), (3, .int y), (4, .int wd)]) hx hb d_R_isInArea_52 hl (k := 6) rfl (by exact nI_1 _) (by decide) rfl (fun ls hl => ?_)
            refine lv_goto (tgt := 3) hx hb d_R_isInArea_55 (by decide) ?_
            exact ih3 (i + 1)  (by omega) (by omega) (x_exS hno (fun z => c_47 z.2)) _ _ _ hw (lv_sub hl [2, 3, 4, 5, 6, 0] rfl)
          · have c_47 := zI_1.mp c_47
            refine lv_iconst (v := nI 1) hx hb d_R_isInArea_50 (by decide) ?_
            exact x_zret hC hr hw (by decide +kernel) (⟨congrArg (fun z => some (Value.int z)) ((zI_t ⟨i, by omega, c_35, c_47⟩).symm), rfl⟩) (Nat.le_of_ble_eq_true rfl) (Nat.le_of_ble_eq_true rfl) d_R_isInArea_51
  exact HL3 (nu 15 0 + 1) (0)  (by omega) (by omega) (fun ⟨a, ha, _⟩ => absurd ha (Nat.not_lt_zero a)) _ _ _ hw (lv_sub hl [1, 2, 3, 4, 5, 0] rfl)

theorem bit_no {mk : Int64} {P : Nat → Prop} {i : Nat} (h : ∀ k, k < 64 → (bitP mk k ↔ k < i ∧ P k)) (hp : ¬ P i) : ∀ k, k < 64 → (bitP mk k ↔ k < i + 1 ∧ P k) := by
  intro k hk
  rw [h k hk]
  constructor
  · intro ⟨a, b⟩
    exact ⟨by omega, b⟩
  · intro ⟨a, b⟩
    refine ⟨?_, b⟩
    by_cases hz : k = i
    · rw [hz] at b
      exact absurd b hp
    · omega
theorem bit_yes {mk : Int64} {P : Nat → Prop} {i : Nat} (hi : i < 64) (h : ∀ k, k < 64 → (bitP mk k ↔ k < i ∧ P k)) (hp : P i) : ∀ k, k < 64 → (bitP (mk ||| (1 <<< ((nI i).toInt64 &&& 63))) k ↔ k < i + 1 ∧ P k) := by
  intro k hk
  rw [bitP_or hk, h k hk, bitP_one hi hk]
  constructor
  · rintro (⟨a, b⟩ | rfl)
    · exact ⟨by omega, b⟩
    · exact ⟨by omega, hp⟩
  · intro ⟨a, b⟩
    by_cases hz : k = i
    · exact Or.inr hz
    · exact Or.inl ⟨by omega, b⟩
set_option maxHeartbeats 400000 in
set_option maxRecDepth 100000 in
/-- marksOfAreas -/
theorem c_R_marksOfAreas (l : Launch) (G : xT) (M : xMem) (sz : Nat) (fz : Nat) (ad : Nat → Nat → Nat) (nu : Nat → Nat → Nat) (sg : Nat → Nat → Int32) (M0 : xMem) (hR : cRep G M0 fz ad nu sg) (S : List Nat) (hV : xfr M0 M S) (hSL : vlP ad nu S) (r : Nat) (pg dx dy : Int32) (hrr : r < 4 + nu 6 0) (h8a : nu 15 0 ≤ 8) (h40 : nu 1 r ≤ 40)  : xMet l G y_R_marksOfAreas (Cond.code y_R_marksOfAreas b_R_marksOfAreas 8 (Option.some Jvm.ClassFile.FieldType.long) :: x_tbl) { frames := 4, cells := 0, slots := 0, locals := 90 } [.ref (ad 14 0), .ref (ad 2 r), .int pg, .int dx, .int dy] M sz (fun u M' => ∃ mk : Int64, u = some (.long mk) ∧ (∀ k, k < 64 → (bitP mk k ↔ k < nu 1 r ∧ ¬ sg 2 (40 * r + k) = 0 ∧ meP sg pg (sg 3 (40 * r + k) + dx) (sg 4 (40 * r + k) + dy) (sg 5 (40 * r + k)) (nu 15 0))) ∧ M' = M) (fun _ _ => False) := by
  refine xMet.of (by decide) (Nat.le_of_ble_eq_true rfl) ?_
  intro p e s m below meth c ls hC hr hnm hno hsz hw hl
  obtain ⟨hx, hb, hown, hts, hK, hml, hlk, hz⟩ := id hC
  have hl : lv_has ls 8 [(0, .ref (ad 14 0)), (1, .ref (ad 2 r)), (2, .int pg), (3, .int dx), (4, .int dy)] := hl
  refine lv_lconst (v := 0) hx hb d_R_marksOfAreas_0 (by decide) ?_
  refine lv_lstore (lv' := [(5, .long 0), (0, .ref (ad 14 0)), (1, .ref (ad 2 r)), (2, .int pg), (3, .int dx), (4, .int dy)]) hx hb d_R_marksOfAreas_1 hl (by decide) rfl (fun ls hl => ?_)
  refine lv_iconst (v := nI 0) hx hb d_R_marksOfAreas_3 (by decide) ?_
  refine lv_istore (lv' := [(7, .int (nI 0)), (5, .long 0), (0, .ref (ad 14 0)), (1, .ref (ad 2 r)), (2, .int pg), (3, .int dx), (4, .int dy)]) hx hb d_R_marksOfAreas_4 hl (by decide) rfl (fun ls hl => ?_)
  have HL6 : ∀ (z6 i : Nat) (mk : Int64), i ≤ nu 1 r → nu 1 r + 1 ≤ i + z6 → (∀ k, k < 64 → (bitP mk k ↔ k < i ∧ ¬ sg 2 (40 * r + k) = 0 ∧ meP sg pg (sg 3 (40 * r + k) + dx) (sg 4 (40 * r + k) + dy) (sg 5 (40 * r + k)) (nu 15 0))) → ∀ (H : Heap) (locs : List Loc) (ls : Array Slot), xWd G (xA M sz) s.heap M H locs → lv_has ls 8 [(0, .ref (ad 14 0)), (1, .ref (ad 2 r)), (2, .int pg), (3, .int dx), (4, .int dy), (5, .long mk), (7, .int (nI i))] → W p l e { frames := 4, cells := 0, slots := 0, locals := 90 } s m ([.ref (ad 14 0), .ref (ad 2 r), .int pg, .int dx, .int dy] : List Value).toArray below meth c H locs 0 0 (xMQ below G M sz (fun u M' => ∃ mk : Int64, u = some (.long mk) ∧ (∀ k, k < 64 → (bitP mk k ↔ k < nu 1 r ∧ ¬ sg 2 (40 * r + k) = 0 ∧ meP sg pg (sg 3 (40 * r + k) + dx) (sg 4 (40 * r + k) + dy) (sg 5 (40 * r + k)) (nu 15 0))) ∧ M' = M) (fun _ _ => False) s 0 0) (F0 m 6 ls []) := by
    intro z6
    induction z6 with
    | zero =>
      intro i mk h1 h2
      omega
    | succ z6 ih6 =>
      intro i mk hi6 hz6 hm H locs ls  hw hl
      refine lv_iload hx hb d_R_marksOfAreas_6 (lv_at hl 6 rfl) ?_
      refine lv_aload_n hx hb d_R_marksOfAreas_8 rfl (lv_at hl 1 rfl) ?_
      have hc1 := hR.row (r := r) (by omega)
      have hc1 := hV.get hc1 (hR.ninS hSL (show r < 4 + nu 6 0 by omega) (by decide))
      refine x_get hC hw hc1 rfl 2 (by decide) (hts _ k_94) (u_same (hts _ k_87)) rfl d_R_marksOfAreas_9 ?_
      refine lv_icmp_ge (tgt := 74) hx hb d_R_marksOfAreas_12 (by decide) (fun c_12 => ?_) (fun c_12 => ?_)
      · have c_12 := (nI_leI (by omega) (by omega)).mp c_12
        refine lv_lload hx hb d_R_marksOfAreas_74 (lv_at hl 5 rfl) ?_
        have hke : i = nu 1 r := by omega
        rw [hke] at hm
        exact x_lret hC hr hw (⟨mk, rfl, hm, rfl⟩) (Nat.le_of_ble_eq_true rfl) (Nat.le_of_ble_eq_true rfl) d_R_marksOfAreas_76
      · have c_12 := Nat.not_le.mp ((not_congr (nI_leI (by omega) (by omega))).mp c_12)
        refine lv_aload_n hx hb d_R_marksOfAreas_15 rfl (lv_at hl 1 rfl) ?_
        refine lv_iload hx hb d_R_marksOfAreas_16 (lv_at hl 6 rfl) ?_
        refine lv_iconst (v := nI 0) hx hb d_R_marksOfAreas_18 (by decide) ?_
        obtain ⟨p2, hc2, hp2⟩ := hR.pa (r := r) (by omega)
        have hc2 := hV.get hc2 (hR.ninS hSL (show r < 4 + nu 6 0 by omega) (by decide))
        refine x_callG hC (c_S_part l G M (Array.size H) (ad 2 r) (ad 3 r) i 0 (nI (nu 1 r)) (nI (nmb r)) p2 (by omega) (by omega) hc1 hc2) k_234 k_8 ⟨Nat.le_of_ble_eq_true rfl, Nat.le_of_ble_eq_true rfl⟩ ⟨Nat.le_of_ble_eq_true rfl, Nat.le_of_ble_eq_true rfl⟩ hw hl.1 (Nat.le_of_ble_eq_true rfl) d_R_marksOfAreas_19 (x_ivV hC k_234 k_598 k_232 k_233 (show _ ∧ _ ∧ _ = some 2 from by decide +kernel) (x_recv hC hw hc1 rfl) rfl d_R_marksOfAreas_19) (fun rv M3 H locs hq hw => ?_) (fun _ _ _ _ _ h _ _ => h.elim)
        obtain ⟨rfl, hM⟩ := hq
        subst M3
        refine W.eq (g2 := F0 m 22 ls [.int (p2 (i * 4 + 0))]) rfl ?_
        refine x_vi (y := sg 2 (40 * r + i)) ((hp2 i (by omega)).1) ?_
        refine lv_if_eq (tgt := 68) hx hb d_R_marksOfAreas_22 (by decide) (fun c_22 => ?_) (fun c_22 => ?_)
        · refine lv_iinc (v := nI (i + 1)) (lv' := [(7, .int (nI (i + 1))), (0, .ref (ad 14 0)), (1, .ref (ad 2 r)), (2, .int pg), (3, .int dx), (4, .int dy), (5, .long mk)]) hx hb d_R_marksOfAreas_68 hl (k := 6) rfl (by exact nI_1 _) (by decide) rfl (fun ls hl => ?_)
          refine lv_goto (tgt := 6) hx hb d_R_marksOfAreas_71 (by decide) ?_
          exact ih6 (i + 1) (mk) (by omega) (by omega) (bit_no hm (fun z => z.1 c_22)) _ _ _ hw (lv_sub hl [1, 2, 3, 4, 5, 6, 0] rfl)
        · refine lv_aload_n hx hb d_R_marksOfAreas_25 rfl (lv_at hl 0 rfl) ?_
          refine lv_iload_n hx hb d_R_marksOfAreas_26 rfl (lv_at hl 2 rfl) ?_
          refine lv_aload_n hx hb d_R_marksOfAreas_27 rfl (lv_at hl 1 rfl) ?_
          refine lv_iload hx hb d_R_marksOfAreas_28 (lv_at hl 6 rfl) ?_
          refine lv_iconst (v := nI 1) hx hb d_R_marksOfAreas_30 (by decide) ?_
          refine x_callG hC (c_S_part l G M (Array.size H) (ad 2 r) (ad 3 r) i 1 (nI (nu 1 r)) (nI (nmb r)) p2 (by omega) (by omega) hc1 hc2) k_234 k_8 ⟨Nat.le_of_ble_eq_true rfl, Nat.le_of_ble_eq_true rfl⟩ ⟨Nat.le_of_ble_eq_true rfl, Nat.le_of_ble_eq_true rfl⟩ hw hl.1 (Nat.le_of_ble_eq_true rfl) d_R_marksOfAreas_31 (x_ivV hC k_234 k_598 k_232 k_233 (show _ ∧ _ ∧ _ = some 2 from by decide +kernel) (x_recv hC hw hc1 rfl) rfl d_R_marksOfAreas_31) (fun rv M4 H locs hq hw => ?_) (fun _ _ _ _ _ h _ _ => h.elim)
          obtain ⟨rfl, hM⟩ := hq
          subst M4
          refine W.eq (g2 := F0 m 34 ls [.int (p2 (i * 4 + 1)), .int pg, .ref (ad 14 0)]) rfl ?_
          refine x_vi (y := sg 3 (40 * r + i)) ((hp2 i (by omega)).2.1) ?_
          refine lv_iload_n hx hb d_R_marksOfAreas_34 rfl (lv_at hl 3 rfl) ?_
          refine lv_iadd hx hb d_R_marksOfAreas_35 ?_
          refine lv_aload_n hx hb d_R_marksOfAreas_36 rfl (lv_at hl 1 rfl) ?_
          refine lv_iload hx hb d_R_marksOfAreas_37 (lv_at hl 6 rfl) ?_
          refine lv_iconst (v := nI 2) hx hb d_R_marksOfAreas_39 (by decide) ?_
          refine x_callG hC (c_S_part l G M (Array.size H) (ad 2 r) (ad 3 r) i 2 (nI (nu 1 r)) (nI (nmb r)) p2 (by omega) (by omega) hc1 hc2) k_234 k_8 ⟨Nat.le_of_ble_eq_true rfl, Nat.le_of_ble_eq_true rfl⟩ ⟨Nat.le_of_ble_eq_true rfl, Nat.le_of_ble_eq_true rfl⟩ hw hl.1 (Nat.le_of_ble_eq_true rfl) d_R_marksOfAreas_40 (x_ivV hC k_234 k_598 k_232 k_233 (show _ ∧ _ ∧ _ = some 2 from by decide +kernel) (x_recv hC hw hc1 rfl) rfl d_R_marksOfAreas_40) (fun rv M5 H locs hq hw => ?_) (fun _ _ _ _ _ h _ _ => h.elim)
          obtain ⟨rfl, hM⟩ := hq
          subst M5
          refine W.eq (g2 := F0 m 43 ls [.int (p2 (i * 4 + 2)), .int (sg 3 (40 * r + i) + dx), .int pg, .ref (ad 14 0)]) rfl ?_
          refine x_vi (y := sg 4 (40 * r + i)) ((hp2 i (by omega)).2.2.1) ?_
          refine lv_iload hx hb d_R_marksOfAreas_43 (lv_at hl 4 rfl) ?_
          refine lv_iadd hx hb d_R_marksOfAreas_45 ?_
          refine lv_aload_n hx hb d_R_marksOfAreas_46 rfl (lv_at hl 1 rfl) ?_
          refine lv_iload hx hb d_R_marksOfAreas_47 (lv_at hl 6 rfl) ?_
          refine lv_iconst (v := nI 3) hx hb d_R_marksOfAreas_49 (by decide) ?_
          refine x_callG hC (c_S_part l G M (Array.size H) (ad 2 r) (ad 3 r) i 3 (nI (nu 1 r)) (nI (nmb r)) p2 (by omega) (by omega) hc1 hc2) k_234 k_8 ⟨Nat.le_of_ble_eq_true rfl, Nat.le_of_ble_eq_true rfl⟩ ⟨Nat.le_of_ble_eq_true rfl, Nat.le_of_ble_eq_true rfl⟩ hw hl.1 (Nat.le_of_ble_eq_true rfl) d_R_marksOfAreas_50 (x_ivV hC k_234 k_598 k_232 k_233 (show _ ∧ _ ∧ _ = some 2 from by decide +kernel) (x_recv hC hw hc1 rfl) rfl d_R_marksOfAreas_50) (fun rv M6 H locs hq hw => ?_) (fun _ _ _ _ _ h _ _ => h.elim)
          obtain ⟨rfl, hM⟩ := hq
          subst M6
          refine W.eq (g2 := F0 m 53 ls [.int (p2 (i * 4 + 3)), .int (sg 4 (40 * r + i) + dy), .int (sg 3 (40 * r + i) + dx), .int pg, .ref (ad 14 0)]) rfl ?_
          refine x_vi (y := sg 5 (40 * r + i)) ((hp2 i (by omega)).2.2.2) ?_
          have hc7 := hR.rc
          have hc7 := hV.get hc7 (hR.ninS hSL (show 0 < 1 by omega) (by decide))
          refine x_callG hC (c_R_isInArea l G M (Array.size H) fz ad nu sg M0 hR _ hV hSL pg (sg 3 (40 * r + i) + dx) (sg 4 (40 * r + i) + dy) (sg 5 (40 * r + i)) h8a) k_602 k_1 ⟨Nat.le_of_ble_eq_true rfl, Nat.le_of_ble_eq_true rfl⟩ ⟨Nat.le_of_ble_eq_true rfl, Nat.le_of_ble_eq_true rfl⟩ hw hl.1 (Nat.le_of_ble_eq_true rfl) d_R_marksOfAreas_53 (x_ivV hC k_602 k_599 k_601 kp_14 (show _ ∧ _ ∧ _ = some 4 from by decide +kernel) (x_recv hC hw hc7 rfl) rfl d_R_marksOfAreas_53) (fun rv M8 H locs hq hw => ?_) (fun _ _ _ _ _ h _ _ => h.elim)
          obtain ⟨rfl, hM⟩ := hq
          subst M8
          refine W.eq (g2 := F0 m 56 ls [.int (zI (meP sg pg (sg 3 (40 * r + i) + dx) (sg 4 (40 * r + i) + dy) (sg 5 (40 * r + i)) (nu 15 0)))]) rfl ?_
          refine lv_if_eq (tgt := 68) hx hb d_R_marksOfAreas_56 (by decide) (fun c_56 => ?_) (fun c_56 => ?_)
          · have c_56 := zI_0.mp c_56
            refine lv_iinc (v := nI (i + 1)) (lv' := [(7, .int (nI (i + 1))), (0, .ref (ad 14 0)), (1, .ref (ad 2 r)), (2, .int pg), (3, .int dx), (4, .int dy), (5, .long mk)]) hx hb d_R_marksOfAreas_68 hl (k := 6) rfl (by exact nI_1 _) (by decide) rfl (fun ls hl => ?_)
            refine lv_goto (tgt := 6) hx hb d_R_marksOfAreas_71 (by decide) ?_
            exact ih6 (i + 1) (mk) (by omega) (by omega) (bit_no hm (fun z => c_56 z.2)) _ _ _ hw (lv_sub hl [1, 2, 3, 4, 5, 6, 0] rfl)
          · have c_56 := zI_1.mp c_56
            refine lv_lload hx hb d_R_marksOfAreas_59 (lv_at hl 5 rfl) ?_
            refine lv_lconst (v := 1) hx hb d_R_marksOfAreas_61 (by decide) ?_
            refine lv_iload hx hb d_R_marksOfAreas_62 (lv_at hl 6 rfl) ?_
            refine lv_lshl (v := (1 <<< (Int32.toInt64 (nI i) &&& 63))) hx hb d_R_marksOfAreas_64 rfl ?_
            refine lv_lor hx hb d_R_marksOfAreas_65 ?_
            refine lv_lstore (lv' := [(5, .long (mk ||| (1 <<< (Int32.toInt64 (nI i) &&& 63)))), (0, .ref (ad 14 0)), (1, .ref (ad 2 r)), (2, .int pg), (3, .int dx), (4, .int dy), (7, .int (nI i))]) hx hb d_R_marksOfAreas_66 hl (by decide) rfl (fun ls hl => ?_)
            refine lv_iinc (v := nI (i + 1)) (lv' := [(7, .int (nI (i + 1))), (5, .long (mk ||| (1 <<< (Int32.toInt64 (nI i) &&& 63)))), (0, .ref (ad 14 0)), (1, .ref (ad 2 r)), (2, .int pg), (3, .int dx), (4, .int dy)]) hx hb d_R_marksOfAreas_68 hl (k := 6) rfl (by exact nI_1 _) (by decide) rfl (fun ls hl => ?_)
            refine lv_goto (tgt := 6) hx hb d_R_marksOfAreas_71 (by decide) ?_
            exact ih6 (i + 1) ((mk ||| (1 <<< (Int32.toInt64 (nI i) &&& 63)))) (by omega) (by omega) (bit_yes (by omega) hm ⟨c_22, c_56⟩) _ _ _ hw (lv_sub hl [2, 3, 4, 5, 6, 1, 0] rfl)
  exact HL6 (nu 1 r + 1) (0) (0) (by omega) (by omega) (fun k hk => ⟨fun z => absurd z (bitP_0 hk), fun z => absurd z.1 (Nat.not_lt_zero k)⟩) _ _ _ hw (lv_sub hl [2, 3, 4, 5, 6, 1, 0] rfl)

theorem bit_run {mk : Int64} {A B : Nat → Prop} {n p : Nat} (hn : p + n ≤ 60) (h : ∀ k, k < 64 → (bitP mk k ↔ A k)) (hb : ∀ k, B k ↔ A k ∨ (p ≤ k ∧ k < p + n)) : ∀ k, k < 64 → (bitP (mk ||| (((1 <<< ((nI n).toInt64 &&& 63)) - 1) <<< ((nI p).toInt64 &&& 63))) k ↔ B k) := by
  intro k hk
  rw [bitP_or hk, h k hk, bitP_run (by omega) (by omega) hk, hb k]
set_option maxHeartbeats 400000 in
set_option maxRecDepth 100000 in
/-- marksOfWords -/
theorem c_R_marksOfWords (l : Launch) (G : xT) (M : xMem) (sz : Nat) (fz : Nat) (ad : Nat → Nat → Nat) (nu : Nat → Nat → Nat) (sg : Nat → Nat → Int32) (M0 : xMem) (hR : cRep G M0 fz ad nu sg) (S : List Nat) (hV : xfr M0 M S) (hSL : vlP ad nu S) (rs : Nat) (g : Nat → Int32) (hrs : rs ≤ 60) (h4 : nu 12 0 ≤ 4) (h8 : ∀ w, nu 13 w ≤ 8) (h_q : M (ad 12 0) = some (.inr (2, [.ref (ad 13 0), .int (nI rs)]))) (h_v : M (ad 13 0) = some (.inl (G.2.1 0, 60, .inl g))) : xMet l G y_R_marksOfWords (Cond.code y_R_marksOfWords b_R_marksOfWords 6 (Option.some Jvm.ClassFile.FieldType.long) :: x_tbl) { frames := 3, cells := 0, slots := 0, locals := 64 } [.ref (ad 14 0)] M sz (fun u M' => ∃ mk : Int64, u = some (.long mk) ∧ (∀ k, k < 64 → (bitP mk k ↔ iwP nu sg g rs k)) ∧ M' = M) (fun _ _ => False) := by
  refine xMet.of (by decide) (Nat.le_of_ble_eq_true rfl) ?_
  intro p e s m below meth c ls hC hr hnm hno hsz hw hl
  obtain ⟨hx, hb, hown, hts, hK, hml, hlk, hz⟩ := id hC
  have hl : lv_has ls 6 [(0, .ref (ad 14 0))] := hl
  refine lv_lconst (v := 0) hx hb d_R_marksOfWords_0 (by decide) ?_
  refine lv_lstore_n (lv' := [(1, .long 0), (0, .ref (ad 14 0))]) hx hb d_R_marksOfWords_1 rfl hl (by decide) rfl (fun ls hl => ?_)
  refine lv_iconst (v := nI 0) hx hb d_R_marksOfWords_2 (by decide) ?_
  refine lv_istore_n (lv' := [(3, .int (nI 0)), (1, .long 0), (0, .ref (ad 14 0))]) hx hb d_R_marksOfWords_3 rfl hl (by decide) rfl (fun ls hl => ?_)
  have HL4 : ∀ (z4 pl : Nat) (mk : Int64), pl ≤ rs → rs + 1 ≤ pl + z4 → (∀ k, k < 64 → (bitP mk k ↔ iwV nu sg g rs pl 0 k)) → ∀ (H : Heap) (locs : List Loc) (ls : Array Slot), xWd G (xA M sz) s.heap M H locs → lv_has ls 6 [(0, .ref (ad 14 0)), (1, .long mk), (3, .int (nI pl))] → W p l e { frames := 3, cells := 0, slots := 0, locals := 64 } s m ([.ref (ad 14 0)] : List Value).toArray below meth c H locs 0 0 (xMQ below G M sz (fun u M' => ∃ mk : Int64, u = some (.long mk) ∧ (∀ k, k < 64 → (bitP mk k ↔ iwP nu sg g rs k)) ∧ M' = M) (fun _ _ => False) s 0 0) (F0 m 4 ls []) := by
    intro z4
    induction z4 with
    | zero =>
      intro pl mk h1 h2
      omega
    | succ z4 ih4 =>
      intro pl mk hi4 hz4 hm H locs ls  hw hl
      refine lv_iload_n hx hb d_R_marksOfWords_4 rfl (lv_at hl 2 rfl) ?_
      refine lv_aload_n hx hb d_R_marksOfWords_5 rfl (lv_at hl 0 rfl) ?_
      have hc1 := hR.rc
      have hc1 := hV.get hc1 (hR.ninS hSL (show 0 < 1 by omega) (by decide))
      refine x_get hC hw hc1 rfl 7 (by decide) (hts _ k_183) (fun _ h9 => h9) rfl d_R_marksOfWords_6 ?_
      refine x_get hC hw h_q rfl 1 (by decide) (hts _ k_95) (u_same (hts _ k_89)) rfl d_R_marksOfWords_9 ?_
      refine lv_icmp_ge (tgt := 83) hx hb d_R_marksOfWords_12 (by decide) (fun c_12 => ?_) (fun c_12 => ?_)
      · have c_12 := (nI_leI (by omega) (by omega)).mp c_12
        refine lv_lload_n hx hb d_R_marksOfWords_83 rfl (lv_at hl 1 rfl) ?_
        obtain rfl : pl = rs := by omega
        exact x_lret hC hr hw (⟨mk, rfl, fun k hk => (hm k hk).trans iwV_end, rfl⟩) (Nat.le_of_ble_eq_true rfl) (Nat.le_of_ble_eq_true rfl) d_R_marksOfWords_84
      · have c_12 := Nat.not_le.mp ((not_congr (nI_leI (by omega) (by omega))).mp c_12)
        refine lv_iconst (v := nI 0) hx hb d_R_marksOfWords_15 (by decide) ?_
        refine lv_istore (lv' := [(4, .int (nI 0)), (0, .ref (ad 14 0)), (1, .long mk), (3, .int (nI pl))]) hx hb d_R_marksOfWords_16 hl (by decide) rfl (fun ls hl => ?_)
        have HL18 : ∀ (z18 w : Nat) (mq : Int64), w ≤ nu 12 0 → nu 12 0 + 1 ≤ w + z18 → (∀ k, k < 64 → (bitP mq k ↔ iwV nu sg g rs pl w k)) → ∀ (H : Heap) (locs : List Loc) (ls : Array Slot), xWd G (xA M sz) s.heap M H locs → lv_has ls 6 [(0, .ref (ad 14 0)), (1, .long mq), (3, .int (nI pl)), (4, .int (nI w))] → W p l e { frames := 3, cells := 0, slots := 0, locals := 64 } s m ([.ref (ad 14 0)] : List Value).toArray below meth c H locs 0 0 (xMQ below G M sz (fun u M' => ∃ mk : Int64, u = some (.long mk) ∧ (∀ k, k < 64 → (bitP mk k ↔ iwP nu sg g rs k)) ∧ M' = M) (fun _ _ => False) s 0 0) (F0 m 18 ls []) := by
          intro z18
          induction z18 with
          | zero =>
            intro w mq h1 h2
            omega
          | succ z18 ih18 =>
            intro w mq hi18 hz18 hn H locs ls  hw hl
            refine lv_iload hx hb d_R_marksOfWords_18 (lv_at hl 3 rfl) ?_
            refine lv_aload_n hx hb d_R_marksOfWords_20 rfl (lv_at hl 0 rfl) ?_
            refine x_get hC hw hc1 rfl 3 (by decide) (hts _ k_179) (fun _ h9 => h9) rfl d_R_marksOfWords_21 ?_
            obtain ⟨mc2, hc2⟩ := hR.la (k := 3) (by decide)
            have hc2 := hV.get hc2 (hR.ninS hSL (show 3 < 6 by omega) (by decide))
            refine x_callG hC (c_sizeV l G M (Array.size H) fz ad nu sg M0 hR _ hV hSL 3 (by decide)) k_212 k_4 ⟨Nat.le_of_ble_eq_true rfl, Nat.le_of_ble_eq_true rfl⟩ ⟨Nat.le_of_ble_eq_true rfl, Nat.le_of_ble_eq_true rfl⟩ hw hl.1 (Nat.le_of_ble_eq_true rfl) d_R_marksOfWords_24 (x_ivV hC k_212 k_209 k_210 k_211 (show _ ∧ _ ∧ _ = some 0 from by decide +kernel) (x_recv hC hw hc2 rfl) rfl d_R_marksOfWords_24) (fun rv M3 H locs hq hw => ?_) (fun _ _ _ _ _ h _ _ => h.elim)
            obtain ⟨rfl, hM⟩ := hq
            subst M3
            refine W.eq (g2 := F0 m 27 ls [.int (nI (nu 12 0)), .int (nI w)]) rfl ?_
            refine lv_icmp_ge (tgt := 77) hx hb d_R_marksOfWords_27 (by decide) (fun c_27 => ?_) (fun c_27 => ?_)
            · have c_27 := (nI_leI (by omega) (by omega)).mp c_27
              have hke : w = nu 12 0 := by omega
              subst hke
              have hl : lv_has ls 6 [(0, .ref (ad 14 0)), (1, .long mq), (3, .int (nI pl))] := lv_sub hl [0, 1, 2] rfl
              refine lv_iinc (v := nI (pl + 1)) (lv' := [(3, .int (nI (pl + 1))), (0, .ref (ad 14 0)), (1, .long mq)]) hx hb d_R_marksOfWords_77 hl (k := 2) rfl (by exact nI_1 _) (by decide) rfl (fun ls hl => ?_)
              refine lv_goto (tgt := 4) hx hb d_R_marksOfWords_80 (by decide) ?_
              exact ih4 (pl + 1) (mq) (by omega) (by omega) (fun k hk => (hn k hk).trans iwV_row) _ _ _ hw (lv_sub hl [1, 2, 0] rfl)
            · have c_27 := Nat.not_le.mp ((not_congr (nI_leI (by omega) (by omega))).mp c_27)
              refine lv_aload_n hx hb d_R_marksOfWords_30 rfl (lv_at hl 0 rfl) ?_
              refine x_get hC hw hc1 rfl 3 (by decide) (hts _ k_179) (fun _ h9 => h9) rfl d_R_marksOfWords_31 ?_
              refine lv_iload hx hb d_R_marksOfWords_34 (lv_at hl 3 rfl) ?_
              refine x_callG hC (c_getV l G M (Array.size H) fz ad nu sg M0 hR _ hV hSL 3 (by decide) (w) (show w < nu 12 0 by omega)) k_216 k_4 ⟨Nat.le_of_ble_eq_true rfl, Nat.le_of_ble_eq_true rfl⟩ ⟨Nat.le_of_ble_eq_true rfl, Nat.le_of_ble_eq_true rfl⟩ hw hl.1 (Nat.le_of_ble_eq_true rfl) d_R_marksOfWords_36 (x_ivV hC k_216 k_213 k_214 k_215 (show _ ∧ _ ∧ _ = some 1 from by decide +kernel) (x_recv hC hw hc2 rfl) rfl d_R_marksOfWords_36) (fun rv M4 H locs hq hw => ?_) (fun _ _ _ _ _ h _ _ => h.elim)
              obtain ⟨rfl, hM⟩ := hq
              subst M4
              refine W.eq (g2 := F0 m 39 ls [.ref (ad 5 w)]) rfl ?_
              have hc5 := hR.wo (w := w) (by omega)
              have hc5 := hV.get hc5 (hR.ninS hSL (show w < nu 12 0 by omega) (by decide))
              refine x_cast hC hw hc5 rfl (hts _ k_243) d_R_marksOfWords_39 ?_
              refine lv_astore (lv' := [(5, .ref (ad 5 w)), (0, .ref (ad 14 0)), (1, .long mq), (3, .int (nI pl)), (4, .int (nI w))]) hx hb d_R_marksOfWords_42 hl (by decide) rfl (fun ls hl => ?_)
              refine lv_aload hx hb d_R_marksOfWords_44 (lv_at hl 0 rfl) ?_
              refine lv_aload_n hx hb d_R_marksOfWords_46 rfl (lv_at hl 1 rfl) ?_
              refine x_get hC hw hc1 rfl 7 (by decide) (hts _ k_183) (fun _ h9 => h9) rfl d_R_marksOfWords_47 ?_
              refine lv_iload_n hx hb d_R_marksOfWords_50 rfl (lv_at hl 3 rfl) ?_
              obtain ⟨p6, hc6, hp6⟩ := hR.lt (w := w) (by omega)
              have hc6 := hV.get hc6 (hR.ninS hSL (show w < nu 12 0 by omega) (by decide))
              have h8w := h8 w
              refine x_callG hC (c_D_standsIn l G M (Array.size H) (ad 5 w) (ad 6 w) (ad 12 0) (ad 13 0) (nu 13 w) rs pl p6 g (by omega) (by omega) (by omega) hc5 hc6 h_q h_v) k_247 k_23 ⟨Nat.le_of_ble_eq_true rfl, Nat.le_of_ble_eq_true rfl⟩ ⟨Nat.le_of_ble_eq_true rfl, Nat.le_of_ble_eq_true rfl⟩ hw hl.1 (Nat.le_of_ble_eq_true rfl) d_R_marksOfWords_51 (x_ivV hC k_247 k_244 k_245 k_246 (show _ ∧ _ ∧ _ = some 2 from by decide +kernel) (x_recv hC hw hc5 rfl) rfl d_R_marksOfWords_51) (fun rv M7 H locs hq hw => ?_) (fun _ _ _ _ _ h _ _ => h.elim)
              obtain ⟨rfl, hM⟩ := hq
              subst M7
              refine W.eq (g2 := F0 m 54 ls [.int (zI (swP (nu 13 w) p6 g rs pl))]) rfl ?_
              refine x_vi (y := zI (stP nu sg g rs w pl)) (zI_c (sw_st hp6)) ?_
              refine lv_if_eq (tgt := 71) hx hb d_R_marksOfWords_54 (by decide) (fun c_54 => ?_) (fun c_54 => ?_)
              · have c_54 := zI_0.mp c_54
                refine lv_iinc (v := nI (w + 1)) (lv' := [(4, .int (nI (w + 1))), (5, .ref (ad 5 w)), (0, .ref (ad 14 0)), (1, .long mq), (3, .int (nI pl))]) hx hb d_R_marksOfWords_71 hl (k := 4) rfl (by exact nI_1 _) (by decide) rfl (fun ls hl => ?_)
                refine lv_goto (tgt := 18) hx hb d_R_marksOfWords_74 (by decide) ?_
                exact ih18 (w + 1) (mq) (by omega) (by omega) (fun k hk => (hn k hk).trans (iwV_n c_54).symm) _ _ _ hw (lv_sub hl [2, 3, 4, 0] rfl)
              · have c_54 := zI_1.mp c_54
                refine lv_lload_n hx hb d_R_marksOfWords_57 rfl (lv_at hl 2 rfl) ?_
                refine lv_lconst (v := 1) hx hb d_R_marksOfWords_58 (by decide) ?_
                refine lv_aload hx hb d_R_marksOfWords_59 (lv_at hl 0 rfl) ?_
                refine x_get hC hw hc5 rfl 0 (by decide) (hts _ k_482) (fun _ h9 => h9) rfl d_R_marksOfWords_61 ?_
                refine lv_lshl (v := (1 <<< (Int32.toInt64 (nI (nu 13 w)) &&& 63))) hx hb d_R_marksOfWords_64 rfl ?_
                refine lv_lconst (v := 1) hx hb d_R_marksOfWords_65 (by decide) ?_
                refine lv_lsub hx hb d_R_marksOfWords_66 ?_
                refine lv_iload_n hx hb d_R_marksOfWords_67 rfl (lv_at hl 3 rfl) ?_
                refine lv_lshl (v := (((1 <<< (Int32.toInt64 (nI (nu 13 w)) &&& 63)) - 1) <<< (Int32.toInt64 (nI pl) &&& 63))) hx hb d_R_marksOfWords_68 rfl ?_
                refine lv_lor hx hb d_R_marksOfWords_69 ?_
                refine lv_lstore_n (lv' := [(1, .long (mq ||| (((1 <<< (Int32.toInt64 (nI (nu 13 w)) &&& 63)) - 1) <<< (Int32.toInt64 (nI pl) &&& 63)))), (5, .ref (ad 5 w)), (0, .ref (ad 14 0)), (3, .int (nI pl)), (4, .int (nI w))]) hx hb d_R_marksOfWords_70 rfl hl (by decide) rfl (fun ls hl => ?_)
                refine lv_iinc (v := nI (w + 1)) (lv' := [(4, .int (nI (w + 1))), (1, .long (mq ||| (((1 <<< (Int32.toInt64 (nI (nu 13 w)) &&& 63)) - 1) <<< (Int32.toInt64 (nI pl) &&& 63)))), (5, .ref (ad 5 w)), (0, .ref (ad 14 0)), (3, .int (nI pl))]) hx hb d_R_marksOfWords_71 hl (k := 4) rfl (by exact nI_1 _) (by decide) rfl (fun ls hl => ?_)
                refine lv_goto (tgt := 18) hx hb d_R_marksOfWords_74 (by decide) ?_
                exact ih18 (w + 1) ((mq ||| (((1 <<< (Int32.toInt64 (nI (nu 13 w)) &&& 63)) - 1) <<< (Int32.toInt64 (nI pl) &&& 63)))) (by omega) (by omega) (bit_run (by have := c_54.2.1; omega) hn (fun k => iwV_y (by omega) c_54)) _ _ _ hw (lv_sub hl [3, 1, 4, 0] rfl)
        exact HL18 (nu 12 0 + 1) (0) (mk) (by omega) (by omega) (hm) _ _ _ hw (lv_sub hl [1, 2, 3, 0] rfl)
  exact HL4 (rs + 1) (0) (0) (by omega) (by omega) (fun k hk => ⟨fun z => absurd z (bitP_0 hk), fun z => absurd z iwV_0⟩) _ _ _ hw (lv_sub hl [2, 1, 0] rfl)

set_option maxHeartbeats 400000 in
set_option maxRecDepth 100000 in
/-- marksOf -/
theorem c_R_marksOf (l : Launch) (G : xT) (M : xMem) (sz : Nat) (fz : Nat) (ad : Nat → Nat → Nat) (nu : Nat → Nat → Nat) (sg : Nat → Nat → Int32) (M0 : xMem) (hR : cRep G M0 fz ad nu sg) (S : List Nat) (hV : xfr M0 M S) (hSL : vlP ad nu S) (r : Nat) (pg dx dy k0 : Int32) (g0 : Nat → Int32) (hrr : r < 4 + nu 6 0) (h8a : nu 15 0 ≤ 8) (h40 : nu 1 r ≤ 40) (h4 : nu 12 0 ≤ 4) (h8 : ∀ w, nu 13 w ≤ 8) (hlt : ∀ w, w < nu 12 0 → ∀ j, j < nu 13 w → ¬ sg 14 (8 * w + j) = 0) (h_q : M (ad 12 0) = some (.inr (2, [.ref (ad 13 0), .int k0]))) (h_v : M (ad 13 0) = some (.inl (G.2.1 0, 60, .inl g0))) : xMet l G y_R_marksOf (Cond.code y_R_marksOf b_R_marksOf 5 (Option.some Jvm.ClassFile.FieldType.long) :: x_tbl) { frames := 5, cells := 0, slots := 0, locals := 117 } [.ref (ad 14 0), .ref (ad 2 r), .int pg, .int dx, .int dy] M sz (fun u M' => ∃ mk : Int64, u = some (.long mk) ∧ (∀ k, k < 64 → (bitP mk k ↔ mkP nu sg r pg dx dy k)) ∧ ∃ (k' : Int32) (g' : Nat → Int32), M' (ad 12 0) = some (.inr (2, [.ref (ad 13 0), .int k'])) ∧ M' (ad 13 0) = some (.inl (G.2.1 0, 60, .inl g')) ∧ xfr M M' [ad 12 0, ad 13 0]) (fun _ _ => False) := by
  refine xMet.of (by decide) (Nat.le_of_ble_eq_true rfl) ?_
  intro p e s m below meth c ls hC hr hnm hno hsz hw hl
  obtain ⟨hx, hb, hown, hts, hK, hml, hlk, hz⟩ := id hC
  have hl : lv_has ls 5 [(0, .ref (ad 14 0)), (1, .ref (ad 2 r)), (2, .int pg), (3, .int dx), (4, .int dy)] := hl
  refine lv_aload_n hx hb d_R_marksOf_0 rfl (lv_at hl 1 rfl) ?_
  refine lv_aload_n hx hb d_R_marksOf_1 rfl (lv_at hl 0 rfl) ?_
  have hc1 := hR.rc
  have hc1 := hV.get hc1 (hR.ninS hSL (show 0 < 1 by omega) (by decide))
  refine x_get hC hw hc1 rfl 7 (by decide) (hts _ k_183) (fun _ h9 => h9) rfl d_R_marksOf_2 ?_
  have hc2 := hR.row (r := r) (by omega)
  have hc2 := hV.get hc2 (hR.ninS hSL (show r < 4 + nu 6 0 by omega) (by decide))
  obtain ⟨p3, hc3, hp3⟩ := hR.pa (r := r) (by omega)
  have hc3 := hV.get hc3 (hR.ninS hSL (show r < 4 + nu 6 0 by omega) (by decide))
  have hpv : ad 3 r ≠ ad 13 0 := hR.ne (k := 3) (i := r) (k' := 13) (j := 0) hrr Nat.zero_lt_one (by decide)
  refine x_callG hC (c_S_readInto l G M (Array.size s.heap) (ad 2 r) (ad 3 r) (ad 12 0) (ad 13 0) (nu 1 r) (nI (nmb r)) k0 p3 g0 (by omega) hpv hc2 hc3 h_q h_v) k_230 k_8 ⟨Nat.le_of_ble_eq_true rfl, Nat.le_of_ble_eq_true rfl⟩ ⟨Nat.le_of_ble_eq_true rfl, Nat.le_of_ble_eq_true rfl⟩ hw hl.1 (Nat.le_of_ble_eq_true rfl) d_R_marksOf_5 (x_ivV hC k_230 k_227 k_228 k_229 (show _ ∧ _ ∧ _ = some 1 from by decide +kernel) (x_recv hC hw hc2 rfl) rfl d_R_marksOf_5) (fun rv M4 H locs hq hw => ?_) (fun _ _ _ _ _ h _ _ => h.elim)
  obtain ⟨rfl, ⟨g', hg', h_q, h_v⟩, fr⟩ := hq
  have hgr : ∀ j, j < nu 1 r → g' j = sg 2 (40 * r + j) := fun j hj => (hg' j hj).trans (hp3 j hj).1
  have hV := hV.app fr
  have hSL := hSL.app (vlP.co (ad := ad) (nu := nu))
  have hc2 := fr.get hc2 (by simp [(hR.ne (k := 2) (i := r) (k' := 12) (j := 0) hrr Nat.zero_lt_one (by decide)), (hR.ne (k := 2) (i := r) (k' := 13) (j := 0) hrr Nat.zero_lt_one (by decide))])
  refine W.eq (g2 := F0 m 8 ls []) rfl ?_
  refine lv_aload_n hx hb d_R_marksOf_8 rfl (lv_at hl 0 rfl) ?_
  have hc5 := hR.rc
  have hc5 := hV.get hc5 (hR.ninS hSL (show 0 < 1 by omega) (by decide))
  refine x_callG hC (c_R_marksOfWords l G M4 (Array.size H) fz ad nu sg M0 hR _ hV hSL (nu 1 r) g' (by omega) h4 h8 h_q h_v) k_593 k_1 ⟨Nat.le_of_ble_eq_true rfl, Nat.le_of_ble_eq_true rfl⟩ ⟨Nat.le_of_ble_eq_true rfl, Nat.le_of_ble_eq_true rfl⟩ hw hl.1 (Nat.le_of_ble_eq_true rfl) d_R_marksOf_9 (x_ivV hC k_593 k_590 k_592 kp_12 (show _ ∧ _ ∧ _ = some 0 from by decide +kernel) (x_recv hC hw hc5 rfl) rfl d_R_marksOf_9) (fun rv M6 H locs hq hw => ?_) (fun _ _ _ _ _ h _ _ => h.elim)
  obtain ⟨mw, rfl, hmw, hM⟩ := hq
  subst M6
  refine W.eq (g2 := F0 m 12 ls [.long mw]) rfl ?_
  refine lv_aload_n hx hb d_R_marksOf_12 rfl (lv_at hl 0 rfl) ?_
  refine lv_aload_n hx hb d_R_marksOf_13 rfl (lv_at hl 1 rfl) ?_
  refine lv_iload_n hx hb d_R_marksOf_14 rfl (lv_at hl 2 rfl) ?_
  refine lv_iload_n hx hb d_R_marksOf_15 rfl (lv_at hl 3 rfl) ?_
  refine lv_iload hx hb d_R_marksOf_16 (lv_at hl 4 rfl) ?_
  refine x_callG hC (c_R_marksOfAreas l G M4 (Array.size H) fz ad nu sg M0 hR _ hV hSL r pg dx dy hrr h8a h40) k_597 k_1 ⟨Nat.le_of_ble_eq_true rfl, Nat.le_of_ble_eq_true rfl⟩ ⟨Nat.le_of_ble_eq_true rfl, Nat.le_of_ble_eq_true rfl⟩ hw hl.1 (Nat.le_of_ble_eq_true rfl) d_R_marksOf_18 (x_ivV hC k_597 k_594 k_596 kp_13 (show _ ∧ _ ∧ _ = some 4 from by decide +kernel) (x_recv hC hw hc5 rfl) rfl d_R_marksOf_18) (fun rv M7 H locs hq hw => ?_) (fun _ _ _ _ _ h _ _ => h.elim)
  obtain ⟨ma, rfl, hma, hM⟩ := hq
  subst M7
  refine W.eq (g2 := F0 m 21 ls [.long ma, .long mw]) rfl ?_
  refine lv_lor hx hb d_R_marksOf_21 ?_
  exact x_lret hC hr hw (⟨_, rfl, fun k hk => (bitP_or hk).trans ((or_congr (hmw k hk) (hma k hk)).trans (mk_or hlt hgr)), _, g', h_q, h_v, fr⟩) (Nat.le_of_ble_eq_true rfl) (Nat.le_of_ble_eq_true rfl) d_R_marksOf_22
