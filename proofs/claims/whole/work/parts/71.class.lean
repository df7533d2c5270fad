theorem x_str_183 : ("RedactCheck", 183, "there is no such page or form") ∈ x_strs := by simp [x_strs]
theorem x_str_179 : ("RedactCheck", 179, "a number is outside its bounds") ∈ x_strs := by simp [x_strs]
theorem x_str_181 : ("RedactCheck", 181, "there may be no more") ∈ x_strs := by simp [x_strs]
theorem x_str_177 : ("RedactCheck", 177, "there is no such number") ∈ x_strs := by simp [x_strs]
theorem x_str_185 : ("RedactCheck", 185, "there is no such word") ∈ x_strs := by simp [x_strs]
theorem x_str_91 : ("RedactCheck", 91, "42 stands for what went from a store") ∈ x_strs := by simp [x_strs]
theorem x_str_187 : ("RedactCheck", 187, "there is no such store") ∈ x_strs := by simp [x_strs]
theorem x_str_123 : ("RedactCheck", 123, "there would be too many forms") ∈ x_strs := by simp [x_strs]
theorem x_str_169 : ("RedactCheck", 169, "there is no such use") ∈ x_strs := by simp [x_strs]
theorem x_str_175 : ("RedactCheck", 175, "nothing of that kind is counted") ∈ x_strs := by simp [x_strs]
theorem x_tabO {x : Int32} {n : Nat} (hn : n < 2 ^ 31) (h : ∀ j, j ≤ n → ¬ x = nI j) : x.toInt < 0 ∨ (n : Int) < x.toInt := by
  by_cases h0 : x < 0
  · refine Or.inl ?_
    rw [Int32.lt_iff_toInt_lt] at h0
    exact h0
  · obtain ⟨j, hj, rfl⟩ := nI_of h0
    refine Or.inr ?_
    rw [nI_toInt hj]
    have : ¬ j ≤ n := fun z => h j z rfl
    omega
theorem x_all6 {P : Nat → Prop} (h0 : P 0) (h1 : P 1) (h2 : P 2) (h3 : P 3) (h4 : P 4) (h5 : P 5) : ∀ j, j ≤ 5 → P j := by
  intro j hj
  match j, hj with
  | 0, _ => exact h0
  | 1, _ => exact h1
  | 2, _ => exact h2
  | 3, _ => exact h3
  | 4, _ => exact h4
  | 5, _ => exact h5
theorem x_all4 {P : Nat → Prop} (h0 : P 0) (h1 : P 1) (h2 : P 2) (h3 : P 3) : ∀ j, j ≤ 3 → P j := by
  intro j hj
  match j, hj with
  | 0, _ => exact h0
  | 1, _ => exact h1
  | 2, _ => exact h2
  | 3, _ => exact h3
theorem c_size (l : Launch) (G : xT) (M : xMem) (sz : Nat) (fz : Nat) (ad : Nat → Nat → Nat) (nu : Nat → Nat → Nat) (sg : Nat → Nat → Int32) (hR : cRep G M fz ad nu sg) (k : Nat) (hk : k < 6) : xMet l G y_AL_size (Cond.code y_AL_size b_AL_size 1 (Option.some Jvm.ClassFile.FieldType.int) :: x_tbl) { frames := 0, cells := 0, slots := 0, locals := 0 } [.ref (ad 0 k)] M sz (fun u M' => u = some (.int (nI (ln nu k))) ∧ M' = M) (fun _ _ => False) := by
  obtain ⟨mc, h_la⟩ := hR.la hk
  exact c_AL_size l G M sz (ad 0 k) (ad 1 k) (ln nu k) mc h_la
theorem c_get (l : Launch) (G : xT) (M : xMem) (sz : Nat) (fz : Nat) (ad : Nat → Nat → Nat) (nu : Nat → Nat → Nat) (sg : Nat → Nat → Int32) (hR : cRep G M fz ad nu sg) (k : Nat) (hk : k < 6) (i : Nat) (hi : i < ln nu k) : xMet l G y_AL_get (Cond.code y_AL_get b_AL_get 2 (Option.some (Jvm.ClassFile.FieldType.object "java/lang/Object")) :: x_tbl) { frames := 2, cells := 0, slots := 0, locals := 43 } [.ref (ad 0 k), .int (nI i)] M sz (fun u M' => u = some (.ref (elA ad k i)) ∧ M' = M) (fun _ _ => False) := by
  obtain ⟨mc, h_la⟩ := hR.la hk
  obtain ⟨cap, f, h_el, h1, h2, h3⟩ := hR.el hk
  exact c_AL_get l G M sz (ad 0 k) (ad 1 k) (ln nu k) cap i _ mc f hi h1 (by unfold capP at h2; omega) (h3 i hi) h_la (h_el (by omega))
set_option maxHeartbeats 400000 in
set_option maxRecDepth 100000 in
/-- checkWithin -/
theorem c_R_checkWithin (l : Launch) (hfl : l.flags = flags0) (G : xT) (M : xMem) (sz : Nat) (v lo hi : Int32) : xMet l G y_R_checkWithin (Cond.code y_R_checkWithin b_R_checkWithin 3 none :: x_tbl) { frames := 6, cells := 1, slots := 6, locals := 82 } [.int v, .int lo, .int hi] M sz (fun u M' => u = none ∧ inP v lo hi ∧ M' = M) (fun X M' => X = "java/lang/IllegalArgumentException" ∧ ¬ inP v lo hi ∧ M' = M) := by
  refine xMet.of (by decide) (Nat.le_of_ble_eq_true rfl) ?_
  intro p e s m below meth c ls hC hr hnm hno hsz hw hl
  obtain ⟨hx, hb, hown, hts, hK, hml, hlk, hz⟩ := id hC
  have hl : lv_has ls 3 [(0, .int v), (1, .int lo), (2, .int hi)] := hl
  refine lv_iload_n hx hb d_R_checkWithin_0 rfl (lv_at hl 0 rfl) ?_
  refine lv_iload_n hx hb d_R_checkWithin_1 rfl (lv_at hl 1 rfl) ?_
  refine lv_icmp_lt (tgt := 10) hx hb d_R_checkWithin_2 (by decide) (fun c_2 => ?_) (fun c_2 => ?_)
  · exact x_throw hfl hC hno hw k_373 k_374 k_20 x_str_179 (by decide +kernel) hat_IA d_R_checkWithin_10 d_R_checkWithin_13 d_R_checkWithin_14 d_R_checkWithin_16 d_R_checkWithin_19 hl.1 (Nat.le_of_ble_eq_true rfl) (Nat.le_of_ble_eq_true rfl) (Nat.le_of_ble_eq_true rfl) (Nat.le_of_ble_eq_true rfl) (⟨rfl, fun z => z.1 c_2, rfl⟩) (Nat.le_of_ble_eq_true rfl) (Nat.le_of_ble_eq_true rfl)
  · refine lv_iload_n hx hb d_R_checkWithin_5 rfl (lv_at hl 0 rfl) ?_
    refine lv_iload_n hx hb d_R_checkWithin_6 rfl (lv_at hl 2 rfl) ?_
    refine lv_icmp_le (tgt := 20) hx hb d_R_checkWithin_7 (by decide) (fun c_7 => ?_) (fun c_7 => ?_)
    · exact x_vret hC hr hw (⟨rfl, ⟨c_2, Int32.not_lt.mpr c_7⟩, rfl⟩) (Nat.le_of_ble_eq_true rfl) (Nat.le_of_ble_eq_true rfl) d_R_checkWithin_20
    · exact x_throw hfl hC hno hw k_373 k_374 k_20 x_str_179 (by decide +kernel) hat_IA d_R_checkWithin_10 d_R_checkWithin_13 d_R_checkWithin_14 d_R_checkWithin_16 d_R_checkWithin_19 hl.1 (Nat.le_of_ble_eq_true rfl) (Nat.le_of_ble_eq_true rfl) (Nat.le_of_ble_eq_true rfl) (Nat.le_of_ble_eq_true rfl) (⟨rfl, fun z => c_7 (Int32.not_lt.mp z.2), rfl⟩) (Nat.le_of_ble_eq_true rfl) (Nat.le_of_ble_eq_true rfl)

set_option maxHeartbeats 400000 in
set_option maxRecDepth 100000 in
/-- checkRoom -/
theorem c_R_checkRoom (l : Launch) (hfl : l.flags = flags0) (G : xT) (M : xMem) (sz : Nat) (n m9 : Nat) (hn : n < 2 ^ 31) (hm : m9 < 2 ^ 31) : xMet l G y_R_checkRoom (Cond.code y_R_checkRoom b_R_checkRoom 2 none :: x_tbl) { frames := 6, cells := 1, slots := 6, locals := 82 } [.int (nI n), .int (nI m9)] M sz (fun u M' => u = none ∧ n < m9 ∧ M' = M) (fun X M' => X = "java/lang/UnsupportedOperationException" ∧ ¬ n < m9 ∧ M' = M) := by
  refine xMet.of (by decide) (Nat.le_of_ble_eq_true rfl) ?_
  intro p e s m below meth c ls hC hr hnm hno hsz hw hl
  obtain ⟨hx, hb, hown, hts, hK, hml, hlk, hz⟩ := id hC
  have hl : lv_has ls 2 [(0, .int (nI n)), (1, .int (nI m9))] := hl
  refine lv_iload_n hx hb d_R_checkRoom_0 rfl (lv_at hl 0 rfl) ?_
  refine lv_iload_n hx hb d_R_checkRoom_1 rfl (lv_at hl 1 rfl) ?_
  refine lv_icmp_lt (tgt := 15) hx hb d_R_checkRoom_2 (by decide) (fun c_2 => ?_) (fun c_2 => ?_)
  · have c_2 := (nI_ltI (by omega) (by omega)).mp c_2
    exact x_vret hC hr hw (⟨rfl, by omega, rfl⟩) (Nat.le_of_ble_eq_true rfl) (Nat.le_of_ble_eq_true rfl) d_R_checkRoom_15
  · have c_2 := Nat.not_lt.mp ((not_congr (nI_ltI (by omega) (by omega))).mp c_2)
    exact x_throw hfl hC hno hw k_392 k_393 k_21 x_str_181 (by decide +kernel) hat_UO d_R_checkRoom_5 d_R_checkRoom_8 d_R_checkRoom_9 d_R_checkRoom_11 d_R_checkRoom_14 hl.1 (Nat.le_of_ble_eq_true rfl) (Nat.le_of_ble_eq_true rfl) (Nat.le_of_ble_eq_true rfl) (Nat.le_of_ble_eq_true rfl) (⟨rfl, by omega, rfl⟩) (Nat.le_of_ble_eq_true rfl) (Nat.le_of_ble_eq_true rfl)

set_option maxHeartbeats 400000 in
set_option maxRecDepth 100000 in
/-- checkNumber -/
theorem c_R_checkNumber (l : Launch) (hfl : l.flags = flags0) (G : xT) (M : xMem) (sz : Nat) (v : Int32) (n : Nat) (hn : n < 2 ^ 31) : xMet l G y_R_checkNumber (Cond.code y_R_checkNumber b_R_checkNumber 2 none :: x_tbl) { frames := 6, cells := 1, slots := 6, locals := 82 } [.int v, .int (nI n)] M sz (fun u M' => u = none ∧ numP v n ∧ M' = M) (fun X M' => X = "java/lang/IndexOutOfBoundsException" ∧ ¬ numP v n ∧ M' = M) := by
  refine xMet.of (by decide) (Nat.le_of_ble_eq_true rfl) ?_
  intro p e s m below meth c ls hC hr hnm hno hsz hw hl
  obtain ⟨hx, hb, hown, hts, hK, hml, hlk, hz⟩ := id hC
  have hl : lv_has ls 2 [(0, .int v), (1, .int (nI n))] := hl
  refine lv_iload_n hx hb d_R_checkNumber_0 rfl (lv_at hl 0 rfl) ?_
  refine lv_if_lt (tgt := 9) hx hb d_R_checkNumber_1 (by decide) (fun c_1 => ?_) (fun c_1 => ?_)
  · exact x_throw hfl hC hno hw k_299 k_300 k_17 x_str_177 (by decide +kernel) hat_IO d_R_checkNumber_9 d_R_checkNumber_12 d_R_checkNumber_13 d_R_checkNumber_15 d_R_checkNumber_18 hl.1 (Nat.le_of_ble_eq_true rfl) (Nat.le_of_ble_eq_true rfl) (Nat.le_of_ble_eq_true rfl) (Nat.le_of_ble_eq_true rfl) (⟨rfl, fun z => ((num_lt hn).mpr z).1 c_1, rfl⟩) (Nat.le_of_ble_eq_true rfl) (Nat.le_of_ble_eq_true rfl)
  · refine lv_iload_n hx hb d_R_checkNumber_4 rfl (lv_at hl 0 rfl) ?_
    refine lv_iload_n hx hb d_R_checkNumber_5 rfl (lv_at hl 1 rfl) ?_
    refine lv_icmp_lt (tgt := 19) hx hb d_R_checkNumber_6 (by decide) (fun c_6 => ?_) (fun c_6 => ?_)
    · exact x_vret hC hr hw (⟨rfl, (num_lt hn).mp ⟨c_1, Int32.not_le.mpr c_6⟩, rfl⟩) (Nat.le_of_ble_eq_true rfl) (Nat.le_of_ble_eq_true rfl) d_R_checkNumber_19
    · exact x_throw hfl hC hno hw k_299 k_300 k_17 x_str_177 (by decide +kernel) hat_IO d_R_checkNumber_9 d_R_checkNumber_12 d_R_checkNumber_13 d_R_checkNumber_15 d_R_checkNumber_18 hl.1 (Nat.le_of_ble_eq_true rfl) (Nat.le_of_ble_eq_true rfl) (Nat.le_of_ble_eq_true rfl) (Nat.le_of_ble_eq_true rfl) (⟨rfl, fun z => c_6 (Int32.not_le.mp ((num_lt hn).mpr z).2), rfl⟩) (Nat.le_of_ble_eq_true rfl) (Nat.le_of_ble_eq_true rfl)

set_option maxHeartbeats 400000 in
set_option maxRecDepth 100000 in
/-- rowOf 0 -/
theorem c_R_rowOf0 (l : Launch) (hfl : l.flags = flags0) (G : xT) (M : xMem) (sz : Nat) (fz : Nat) (ad : Nat → Nat → Nat) (nu : Nat → Nat → Nat) (sg : Nat → Nat → Int32) (hR : cRep G M fz ad nu sg) (v : Int32) (h20 : nu 6 0 ≤ 20) : xMet l G y_R_rowOf (Cond.code y_R_rowOf b_R_rowOf 2 (Option.some (Jvm.ClassFile.FieldType.object "RedactCheck$SignRow")) :: x_tbl) { frames := 6, cells := 1, slots := 6, locals := 82 } [.ref (ad 0 0), .int v] M sz (fun u M' => u = some (.ref (ad 2 (cN v))) ∧ numP v (4) ∧ M' = M) (fun X M' => X = "java/lang/IndexOutOfBoundsException" ∧ ¬ numP v (4) ∧ M' = M) := by
  refine xMet.of (by decide) (Nat.le_of_ble_eq_true rfl) ?_
  intro p e s m below meth c ls hC hr hnm hno hsz hw hl
  obtain ⟨hx, hb, hown, hts, hK, hml, hlk, hz⟩ := id hC
  have hl : lv_has ls 2 [(0, .ref (ad 0 0)), (1, .int v)] := hl
  refine lv_iload_n hx hb d_R_rowOf_0 rfl (lv_at hl 1 rfl) ?_
  refine lv_if_lt (tgt := 12) hx hb d_R_rowOf_1 (by decide) (fun c_1 => ?_) (fun c_1 => ?_)
  · exact x_throw hfl hC hno hw k_299 k_300 k_17 x_str_183 (by decide +kernel) hat_IO d_R_rowOf_12 d_R_rowOf_15 d_R_rowOf_16 d_R_rowOf_18 d_R_rowOf_21 hl.1 (Nat.le_of_ble_eq_true rfl) (Nat.le_of_ble_eq_true rfl) (Nat.le_of_ble_eq_true rfl) (Nat.le_of_ble_eq_true rfl) (⟨rfl, fun z => ((num_lt (n := 4) (by omega)).mpr z).1 c_1, rfl⟩) (Nat.le_of_ble_eq_true rfl) (Nat.le_of_ble_eq_true rfl)
  · refine lv_iload_n hx hb d_R_rowOf_4 rfl (lv_at hl 1 rfl) ?_
    refine lv_aload_n hx hb d_R_rowOf_5 rfl (lv_at hl 0 rfl) ?_
    obtain ⟨mc1, hc1⟩ := hR.la (k := 0) (by decide)
    refine x_callG hC (c_size l G M (Array.size s.heap) fz ad nu sg hR 0 (by decide)) k_212 k_4 ⟨Nat.le_of_ble_eq_true rfl, Nat.le_of_ble_eq_true rfl⟩ ⟨Nat.le_of_ble_eq_true rfl, Nat.le_of_ble_eq_true rfl⟩ hw hl.1 (Nat.le_of_ble_eq_true rfl) d_R_rowOf_6 (x_ivV hC k_212 k_209 k_210 k_211 (show _ ∧ _ ∧ _ = some 0 from by decide +kernel) (x_recv hC hw hc1 rfl) rfl d_R_rowOf_6) (fun rv M2 H locs hq hw => ?_) (fun _ _ _ _ _ h _ _ => h.elim)
    obtain ⟨rfl, hM⟩ := hq
    subst M2
    refine W.eq (g2 := F0 m 9 ls [.int (nI 4), .int v]) rfl ?_
    refine lv_icmp_lt (tgt := 22) hx hb d_R_rowOf_9 (by decide) (fun c_9 => ?_) (fun c_9 => ?_)
    · have hnm : numP v (4) := (num_lt (by omega)).mp ⟨c_1, Int32.not_le.mpr c_9⟩
      have hcv : cN v < 4 := hnm.2
      refine lv_aload_n hx hb d_R_rowOf_22 rfl (lv_at hl 0 rfl) ?_
      refine lv_iload_n hx hb d_R_rowOf_23 rfl (lv_at hl 1 rfl) ?_
      refine x_vi (y := nI (cN v)) hnm.1 ?_
      refine x_callG hC (c_get l G M (Array.size H) fz ad nu sg hR 0 (by decide) ((cN v)) (show (cN v) < 4 by omega)) k_216 k_4 ⟨Nat.le_of_ble_eq_true rfl, Nat.le_of_ble_eq_true rfl⟩ ⟨Nat.le_of_ble_eq_true rfl, Nat.le_of_ble_eq_true rfl⟩ hw hl.1 (Nat.le_of_ble_eq_true rfl) d_R_rowOf_24 (x_ivV hC k_216 k_213 k_214 k_215 (show _ ∧ _ ∧ _ = some 1 from by decide +kernel) (x_recv hC hw hc1 rfl) rfl d_R_rowOf_24) (fun rv M3 H locs hq hw => ?_) (fun _ _ _ _ _ h _ _ => h.elim)
      obtain ⟨rfl, hM⟩ := hq
      subst M3
      refine W.eq (g2 := F0 m 27 ls [.ref (ad 2 (cN v))]) rfl ?_
      have hc4 := hR.row (r := cN v) (by omega)
      refine x_cast hC hw hc4 rfl (hts _ k_101) d_R_rowOf_27 ?_
      exact x_aret hC hr (Or.inl ⟨_, rfl⟩) hw (Or.inr ⟨_, rfl⟩) (⟨rfl, hnm, rfl⟩) (Nat.le_of_ble_eq_true rfl) (Nat.le_of_ble_eq_true rfl) d_R_rowOf_30
    · exact x_throw hfl hC hno hw k_299 k_300 k_17 x_str_183 (by decide +kernel) hat_IO d_R_rowOf_12 d_R_rowOf_15 d_R_rowOf_16 d_R_rowOf_18 d_R_rowOf_21 hl.1 (Nat.le_of_ble_eq_true rfl) (Nat.le_of_ble_eq_true rfl) (Nat.le_of_ble_eq_true rfl) (Nat.le_of_ble_eq_true rfl) (⟨rfl, fun z => c_9 (Int32.not_le.mp ((num_lt (n := 4) (by omega)).mpr z).2), rfl⟩) (Nat.le_of_ble_eq_true rfl) (Nat.le_of_ble_eq_true rfl)

set_option maxHeartbeats 400000 in
set_option maxRecDepth 100000 in
/-- rowOf 1 -/
theorem c_R_rowOf1 (l : Launch) (hfl : l.flags = flags0) (G : xT) (M : xMem) (sz : Nat) (fz : Nat) (ad : Nat → Nat → Nat) (nu : Nat → Nat → Nat) (sg : Nat → Nat → Int32) (hR : cRep G M fz ad nu sg) (v : Int32) (h20 : nu 6 0 ≤ 20) : xMet l G y_R_rowOf (Cond.code y_R_rowOf b_R_rowOf 2 (Option.some (Jvm.ClassFile.FieldType.object "RedactCheck$SignRow")) :: x_tbl) { frames := 6, cells := 1, slots := 6, locals := 82 } [.ref (ad 0 1), .int v] M sz (fun u M' => u = some (.ref (ad 2 (4 + cN v))) ∧ numP v (nu 6 0) ∧ M' = M) (fun X M' => X = "java/lang/IndexOutOfBoundsException" ∧ ¬ numP v (nu 6 0) ∧ M' = M) := by
  refine xMet.of (by decide) (Nat.le_of_ble_eq_true rfl) ?_
  intro p e s m below meth c ls hC hr hnm hno hsz hw hl
  obtain ⟨hx, hb, hown, hts, hK, hml, hlk, hz⟩ := id hC
  have hl : lv_has ls 2 [(0, .ref (ad 0 1)), (1, .int v)] := hl
  refine lv_iload_n hx hb d_R_rowOf_0 rfl (lv_at hl 1 rfl) ?_
  refine lv_if_lt (tgt := 12) hx hb d_R_rowOf_1 (by decide) (fun c_1 => ?_) (fun c_1 => ?_)
  · exact x_throw hfl hC hno hw k_299 k_300 k_17 x_str_183 (by decide +kernel) hat_IO d_R_rowOf_12 d_R_rowOf_15 d_R_rowOf_16 d_R_rowOf_18 d_R_rowOf_21 hl.1 (Nat.le_of_ble_eq_true rfl) (Nat.le_of_ble_eq_true rfl) (Nat.le_of_ble_eq_true rfl) (Nat.le_of_ble_eq_true rfl) (⟨rfl, fun z => ((num_lt (n := nu 6 0) (by omega)).mpr z).1 c_1, rfl⟩) (Nat.le_of_ble_eq_true rfl) (Nat.le_of_ble_eq_true rfl)
  · refine lv_iload_n hx hb d_R_rowOf_4 rfl (lv_at hl 1 rfl) ?_
    refine lv_aload_n hx hb d_R_rowOf_5 rfl (lv_at hl 0 rfl) ?_
    obtain ⟨mc1, hc1⟩ := hR.la (k := 1) (by decide)
    refine x_callG hC (c_size l G M (Array.size s.heap) fz ad nu sg hR 1 (by decide)) k_212 k_4 ⟨Nat.le_of_ble_eq_true rfl, Nat.le_of_ble_eq_true rfl⟩ ⟨Nat.le_of_ble_eq_true rfl, Nat.le_of_ble_eq_true rfl⟩ hw hl.1 (Nat.le_of_ble_eq_true rfl) d_R_rowOf_6 (x_ivV hC k_212 k_209 k_210 k_211 (show _ ∧ _ ∧ _ = some 0 from by decide +kernel) (x_recv hC hw hc1 rfl) rfl d_R_rowOf_6) (fun rv M2 H locs hq hw => ?_) (fun _ _ _ _ _ h _ _ => h.elim)
    obtain ⟨rfl, hM⟩ := hq
    subst M2
    refine W.eq (g2 := F0 m 9 ls [.int (nI (nu 6 0)), .int v]) rfl ?_
    refine lv_icmp_lt (tgt := 22) hx hb d_R_rowOf_9 (by decide) (fun c_9 => ?_) (fun c_9 => ?_)
    · have hnm : numP v (nu 6 0) := (num_lt (by omega)).mp ⟨c_1, Int32.not_le.mpr c_9⟩
      have hcv : cN v < nu 6 0 := hnm.2
      refine lv_aload_n hx hb d_R_rowOf_22 rfl (lv_at hl 0 rfl) ?_
      refine lv_iload_n hx hb d_R_rowOf_23 rfl (lv_at hl 1 rfl) ?_
      refine x_vi (y := nI (cN v)) hnm.1 ?_
      refine x_callG hC (c_get l G M (Array.size H) fz ad nu sg hR 1 (by decide) ((cN v)) (show (cN v) < nu 6 0 by omega)) k_216 k_4 ⟨Nat.le_of_ble_eq_true rfl, Nat.le_of_ble_eq_true rfl⟩ ⟨Nat.le_of_ble_eq_true rfl, Nat.le_of_ble_eq_true rfl⟩ hw hl.1 (Nat.le_of_ble_eq_true rfl) d_R_rowOf_24 (x_ivV hC k_216 k_213 k_214 k_215 (show _ ∧ _ ∧ _ = some 1 from by decide +kernel) (x_recv hC hw hc1 rfl) rfl d_R_rowOf_24) (fun rv M3 H locs hq hw => ?_) (fun _ _ _ _ _ h _ _ => h.elim)
      obtain ⟨rfl, hM⟩ := hq
      subst M3
      refine W.eq (g2 := F0 m 27 ls [.ref (ad 2 (4 + (cN v)))]) rfl ?_
      have hc4 := hR.row (r := 4 + (cN v)) (by omega)
      refine x_cast hC hw hc4 rfl (hts _ k_101) d_R_rowOf_27 ?_
      exact x_aret hC hr (Or.inl ⟨_, rfl⟩) hw (Or.inr ⟨_, rfl⟩) (⟨rfl, hnm, rfl⟩) (Nat.le_of_ble_eq_true rfl) (Nat.le_of_ble_eq_true rfl) d_R_rowOf_30
    · exact x_throw hfl hC hno hw k_299 k_300 k_17 x_str_183 (by decide +kernel) hat_IO d_R_rowOf_12 d_R_rowOf_15 d_R_rowOf_16 d_R_rowOf_18 d_R_rowOf_21 hl.1 (Nat.le_of_ble_eq_true rfl) (Nat.le_of_ble_eq_true rfl) (Nat.le_of_ble_eq_true rfl) (Nat.le_of_ble_eq_true rfl) (⟨rfl, fun z => c_9 (Int32.not_le.mp ((num_lt (n := nu 6 0) (by omega)).mpr z).2), rfl⟩) (Nat.le_of_ble_eq_true rfl) (Nat.le_of_ble_eq_true rfl)

set_option maxHeartbeats 400000 in
set_option maxRecDepth 100000 in
/-- wordOf -/
theorem c_R_wordOf (l : Launch) (hfl : l.flags = flags0) (G : xT) (M : xMem) (sz : Nat) (fz : Nat) (ad : Nat → Nat → Nat) (nu : Nat → Nat → Nat) (sg : Nat → Nat → Int32) (hR : cRep G M fz ad nu sg) (v : Int32) (h4 : nu 12 0 ≤ 4) : xMet l G y_R_wordOf (Cond.code y_R_wordOf b_R_wordOf 2 (Option.some (Jvm.ClassFile.FieldType.object "RedactCheck$Word")) :: x_tbl) { frames := 6, cells := 1, slots := 6, locals := 82 } [.ref (ad 14 0), .int v] M sz (fun u M' => u = some (.ref (ad 5 (cN v))) ∧ numP v (nu 12 0) ∧ M' = M) (fun X M' => X = "java/lang/IndexOutOfBoundsException" ∧ ¬ numP v (nu 12 0) ∧ M' = M) := by
  refine xMet.of (by decide) (Nat.le_of_ble_eq_true rfl) ?_
  intro p e s m below meth c ls hC hr hnm hno hsz hw hl
  obtain ⟨hx, hb, hown, hts, hK, hml, hlk, hz⟩ := id hC
  have hl : lv_has ls 2 [(0, .ref (ad 14 0)), (1, .int v)] := hl
  refine lv_iload_n hx hb d_R_wordOf_0 rfl (lv_at hl 1 rfl) ?_
  refine lv_if_lt (tgt := 15) hx hb d_R_wordOf_1 (by decide) (fun c_1 => ?_) (fun c_1 => ?_)
  · exact x_throw hfl hC hno hw k_299 k_300 k_17 x_str_185 (by decide +kernel) hat_IO d_R_wordOf_15 d_R_wordOf_18 d_R_wordOf_19 d_R_wordOf_21 d_R_wordOf_24 hl.1 (Nat.le_of_ble_eq_true rfl) (Nat.le_of_ble_eq_true rfl) (Nat.le_of_ble_eq_true rfl) (Nat.le_of_ble_eq_true rfl) (⟨rfl, fun z => ((num_lt (n := nu 12 0) (by omega)).mpr z).1 c_1, rfl⟩) (Nat.le_of_ble_eq_true rfl) (Nat.le_of_ble_eq_true rfl)
  · refine lv_iload_n hx hb d_R_wordOf_4 rfl (lv_at hl 1 rfl) ?_
    refine lv_aload_n hx hb d_R_wordOf_5 rfl (lv_at hl 0 rfl) ?_
    have hc1 := hR.rc
    refine x_get hC hw hc1 rfl 3 (by decide) (hts _ k_179) (fun _ h9 => h9) rfl d_R_wordOf_6 ?_
    obtain ⟨mc2, hc2⟩ := hR.la (k := 3) (by decide)
    refine x_callG hC (c_size l G M (Array.size s.heap) fz ad nu sg hR 3 (by decide)) k_212 k_4 ⟨Nat.le_of_ble_eq_true rfl, Nat.le_of_ble_eq_true rfl⟩ ⟨Nat.le_of_ble_eq_true rfl, Nat.le_of_ble_eq_true rfl⟩ hw hl.1 (Nat.le_of_ble_eq_true rfl) d_R_wordOf_9 (x_ivV hC k_212 k_209 k_210 k_211 (show _ ∧ _ ∧ _ = some 0 from by decide +kernel) (x_recv hC hw hc2 rfl) rfl d_R_wordOf_9) (fun rv M3 H locs hq hw => ?_) (fun _ _ _ _ _ h _ _ => h.elim)
    obtain ⟨rfl, hM⟩ := hq
    subst M3
    refine W.eq (g2 := F0 m 12 ls [.int (nI (nu 12 0)), .int v]) rfl ?_
    refine lv_icmp_lt (tgt := 25) hx hb d_R_wordOf_12 (by decide) (fun c_12 => ?_) (fun c_12 => ?_)
    · have hnm : numP v (nu 12 0) := (num_lt (by omega)).mp ⟨c_1, Int32.not_le.mpr c_12⟩
      have hcv : cN v < nu 12 0 := hnm.2
      refine lv_aload_n hx hb d_R_wordOf_25 rfl (lv_at hl 0 rfl) ?_
      refine x_get hC hw hc1 rfl 3 (by decide) (hts _ k_179) (fun _ h9 => h9) rfl d_R_wordOf_26 ?_
      refine lv_iload_n hx hb d_R_wordOf_29 rfl (lv_at hl 1 rfl) ?_
      refine x_vi (y := nI (cN v)) hnm.1 ?_
      refine x_callG hC (c_get l G M (Array.size H) fz ad nu sg hR 3 (by decide) ((cN v)) (show (cN v) < nu 12 0 by omega)) k_216 k_4 ⟨Nat.le_of_ble_eq_true rfl, Nat.le_of_ble_eq_true rfl⟩ ⟨Nat.le_of_ble_eq_true rfl, Nat.le_of_ble_eq_true rfl⟩ hw hl.1 (Nat.le_of_ble_eq_true rfl) d_R_wordOf_30 (x_ivV hC k_216 k_213 k_214 k_215 (show _ ∧ _ ∧ _ = some 1 from by decide +kernel) (x_recv hC hw hc2 rfl) rfl d_R_wordOf_30) (fun rv M4 H locs hq hw => ?_) (fun _ _ _ _ _ h _ _ => h.elim)
      obtain ⟨rfl, hM⟩ := hq
      subst M4
      refine W.eq (g2 := F0 m 33 ls [.ref (ad 5 (cN v))]) rfl ?_
      have hc5 := hR.wo (w := cN v) (by omega)
      refine x_cast hC hw hc5 rfl (hts _ k_243) d_R_wordOf_33 ?_
      exact x_aret hC hr (Or.inl ⟨_, rfl⟩) hw (Or.inr ⟨_, rfl⟩) (⟨rfl, hnm, rfl⟩) (Nat.le_of_ble_eq_true rfl) (Nat.le_of_ble_eq_true rfl) d_R_wordOf_36
    · exact x_throw hfl hC hno hw k_299 k_300 k_17 x_str_185 (by decide +kernel) hat_IO d_R_wordOf_15 d_R_wordOf_18 d_R_wordOf_19 d_R_wordOf_21 d_R_wordOf_24 hl.1 (Nat.le_of_ble_eq_true rfl) (Nat.le_of_ble_eq_true rfl) (Nat.le_of_ble_eq_true rfl) (Nat.le_of_ble_eq_true rfl) (⟨rfl, fun z => c_12 (Int32.not_le.mp ((num_lt (n := nu 12 0) (by omega)).mpr z).2), rfl⟩) (Nat.le_of_ble_eq_true rfl) (Nat.le_of_ble_eq_true rfl)

set_option maxHeartbeats 400000 in
set_option maxRecDepth 100000 in
/-- storeOf -/
theorem c_R_storeOf (l : Launch) (hfl : l.flags = flags0) (G : xT) (M : xMem) (sz : Nat) (fz : Nat) (ad : Nat → Nat → Nat) (nu : Nat → Nat → Nat) (sg : Nat → Nat → Int32) (hR : cRep G M fz ad nu sg) (v : Int32) (h8 : nu 21 0 ≤ 8) : xMet l G y_R_storeOf (Cond.code y_R_storeOf b_R_storeOf 2 (Option.some (Jvm.ClassFile.FieldType.object "RedactCheck$Store")) :: x_tbl) { frames := 6, cells := 1, slots := 6, locals := 82 } [.ref (ad 14 0), .int v] M sz (fun u M' => u = some (.ref (ad 8 (cN v))) ∧ numP v (nu 21 0) ∧ M' = M) (fun X M' => X = "java/lang/IndexOutOfBoundsException" ∧ ¬ numP v (nu 21 0) ∧ M' = M) := by
  refine xMet.of (by decide) (Nat.le_of_ble_eq_true rfl) ?_
  intro p e s m below meth c ls hC hr hnm hno hsz hw hl
  obtain ⟨hx, hb, hown, hts, hK, hml, hlk, hz⟩ := id hC
  have hl : lv_has ls 2 [(0, .ref (ad 14 0)), (1, .int v)] := hl
  refine lv_iload_n hx hb d_R_storeOf_0 rfl (lv_at hl 1 rfl) ?_
  refine lv_if_lt (tgt := 15) hx hb d_R_storeOf_1 (by decide) (fun c_1 => ?_) (fun c_1 => ?_)
  · exact x_throw hfl hC hno hw k_299 k_300 k_17 x_str_187 (by decide +kernel) hat_IO d_R_storeOf_15 d_R_storeOf_18 d_R_storeOf_19 d_R_storeOf_21 d_R_storeOf_24 hl.1 (Nat.le_of_ble_eq_true rfl) (Nat.le_of_ble_eq_true rfl) (Nat.le_of_ble_eq_true rfl) (Nat.le_of_ble_eq_true rfl) (⟨rfl, fun z => ((num_lt (n := nu 21 0) (by omega)).mpr z).1 c_1, rfl⟩) (Nat.le_of_ble_eq_true rfl) (Nat.le_of_ble_eq_true rfl)
  · refine lv_iload_n hx hb d_R_storeOf_4 rfl (lv_at hl 1 rfl) ?_
    refine lv_aload_n hx hb d_R_storeOf_5 rfl (lv_at hl 0 rfl) ?_
    have hc1 := hR.rc
    refine x_get hC hw hc1 rfl 5 (by decide) (hts _ k_181) (fun _ h9 => h9) rfl d_R_storeOf_6 ?_
    obtain ⟨mc2, hc2⟩ := hR.la (k := 5) (by decide)
    refine x_callG hC (c_size l G M (Array.size s.heap) fz ad nu sg hR 5 (by decide)) k_212 k_4 ⟨Nat.le_of_ble_eq_true rfl, Nat.le_of_ble_eq_true rfl⟩ ⟨Nat.le_of_ble_eq_true rfl, Nat.le_of_ble_eq_true rfl⟩ hw hl.1 (Nat.le_of_ble_eq_true rfl) d_R_storeOf_9 (x_ivV hC k_212 k_209 k_210 k_211 (show _ ∧ _ ∧ _ = some 0 from by decide +kernel) (x_recv hC hw hc2 rfl) rfl d_R_storeOf_9) (fun rv M3 H locs hq hw => ?_) (fun _ _ _ _ _ h _ _ => h.elim)
    obtain ⟨rfl, hM⟩ := hq
    subst M3
    refine W.eq (g2 := F0 m 12 ls [.int (nI (nu 21 0)), .int v]) rfl ?_
    refine lv_icmp_lt (tgt := 25) hx hb d_R_storeOf_12 (by decide) (fun c_12 => ?_) (fun c_12 => ?_)
    · have hnm : numP v (nu 21 0) := (num_lt (by omega)).mp ⟨c_1, Int32.not_le.mpr c_12⟩
      have hcv : cN v < nu 21 0 := hnm.2
      refine lv_aload_n hx hb d_R_storeOf_25 rfl (lv_at hl 0 rfl) ?_
      refine x_get hC hw hc1 rfl 5 (by decide) (hts _ k_181) (fun _ h9 => h9) rfl d_R_storeOf_26 ?_
      refine lv_iload_n hx hb d_R_storeOf_29 rfl (lv_at hl 1 rfl) ?_
      refine x_vi (y := nI (cN v)) hnm.1 ?_
      refine x_callG hC (c_get l G M (Array.size H) fz ad nu sg hR 5 (by decide) ((cN v)) (show (cN v) < nu 21 0 by omega)) k_216 k_4 ⟨Nat.le_of_ble_eq_true rfl, Nat.le_of_ble_eq_true rfl⟩ ⟨Nat.le_of_ble_eq_true rfl, Nat.le_of_ble_eq_true rfl⟩ hw hl.1 (Nat.le_of_ble_eq_true rfl) d_R_storeOf_30 (x_ivV hC k_216 k_213 k_214 k_215 (show _ ∧ _ ∧ _ = some 1 from by decide +kernel) (x_recv hC hw hc2 rfl) rfl d_R_storeOf_30) (fun rv M4 H locs hq hw => ?_) (fun _ _ _ _ _ h _ _ => h.elim)
      obtain ⟨rfl, hM⟩ := hq
      subst M4
      refine W.eq (g2 := F0 m 33 ls [.ref (ad 8 (cN v))]) rfl ?_
      have hc5 := hR.so (t := cN v) (by omega)
      refine x_cast hC hw hc5 rfl (hts _ k_261) d_R_storeOf_33 ?_
      exact x_aret hC hr (Or.inl ⟨_, rfl⟩) hw (Or.inr ⟨_, rfl⟩) (⟨rfl, hnm, rfl⟩) (Nat.le_of_ble_eq_true rfl) (Nat.le_of_ble_eq_true rfl) d_R_storeOf_36
    · exact x_throw hfl hC hno hw k_299 k_300 k_17 x_str_187 (by decide +kernel) hat_IO d_R_storeOf_15 d_R_storeOf_18 d_R_storeOf_19 d_R_storeOf_21 d_R_storeOf_24 hl.1 (Nat.le_of_ble_eq_true rfl) (Nat.le_of_ble_eq_true rfl) (Nat.le_of_ble_eq_true rfl) (Nat.le_of_ble_eq_true rfl) (⟨rfl, fun z => c_12 (Int32.not_le.mp ((num_lt (n := nu 21 0) (by omega)).mpr z).2), rfl⟩) (Nat.le_of_ble_eq_true rfl) (Nat.le_of_ble_eq_true rfl)
