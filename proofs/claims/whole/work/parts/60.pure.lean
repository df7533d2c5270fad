/-! the class's parts, as plain mathematics -/
def swP (n : Nat) (f g : Nat → Int32) (rs p : Nat) : Prop := 0 < n ∧ p + n ≤ rs ∧ ∀ k, k < n → g (p + k) = f k
def toP (ax ay aw ah x y wd : Int32) : Prop := (¬ aw ≤ 0 ∧ ¬ ah ≤ 0) ∧ (¬ x ≥ ax + aw ∧ ¬ ax ≥ x + wd) ∧ (¬ y ≥ ay + ah ∧ ¬ ay ≥ y + nI 10)
def unV (n : Nat) (f : Nat → Int32) (i : Nat) : Int32 := if i < n then f i &&& nI 255 else -1
def dcV (en : Nat) (a b : Int32) : Int32 := match en with
  | 0 => a
  | 1 => if a = 0 then b else -1
  | 2 => if b = 0 then a else -1
  | _ => if dgI a = -1 ∨ dgI b = -1 then -1 else dgI a * nI 16 + dgI b
def byP (y : Int32) : Prop := narrow .byte (.int y) = .int y
theorem dgI_m1 : dgI (-1) = -1 := by decide +kernel
theorem dgI_neg : ∀ b, b < 256 → (dgI (nI b) < 0 ↔ dgI (nI b) = -1) := by
  have h : ∀ b, b < 256 → ((dgI (nI b) < 0 ∧ dgI (nI b) = -1) ∨ (¬ dgI (nI b) < 0 ∧ ¬ dgI (nI b) = -1)) := by decide +kernel
  intro b hb
  rcases h b hb with z | z
  · exact ⟨fun _ => z.2, fun _ => z.1⟩
  · exact ⟨fun w => absurd w z.1, fun w => absurd w z.2⟩
theorem okB.ne {x : Int32} (h : okB x) : ¬ x = -1 := by
  obtain ⟨b, hb, rfl⟩ := h
  exact x_nm1 (by omega)
/-- both bytes are there: what is read is well just where it is good -/
theorem dc_good {en : Nat} {a b : Int32} (ha : okB a) (hb : okB b) (hg : goodP en a b) (hen : en < 4) : dcV en a b = codV en a b ∧ ¬ dcV en a b = -1 := by
  have hok := (codV_ok ha hb hg hen).ne
  match en, hen with
  | 0, _ => exact ⟨rfl, hok⟩
  | 1, _ =>
    rcases hg with z | z | z | z
    · omega
    · have e : dcV 1 a b = b := by show ite _ _ _ = _; exact if_pos z.2
      rw [e]
      exact ⟨rfl, hok⟩
    · omega
    · omega
  | 2, _ =>
    rcases hg with z | z | z | z
    · omega
    · omega
    · have e : dcV 2 a b = a := by show ite _ _ _ = _; exact if_pos z.2
      rw [e]
      exact ⟨rfl, hok⟩
    · omega
  | 3, _ =>
    rcases hg with z | z | z | z
    · omega
    · omega
    · omega
    · obtain ⟨x, hx, rfl⟩ := ha
      obtain ⟨y, hy, rfl⟩ := hb
      have e : dcV 3 (nI x) (nI y) = dgI (nI x) * nI 16 + dgI (nI y) := by
        show ite _ _ _ = _
        exact if_neg (fun q => q.elim (fun q => z.2.1 ((dgI_neg x hx).mpr q)) (fun q => z.2.2 ((dgI_neg y hy).mpr q)))
      have e2 : codV 3 (nI x) (nI y) = dgI (nI x) * nI 16 + dgI (nI y) := by
        show nI 16 * dgI (nI x) + dgI (nI y) = _
        rw [Int32.mul_comm]
      rw [e, ← e2]
      exact ⟨rfl, hok⟩
theorem dc_bad {en : Nat} {a b : Int32} (ha : okB a) (hb : okB b ∨ b = -1) (hg : ¬ goodP en a b) (hen : en < 4) : dcV en a b = -1 := by
  match en, hen with
  | 0, _ => exact absurd (Or.inl rfl) hg
  | 1, _ =>
    show ite _ _ _ = _
    exact if_neg (fun z => hg (Or.inr (Or.inl ⟨rfl, z⟩)))
  | 2, _ =>
    show ite _ _ _ = _
    exact if_neg (fun z => hg (Or.inr (Or.inr (Or.inl ⟨rfl, z⟩))))
  | 3, _ =>
    show ite _ _ _ = _
    refine if_pos ?_
    obtain ⟨x, hx, rfl⟩ := ha
    by_cases h1 : dgI (nI x) = -1
    · exact Or.inl h1
    · rcases hb with ⟨y, hy, rfl⟩ | rfl
      · by_cases h2 : dgI (nI y) = -1
        · exact Or.inr h2
        · exact absurd (Or.inr (Or.inr (Or.inr ⟨rfl, fun q => h1 ((dgI_neg x hx).mp q), fun q => h2 ((dgI_neg y hy).mp q)⟩))) hg
      · exact Or.inr dgI_m1
/-- the second byte is wanting -/
theorem dc_odd {en : Nat} {a : Int32} (hen : en < 4) (h0 : en ≠ 0) : dcV en a (-1) = -1 := by
  match en, hen, h0 with
  | 1, _, _ =>
    show ite _ _ _ = _
    by_cases h : a = 0
    · rw [if_pos h]
    · rw [if_neg h]
  | 2, _, _ =>
    show (if (-1 : Int32) = 0 then a else -1) = -1
    exact if_neg (by decide +kernel)
  | 3, _, _ =>
    show ite _ _ _ = _
    exact if_pos (Or.inr dgI_m1)
theorem by_w : ∀ b, b < 256 → byP (Int32.toInt8 (nI b)).toInt32 ∧ ((Int32.toInt8 (nI b)).toInt32 &&& nI 255) = nI b := by
  intro b hb
  refine ⟨x_i2bV _, ?_⟩
  have h : ∀ b, b < 256 → ((Int32.toInt8 (nI b)).toInt32 &&& nI 255) = nI b := by decide +kernel
  exact h b hb
theorem by_nar {y : Int32} (h : byP y) : vp_nar .byte y = y := Value.int.inj h
theorem hx_hi : ∀ b, b < 256 → ((nI b >>> (nI 4 &&& 31)) &&& nI 15) = nI (b / 16) := by decide +kernel
theorem hx_lo : ∀ b, b < 256 → (nI b &&& nI 15) = nI (b % 16) := by decide +kernel
theorem hxN_lt {d : Nat} (h : d < 16) : hxN d < 256 := by
  unfold hxN
  split <;> omega
def bitP (mk : Int64) (i : Nat) : Prop := ¬ ((Int64.toUInt64 mk >>> ((Int32.toInt64 (nI i)).toUInt64 &&& Int64.toUInt64 63)).toInt64 &&& 1) = 0
/-- a row of signs, cut in its place -/
def cutS (P : Nat → Prop) (k : Nat) (f f' : Nat → Int32) : Prop := (∀ i, i < k → em P i → f' (kp P i * 4 + 0) = cV P (nI 0) (fun j => f (j * 4 + 0)) 0 i ∧ f' (kp P i * 4 + 1) = f (i * 4 + 1) ∧ f' (kp P i * 4 + 2) = f (i * 4 + 2) ∧ f' (kp P i * 4 + 3) = cV P (nI 100) (fun j => f (j * 4 + 3)) 0 i) ∧ ∀ j, kp P k * 4 ≤ j → f' j = f j
theorem rowUp_0 (f : Nat → Int32) (i : Nat) (a b c d : Int32) : rowUp f i a b c d (i * 4 + 0) = a := by
  unfold rowUp
  rw [va_up_ne _ _ (by omega), va_up_ne _ _ (by omega), va_up_ne _ _ (by omega), va_up_self]
theorem rowUp_1 (f : Nat → Int32) (i : Nat) (a b c d : Int32) : rowUp f i a b c d (i * 4 + 1) = b := by
  unfold rowUp
  rw [va_up_ne _ _ (by omega), va_up_ne _ _ (by omega), va_up_self]
theorem rowUp_2 (f : Nat → Int32) (i : Nat) (a b c d : Int32) : rowUp f i a b c d (i * 4 + 2) = c := by
  unfold rowUp
  rw [va_up_ne _ _ (by omega), va_up_self]
theorem rowUp_3 (f : Nat → Int32) (i : Nat) (a b c d : Int32) : rowUp f i a b c d (i * 4 + 3) = d := by
  unfold rowUp
  rw [va_up_self]
theorem rowUp_ne (f : Nat → Int32) {i j : Nat} (a b c d : Int32) (h : j < i * 4 ∨ i * 4 + 4 ≤ j) : rowUp f i a b c d j = f j := by
  unfold rowUp
  rw [va_up_ne _ _ (by omega), va_up_ne _ _ (by omega), va_up_ne _ _ (by omega), va_up_ne _ _ (by omega)]
theorem cutS.zero {P : Nat → Prop} {f : Nat → Int32} : cutS P 0 f f := ⟨fun i hi => absurd hi (Nat.not_lt_zero i), fun _ _ => rfl⟩
theorem cutS.no {P : Nat → Prop} {k : Nat} {f f' : Nat → Int32} (h : cutS P k f f') (he : ¬ em P k) : cutS P (k + 1) f f' := by
  refine ⟨fun i hi hem => ?_, fun j hj => ?_⟩
  · by_cases hz : i = k
    · rw [hz] at hem
      exact absurd hem he
    · exact h.1 i (by omega) hem
  · rw [kp_f he] at hj
    exact h.2 j hj
theorem cutS.yes {P : Nat → Prop} {k : Nat} {f f' : Nat → Int32} {a b c d : Int32} (h : cutS P k f f') (he : em P k) (ha : a = cV P (nI 0) (fun j => f (j * 4 + 0)) 0 k) (hb : b = f (k * 4 + 1)) (hc : c = f (k * 4 + 2)) (hd : d = cV P (nI 100) (fun j => f (j * 4 + 3)) 0 k) : cutS P (k + 1) f (rowUp f' (kp P k) a b c d) := by
  refine ⟨fun i hi hem => ?_, fun j hj => ?_⟩
  · by_cases hz : i = k
    · rw [hz, rowUp_0, rowUp_1, rowUp_2, rowUp_3]
      exact ⟨ha, hb, hc, hd⟩
    · have := kp_lt hem (show i < k by omega)
      rw [rowUp_ne _ _ _ _ _ (by omega), rowUp_ne _ _ _ _ _ (by omega), rowUp_ne _ _ _ _ _ (by omega), rowUp_ne _ _ _ _ _ (by omega)]
      exact h.1 i (by omega) hem
  · rw [kp_t he] at hj
    rw [rowUp_ne _ _ _ _ _ (by omega)]
    exact h.2 j (by omega)
theorem cutS.keep {P : Nat → Prop} {k : Nat} {f f' : Nat → Int32} (h : cutS P k f f') (hp : ¬ P k) : cutS P (k + 1) f (rowUp f' (kp P k) (f' (k * 4 + 0)) (f' (k * 4 + 1)) (f' (k * 4 + 2)) (f' (k * 4 + 3))) := by
  have := kp_le P k
  exact h.yes (Or.inl hp) (by rw [cV_f hp, Nat.zero_add]; exact h.2 _ (by omega)) (h.2 _ (by omega)) (h.2 _ (by omega)) (by rw [cV_f hp, Nat.zero_add]; exact h.2 _ (by omega))
theorem cutS.blot {P : Nat → Prop} {k : Nat} {f f' : Nat → Int32} (h : cutS P k f f') (hp : P k) (he : em P k) : cutS P (k + 1) f (rowUp f' (kp P k) (nI 0) (f' (k * 4 + 1)) (f' (k * 4 + 2)) (nI 100)) := by
  have := kp_le P k
  exact h.yes he (cV_t hp).symm (h.2 _ (by omega)) (h.2 _ (by omega)) (cV_t hp).symm
theorem cutC.keep {P : Nat → Prop} {k : Nat} {f f' : Nat → Int32} (h : cutI P 0 k (cV P (nI 42) f 0) f f') (hp : ¬ P k) : cutI P 0 (k + 1) (cV P (nI 42) f 0) f (va_up f' (kp P k) (f' k)) := by
  have := kp_le P k
  exact h.yes (Or.inl hp) (by rw [Nat.zero_add]) (by rw [cV_f hp, Nat.zero_add]; exact h.2 _ (by omega))
theorem cutC.blot {P : Nat → Prop} {k : Nat} {f f' : Nat → Int32} (h : cutI P 0 k (cV P (nI 42) f 0) f f') (hp : P k) (he : em P k) : cutI P 0 (k + 1) (cV P (nI 42) f 0) f (va_up f' (kp P k) (nI 42)) :=
  h.yes he (by rw [Nat.zero_add]) (cV_t hp).symm
theorem em_run {P : Nat → Prop} {k : Nat} (h : ¬ (0 < k ∧ P (k - 1))) : em P k := by
  by_cases hz : k = 0
  · exact Or.inr (Or.inl hz)
  · exact Or.inr (Or.inr (fun z => h ⟨by omega, z⟩))
theorem em_not {P : Nat → Prop} {k : Nat} (hp : P k) (h : 0 < k ∧ P (k - 1)) : ¬ em P k := by
  rintro (z | z | z)
  · exact z hp
  · omega
  · exact z h.2
