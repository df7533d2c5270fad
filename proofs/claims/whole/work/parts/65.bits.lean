/-! marks as the bits of a long -/
theorem bt_iff (N i : Nat) : N / 2 ^ i % 2 = 1 ↔ N.testBit i = true := by
  rw [Nat.testBit_eq_decide_div_mod_eq]
  simp
theorem bitP_lN {N i : Nat} (hN : N < 2 ^ 64) (hi : i < 64) : bitP (lN N) i ↔ N.testBit i = true := by
  rw [← bt_iff]
  unfold bitP
  rw [wb_bit hN hi]
  have h2 : N / 2 ^ i % 2 < 2 := Nat.mod_lt _ (by decide)
  have e0 : (0 : Int64) = lN 0 := rfl
  rw [e0, lN_eq (by omega) (by decide)]
  omega
theorem bitP_0 {i : Nat} (hi : i < 64) : ¬ bitP 0 i := by
  rw [show (0 : Int64) = lN 0 from rfl, bitP_lN (by decide) hi, Nat.zero_testBit]
  decide
theorem bitP_or {a b : Int64} {i : Nat} (hi : i < 64) : bitP (a ||| b) i ↔ bitP a i ∨ bitP b i := by
  obtain ⟨x, hx, rfl⟩ := wb_of a
  obtain ⟨y, hy, rfl⟩ := wb_of b
  rw [wb_or hx hy, bitP_lN (Nat.or_lt_two_pow hx hy) hi, bitP_lN hx hi, bitP_lN hy hi, Nat.testBit_or]
  simp
theorem bitP_one {k i : Nat} (hk : k < 64) (hi : i < 64) : bitP (1 <<< ((nI k).toInt64 &&& 63)) i ↔ i = k := by
  rw [show (1 : Int64) = lN 1 from rfl, wb_shl 1 hk, Nat.one_mul, bitP_lN (wb_lt2 hk) hi, Nat.testBit_two_pow]
  simp [eq_comm]
theorem bitP_run {n k i : Nat} (hn : n < 62) (hk : k + n < 63) (hi : i < 64) : bitP (((1 <<< ((nI n).toInt64 &&& 63)) - 1) <<< ((nI k).toInt64 &&& 63)) i ↔ k ≤ i ∧ i < k + n := by
  have h1 : 1 ≤ 2 ^ n := Nat.one_le_two_pow
  have e1 : (1 <<< ((nI n).toInt64 &&& 63) : Int64) - 1 = lN (2 ^ n - 1) := by
    rw [show (1 : Int64) = lN 1 from rfl, wb_shl 1 (by omega), Nat.one_mul, lN_sub h1]
  have hlt : (2 ^ n - 1) * 2 ^ k < 2 ^ 64 := by
    have a1 : (2 ^ n - 1) * 2 ^ k ≤ 2 ^ n * 2 ^ k := Nat.mul_le_mul_right _ (by omega)
    have a2 : 2 ^ n * 2 ^ k = 2 ^ (n + k) := (Nat.pow_add 2 n k).symm
    have a3 := wb_lt2 (show n + k < 64 by omega)
    omega
  rw [e1, wb_shl _ (by omega), bitP_lN hlt hi, ← Nat.shiftLeft_eq, Nat.testBit_shiftLeft, Nat.testBit_two_pow_sub_one]
  simp
  omega
theorem bitP_ext {a b : Int64} (h : ∀ i, i < 64 → (bitP a i ↔ bitP b i)) : a = b := by
  obtain ⟨x, hx, rfl⟩ := wb_of a
  obtain ⟨y, hy, rfl⟩ := wb_of b
  congr 1
  refine Nat.eq_of_testBit_eq (fun i => ?_)
  by_cases hi : i < 64
  · have := h i hi
    rw [bitP_lN hx hi, bitP_lN hy hi] at this
    cases hxi : x.testBit i <;> cases hyi : y.testBit i <;> simp_all
  · rw [Nat.testBit_lt_two_pow (Nat.lt_of_lt_of_le hx (Nat.pow_le_pow_right (by decide) (by omega))), Nat.testBit_lt_two_pow (Nat.lt_of_lt_of_le hy (Nat.pow_le_pow_right (by decide) (by omega)))]
theorem pcN_1 (y : Nat) : pcN 1 y = y % 2 := by
  show y % 2 + pcN 0 (y / 2) = y % 2
  rfl
theorem pcN_cnt : ∀ (n x : Nat), pcN n x = cnt (fun i => x / 2 ^ i % 2 = 1) n
  | 0, x => rfl
  | n + 1, x => by
    rw [pcN_split n 1 x, pcN_1, pcN_cnt n (x % 2 ^ n)]
    have e : cnt (fun i => x % 2 ^ n / 2 ^ i % 2 = 1) n = cnt (fun i => x / 2 ^ i % 2 = 1) n := by
      refine cnt_c (fun k hk => ?_)
      show x % 2 ^ n / 2 ^ k % 2 = 1 ↔ x / 2 ^ k % 2 = 1
      rw [bt_iff, bt_iff, Nat.testBit_mod_two_pow]
      simp [hk]
    rw [e]
    by_cases h : x / 2 ^ n % 2 = 1
    · rw [cnt_t (P := fun i => x / 2 ^ i % 2 = 1) h, h]
    · rw [cnt_f (P := fun i => x / 2 ^ i % 2 = 1) h]
      have : x / 2 ^ n % 2 < 2 := Nat.mod_lt _ (by decide)
      omega
/-- what Long.bitCount computes -/
theorem pop_val {x : Nat} (hx : x < 2 ^ 64) :
    let a := x - (x / 2 &&& 6148914691236517205)
    let b := (a &&& 3689348814741910323) + (a / 4 &&& 3689348814741910323)
    let c := (b + b / 16) &&& 1085102592571150095
    a = pw_1 32 x ∧ b = pw_2 16 x ∧ c = pw_4 8 x := by
  have h5 : (6148914691236517205 : Nat) = pw_5 32 := by decide +kernel
  have h3 : (3689348814741910323 : Nat) = pw_3 16 := by decide +kernel
  have hf : (1085102592571150095 : Nat) = pw_f 8 := by decide +kernel
  have h4 : (4 : Nat) ^ 32 = 2 ^ 64 := by decide +kernel
  intro a b c
  have e1 : a = pw_1 32 x := by
    show x - (x / 2 &&& 6148914691236517205) = _
    rw [h5]
    exact (pw_s1 32 x (by rw [h4]; exact hx)).2
  have e2 : b = pw_2 16 x := by
    show (a &&& 3689348814741910323) + (a / 4 &&& 3689348814741910323) = _
    rw [e1, h3]
    exact pw_s2 16 x
  refine ⟨e1, e2, ?_⟩
  show (b + b / 16) &&& 1085102592571150095 = _
  rw [e2, hf]
  exact pw_s4 8 x
theorem pw_2_lt : ∀ (n x : Nat), pw_2 n x < 16 ^ n
  | 0, _ => by simp [pw_2]
  | n + 1, x => by
    have h := pw_2_lt n (x / 16)
    have h2 := pw_c4 (x % 16) (by omega)
    show pcN 4 (x % 16) + 16 * pw_2 n (x / 16) < 16 ^ (n + 1)
    rw [Nat.pow_succ]
    omega
theorem pw_2_half : ∀ (n x : Nat), 2 * pw_2 n x < 16 ^ n ∨ n = 0
  | 0, _ => Or.inr rfl
  | n + 1, x => by
    have h2 := pw_c4 (x % 16) (by omega)
    refine Or.inl ?_
    show 2 * (pcN 4 (x % 16) + 16 * pw_2 n (x / 16)) < 16 ^ (n + 1)
    rw [Nat.pow_succ]
    rcases pw_2_half n (x / 16) with h | h
    · omega
    · subst h
      simp [pw_2]
      omega
