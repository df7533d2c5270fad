theorem wb_tb (n : Nat) : (lN n).toBitVec = BitVec.ofNat 64 n := rfl
theorem wb_inj {a b : Int64} (h : a.toBitVec = b.toBitVec) : a = b := Int64.toBitVec_inj.mp h
theorem wb_tn {n : Nat} (h : n < 2 ^ 64) : (lN n).toBitVec.toNat = n := by rw [wb_tb, BitVec.toNat_ofNat, Nat.mod_eq_of_lt h]
theorem wb_of (x : Int64) : ∃ n, n < 2 ^ 64 ∧ x = lN n := ⟨x.toBitVec.toNat, x.toBitVec.isLt, wb_inj (by rw [wb_tb]; simp)⟩
theorem wb_of32 (x : Int32) : ∃ n, n < 2 ^ 32 ∧ x = nI n := ⟨x.toBitVec.toNat, x.toBitVec.isLt, Int32.toBitVec_inj.mp (by show _ = BitVec.ofNat 32 _; simp)⟩
theorem wb_c : ∀ k, k < 64 → ((nI k).toInt64 &&& 63) = lN k := by decide +kernel
theorem wb_cu : ∀ k, k < 64 → ((nI k).toInt64.toUInt64 &&& Int64.toUInt64 63) = UInt64.ofNat k := by decide +kernel
theorem wb_sm : ∀ k, k < 64 → (BitVec.ofNat 64 k).smod 64 = BitVec.ofNat 64 k := by decide +kernel
theorem wb_pw {a b : Nat} (h : a ≤ b) : 2 ^ b = 2 ^ a * 2 ^ (b - a) := by rw [← Nat.pow_add]; congr 1; omega
theorem wb_lt2 {a b : Nat} (h : a < b) : 2 ^ a < 2 ^ b := Nat.pow_lt_pow_right (by decide) h
theorem wb_mod (n : Nat) : lN n = lN (n % 2 ^ 64) := wb_inj (by rw [wb_tb, wb_tb]; apply BitVec.eq_of_toNat_eq; rw [BitVec.toNat_ofNat, BitVec.toNat_ofNat, Nat.mod_mod])
theorem wb_shr {n k : Nat} (hn : n < 2 ^ 64) (hk : k < 64) : ((lN n).toUInt64 >>> ((nI k).toInt64.toUInt64 &&& Int64.toUInt64 63)).toInt64 = lN (n / 2 ^ k) := by
  rw [wb_cu k hk]
  apply wb_inj
  apply BitVec.eq_of_toNat_eq
  show ((lN n).toUInt64 >>> UInt64.ofNat k).toNat = (BitVec.ofNat 64 _).toNat
  have h1 : (UInt64.ofNat k).toNat = k := by
    show (BitVec.ofNat 64 k).toNat = k
    rw [BitVec.toNat_ofNat, Nat.mod_eq_of_lt (by omega)]
  have h2 : (lN n).toUInt64.toNat = n := wb_tn hn
  rw [UInt64.toNat_shiftRight, h1, h2, Nat.mod_eq_of_lt hk, Nat.shiftRight_eq_div_pow, BitVec.toNat_ofNat, Nat.mod_eq_of_lt (Nat.lt_of_le_of_lt (Nat.div_le_self _ _) hn)]
theorem wb_shl (n : Nat) {k : Nat} (hk : k < 64) : lN n <<< ((nI k).toInt64 &&& 63) = lN (n * 2 ^ k) := by
  rw [wb_c k hk]
  apply wb_inj
  rw [Int64.toBitVec_shiftLeft, wb_tb, wb_tb, wb_tb, wb_sm k hk]
  apply BitVec.eq_of_toNat_eq
  rw [BitVec.shiftLeft_eq', BitVec.toNat_shiftLeft, BitVec.toNat_ofNat, BitVec.toNat_ofNat, BitVec.toNat_ofNat, Nat.mod_eq_of_lt (show k < 2 ^ 64 by omega), Nat.shiftLeft_eq, Nat.mul_mod, Nat.mod_mod, ← Nat.mul_mod]
theorem wb_and {a b : Nat} (ha : a < 2 ^ 64) (hb : b < 2 ^ 64) : lN a &&& lN b = lN (a &&& b) := by
  apply wb_inj
  rw [Int64.toBitVec_and, wb_tb, wb_tb, wb_tb]
  apply BitVec.eq_of_toNat_eq
  rw [BitVec.toNat_and, BitVec.toNat_ofNat, BitVec.toNat_ofNat, BitVec.toNat_ofNat, Nat.mod_eq_of_lt ha, Nat.mod_eq_of_lt hb, Nat.mod_eq_of_lt (Nat.and_lt_two_pow _ hb)]
theorem wb_or {a b : Nat} (ha : a < 2 ^ 64) (hb : b < 2 ^ 64) : lN a ||| lN b = lN (a ||| b) := by
  apply wb_inj
  rw [Int64.toBitVec_or, wb_tb, wb_tb, wb_tb]
  apply BitVec.eq_of_toNat_eq
  rw [BitVec.toNat_or, BitVec.toNat_ofNat, BitVec.toNat_ofNat, BitVec.toNat_ofNat, Nat.mod_eq_of_lt ha, Nat.mod_eq_of_lt hb, Nat.mod_eq_of_lt (Nat.or_lt_two_pow ha hb)]
theorem wb_mask {n k : Nat} (hn : n < 2 ^ 64) (hk : k < 64) : lN n &&& lN (2 ^ k - 1) = lN (n % 2 ^ k) := by
  rw [wb_and hn (by have := wb_lt2 hk; omega), Nat.and_two_pow_sub_one_eq_mod]
theorem wb_a1 {n : Nat} (hn : n < 2 ^ 64) : lN n &&& 1 = lN (n % 2) := wb_mask (k := 1) hn (by decide)
theorem wb_bit {n k : Nat} (hn : n < 2 ^ 64) (hk : k < 64) : ((lN n).toUInt64 >>> ((nI k).toInt64.toUInt64 &&& Int64.toUInt64 63)).toInt64 &&& 1 = lN (n / 2 ^ k % 2) := by
  rw [wb_shr hn hk, wb_a1 (Nat.lt_of_le_of_lt (Nat.div_le_self _ _) hn)]
/-! Long.bitCount: the sums of bits, as numbers -/
def pcN : Nat → Nat → Nat
  | 0, _ => 0
  | n + 1, x => x % 2 + pcN n (x / 2)
theorem pw_and (a b k : Nat) : a &&& b = (a % 2 ^ k &&& b % 2 ^ k) + 2 ^ k * (a / 2 ^ k &&& b / 2 ^ k) := by
  rw [← Nat.and_mod_two_pow, ← Nat.and_div_two_pow]
  exact (Nat.mod_add_div _ _).symm
def pw_5 : Nat → Nat
  | 0 => 0
  | n + 1 => 1 + 4 * pw_5 n
def pw_3 : Nat → Nat
  | 0 => 0
  | n + 1 => 3 + 16 * pw_3 n
def pw_f : Nat → Nat
  | 0 => 0
  | n + 1 => 15 + 256 * pw_f n
def pw_1 : Nat → Nat → Nat
  | 0, _ => 0
  | n + 1, x => (x % 4 - x % 4 / 2) + 4 * pw_1 n (x / 4)
def pw_2 : Nat → Nat → Nat
  | 0, _ => 0
  | n + 1, x => pcN 4 (x % 16) + 16 * pw_2 n (x / 16)
def pw_4 : Nat → Nat → Nat
  | 0, _ => 0
  | n + 1, x => pcN 8 (x % 256) + 256 * pw_4 n (x / 256)
theorem pw_s1 : ∀ (n x : Nat), x < 4 ^ n → (x / 2 &&& pw_5 n) ≤ x ∧ x - (x / 2 &&& pw_5 n) = pw_1 n x
  | 0, x, h => by
    have : x = 0 := by simpa using h
    subst this
    simp [pw_5, pw_1]
  | n + 1, x, h => by
    have hx : x / 4 < 4 ^ n := by
      rw [Nat.pow_succ] at h
      omega
    obtain ⟨h1, h2⟩ := pw_s1 n (x / 4) hx
    have e : (x / 2 &&& pw_5 (n + 1)) = x % 4 / 2 + 4 * (x / 4 / 2 &&& pw_5 n) := by
      rw [pw_and (x / 2) (pw_5 (n + 1)) 2]
      have e1 : pw_5 (n + 1) % 2 ^ 2 = 1 := by show (1 + 4 * pw_5 n) % 4 = 1; omega
      have e2 : pw_5 (n + 1) / 2 ^ 2 = pw_5 n := by show (1 + 4 * pw_5 n) / 4 = pw_5 n; omega
      rw [e1, e2]
      have e3 : x / 2 / 2 ^ 2 = x / 4 / 2 := by show x / 2 / 4 = x / 4 / 2; omega
      have e4 : (x / 2 % 2 ^ 2 &&& 1) = x % 4 / 2 := by
        rw [Nat.and_one_is_mod]
        show x / 2 % 4 % 2 = x % 4 / 2
        omega
      rw [e3, e4]
    rw [e]
    refine ⟨by omega, ?_⟩
    show _ = (x % 4 - x % 4 / 2) + 4 * pw_1 n (x / 4)
    rw [← h2]
    omega
theorem pw_1_lt : ∀ (n x : Nat), pw_1 n x < 4 ^ n
  | 0, _ => by simp [pw_1]
  | n + 1, x => by
    have h := pw_1_lt n (x / 4)
    show (x % 4 - x % 4 / 2) + 4 * pw_1 n (x / 4) < 4 ^ (n + 1)
    rw [Nat.pow_succ]
    omega
theorem pw_d16 : ∀ d, d < 16 → (pw_1 2 d &&& 3) + (pw_1 2 d / 4 &&& 3) = pcN 4 d := by decide +kernel
theorem pw_12 : ∀ (n x : Nat), pw_1 (2 * (n + 1)) x = pw_1 2 (x % 16) + 16 * pw_1 (2 * n) (x / 16) := by
  intro n x
  show (x % 4 - x % 4 / 2) + 4 * ((x / 4 % 4 - x / 4 % 4 / 2) + 4 * pw_1 (2 * n) (x / 4 / 4)) = (x % 16 % 4 - x % 16 % 4 / 2) + 4 * ((x % 16 / 4 % 4 - x % 16 / 4 % 4 / 2) + 4 * 0) + 16 * pw_1 (2 * n) (x / 16)
  have e1 : x / 4 / 4 = x / 16 := by omega
  have e2 : x % 16 % 4 = x % 4 := by omega
  have e3 : x % 16 / 4 % 4 = x / 4 % 4 := by omega
  rw [e1, e2, e3]
  omega
theorem pw_s2 : ∀ (n x : Nat), (pw_1 (2 * n) x &&& pw_3 n) + (pw_1 (2 * n) x / 4 &&& pw_3 n) = pw_2 n x
  | 0, x => by simp [pw_3, pw_2]
  | n + 1, x => by
    have ih := pw_s2 n (x / 16)
    have hd := pw_d16 (x % 16) (by omega)
    have hlt : pw_1 2 (x % 16) < 16 := pw_1_lt 2 _
    rw [pw_12 n x]
    generalize pw_1 2 (x % 16) = q at hd hlt ⊢
    generalize pw_1 (2 * n) (x / 16) = y at ih ⊢
    rw [pw_and (q + 16 * y) (pw_3 (n + 1)) 4, pw_and ((q + 16 * y) / 4) (pw_3 (n + 1)) 4]
    have e1 : pw_3 (n + 1) % 2 ^ 4 = 3 := by show (3 + 16 * pw_3 n) % 16 = 3; omega
    have e2 : pw_3 (n + 1) / 2 ^ 4 = pw_3 n := by show (3 + 16 * pw_3 n) / 16 = pw_3 n; omega
    have e3 : (q + 16 * y) % 2 ^ 4 = q := by show (q + 16 * y) % 16 = q; omega
    have e4 : (q + 16 * y) / 2 ^ 4 = y := by show (q + 16 * y) / 16 = y; omega
    have e5 : (q + 16 * y) / 4 / 2 ^ 4 = y / 4 := by show (q + 16 * y) / 4 / 16 = y / 4; omega
    have e6 : ((q + 16 * y) / 4 % 2 ^ 4 &&& 3) = (q / 4 &&& 3) := by
      have z : ∀ k, (k &&& 3) = k % 4 := fun k => Nat.and_two_pow_sub_one_eq_mod k 2
      rw [z, z]
      show (q + 16 * y) / 4 % 16 % 4 = q / 4 % 4
      omega
    rw [e1, e2, e3, e4, e5, e6]
    show _ = pcN 4 (x % 16) + 16 * pw_2 n (x / 16)
    rw [← hd, ← ih]
    show (q &&& 3) + 16 * _ + ((q / 4 &&& 3) + 16 * _) = _
    omega
theorem pw_c4 : ∀ d, d < 16 → pcN 4 d ≤ 4 := by decide +kernel
theorem pw_c8 : ∀ d, d < 256 → pcN 4 (d % 16) + pcN 4 (d / 16 % 16) = pcN 8 d ∧ pcN 8 d ≤ 8 := by decide +kernel
theorem pw_22 (n x : Nat) : pw_2 (2 * (n + 1)) x = pcN 4 (x % 256 % 16) + 16 * pcN 4 (x % 256 / 16 % 16) + 256 * pw_2 (2 * n) (x / 256) := by
  show pcN 4 (x % 16) + 16 * (pcN 4 (x / 16 % 16) + 16 * pw_2 (2 * n) (x / 16 / 16)) = _
  have e1 : x % 256 % 16 = x % 16 := by omega
  have e2 : x % 256 / 16 % 16 = x / 16 % 16 := by omega
  have e3 : x / 16 / 16 = x / 256 := by omega
  rw [e1, e2, e3]
  omega
theorem pw_2lo (n x : Nat) : pw_2 n x % 16 ≤ 4 := by
  cases n with
  | zero => simp [pw_2]
  | succ n =>
    have h := pw_c4 (x % 16) (by omega)
    show (pcN 4 (x % 16) + 16 * pw_2 n (x / 16)) % 16 ≤ 4
    omega
theorem pw_s4 : ∀ (n x : Nat), ((pw_2 (2 * n) x + pw_2 (2 * n) x / 16) &&& pw_f n) = pw_4 n x
  | 0, x => by simp [pw_f, pw_4]
  | n + 1, x => by
    have ih := pw_s4 n (x / 256)
    have hd := (pw_c8 (x % 256) (by omega)).1
    have ha := pw_c4 (x % 256 % 16) (by omega)
    have hb := pw_c4 (x % 256 / 16 % 16) (by omega)
    have hlo := pw_2lo (2 * n) (x / 256)
    rw [pw_22 n x]
    generalize pcN 4 (x % 256 % 16) = u at hd ha ⊢
    generalize pcN 4 (x % 256 / 16 % 16) = v at hd hb ⊢
    generalize pw_2 (2 * n) (x / 256) = z at ih hlo ⊢
    rw [pw_and _ (pw_f (n + 1)) 8]
    have e1 : pw_f (n + 1) % 2 ^ 8 = 15 := by show (15 + 256 * pw_f n) % 256 = 15; omega
    have e2 : pw_f (n + 1) / 2 ^ 8 = pw_f n := by show (15 + 256 * pw_f n) / 256 = pw_f n; omega
    have e3 : ((u + 16 * v + 256 * z + (u + 16 * v + 256 * z) / 16) % 2 ^ 8 &&& 15) = u + v := by
      have zz : ∀ k, (k &&& 15) = k % 16 := fun k => Nat.and_two_pow_sub_one_eq_mod k 4
      rw [zz]
      show (u + 16 * v + 256 * z + (u + 16 * v + 256 * z) / 16) % 256 % 16 = u + v
      omega
    have e4 : (u + 16 * v + 256 * z + (u + 16 * v + 256 * z) / 16) / 2 ^ 8 = z + z / 16 := by
      show (u + 16 * v + 256 * z + (u + 16 * v + 256 * z) / 16) / 256 = z + z / 16
      omega
    rw [e1, e2, e3, e4, ih]
    show u + v + 2 ^ 8 * pw_4 n (x / 256) = pcN 8 (x % 256) + 256 * pw_4 n (x / 256)
    rw [← hd]
    rfl
theorem pcN_split : ∀ (a b x : Nat), pcN (a + b) x = pcN a (x % 2 ^ a) + pcN b (x / 2 ^ a)
  | 0, b, x => by simp [pcN]
  | a + 1, b, x => by
    have h := pcN_split a b (x / 2)
    rw [show a + 1 + b = (a + b) + 1 by omega]
    show x % 2 + pcN (a + b) (x / 2) = x % 2 ^ (a + 1) % 2 + pcN a (x % 2 ^ (a + 1) / 2) + pcN b (x / 2 ^ (a + 1))
    rw [h]
    have e1 : x % 2 ^ (a + 1) % 2 = x % 2 := by
      rw [Nat.pow_succ, Nat.mul_comm]
      exact Nat.mod_mul_right_mod x 2 (2 ^ a)
    have e2 : x % 2 ^ (a + 1) / 2 = x / 2 % 2 ^ a := by
      rw [Nat.pow_succ, Nat.mul_comm, Nat.mod_mul_right_div_self]
    have e3 : x / 2 ^ (a + 1) = x / 2 / 2 ^ a := by
      rw [Nat.pow_succ, Nat.mul_comm, Nat.div_div_eq_div_mul]
    rw [e1, e2, e3]
    omega
/-- the last three additions over eight bytes of at most 8 -/
theorem pw_end (w c0 c1 c2 c3 c4 c5 c6 c7 : Nat) (h0 : c0 ≤ 8) (h1 : c1 ≤ 8) (h2 : c2 ≤ 8) (h3 : c3 ≤ 8) (h4 : c4 ≤ 8) (h5 : c5 ≤ 8) (h6 : c6 ≤ 8) (h7 : c7 ≤ 8)
    (hw : w = c0 + 256 * (c1 + 256 * (c2 + 256 * (c3 + 256 * (c4 + 256 * (c5 + 256 * (c6 + 256 * c7))))))) :
    w < 2 ^ 62 ∧ (w + w / 256) < 2 ^ 62 ∧ (w + w / 256 + (w + w / 256) / 65536) < 2 ^ 62 ∧ (w + w / 256 + (w + w / 256) / 65536 + (w + w / 256 + (w + w / 256) / 65536) / 4294967296) < 2 ^ 63 ∧
    (w + w / 256 + (w + w / 256) / 65536 + (w + w / 256 + (w + w / 256) / 65536) / 4294967296) % 128 = c0 + c1 + c2 + c3 + c4 + c5 + c6 + c7 := by
  have a1 : w / 256 = c1 + 256 * (c2 + 256 * (c3 + 256 * (c4 + 256 * (c5 + 256 * (c6 + 256 * c7))))) := by omega
  rw [a1]
  generalize hA : w + (c1 + 256 * (c2 + 256 * (c3 + 256 * (c4 + 256 * (c5 + 256 * (c6 + 256 * c7)))))) = A
  have a2 : A / 65536 = (c2 + c3) + 256 * ((c3 + c4) + 256 * ((c4 + c5) + 256 * ((c5 + c6) + 256 * ((c6 + c7) + 256 * c7)))) := by omega
  rw [a2]
  generalize hB : A + ((c2 + c3) + 256 * ((c3 + c4) + 256 * ((c4 + c5) + 256 * ((c5 + c6) + 256 * ((c6 + c7) + 256 * c7))))) = B
  have a3 : B / 4294967296 = (c4 + c5 + c6 + c7) + 256 * ((c5 + c6 + c7) + 256 * ((c6 + c7) + 256 * c7)) := by omega
  rw [a3]
  omega
theorem pw_8 (x : Nat) (hx : x < 2 ^ 64) : ∃ c0 c1 c2 c3 c4 c5 c6 c7, c0 ≤ 8 ∧ c1 ≤ 8 ∧ c2 ≤ 8 ∧ c3 ≤ 8 ∧ c4 ≤ 8 ∧ c5 ≤ 8 ∧ c6 ≤ 8 ∧ c7 ≤ 8 ∧ pw_4 8 x = c0 + 256 * (c1 + 256 * (c2 + 256 * (c3 + 256 * (c4 + 256 * (c5 + 256 * (c6 + 256 * c7)))))) ∧ pcN 64 x = c0 + c1 + c2 + c3 + c4 + c5 + c6 + c7 := by
  have hc : ∀ y, pcN 8 (y % 256) ≤ 8 := fun y => (pw_c8 (y % 256) (by omega)).2
  refine ⟨pcN 8 (x % 256), pcN 8 (x / 256 % 256), pcN 8 (x / 256 / 256 % 256), pcN 8 (x / 256 / 256 / 256 % 256), pcN 8 (x / 256 / 256 / 256 / 256 % 256), pcN 8 (x / 256 / 256 / 256 / 256 / 256 % 256), pcN 8 (x / 256 / 256 / 256 / 256 / 256 / 256 % 256), pcN 8 (x / 256 / 256 / 256 / 256 / 256 / 256 / 256 % 256), hc _, hc _, hc _, hc _, hc _, hc _, hc _, hc _, ?_, ?_⟩
  · simp only [pw_4]
    omega
  · have s : ∀ b y, pcN (8 + b) y = pcN 8 (y % 256) + pcN b (y / 256) := fun b y => pcN_split 8 b y
    rw [show (64 : Nat) = 8 + (8 + (8 + (8 + (8 + (8 + (8 + (8 + 0))))))) from rfl, s, s, s, s, s, s, s, s]
    simp only [pcN]
    omega
/-! marks as the bits of a long -/
theorem bt_iff (N i : Nat) : N / 2 ^ i % 2 = 1 ↔ N.testBit i = true := by
  rw [Nat.testBit_eq_decide_div_mod_eq]
  simp
theorem bitP_lN {N i : Nat} (hN : N < 2 ^ 64) (hi : i < 64) : bitP (lN N) i ↔ N.testBit i = true := by
  rw [← bt_iff]
  unfold bitP
  rw [wb_bit hN hi]
  have h2 : N / 2 ^ i % 2 < 2 := Nat.mod_lt _ (by decide)
  have e0 : (0 : Int64) = lN 0 := rfl
  rw [e0, lN_eq (by omega) (by decide)]
  omega
theorem bitP_0 {i : Nat} (hi : i < 64) : ¬ bitP 0 i := by
  rw [show (0 : Int64) = lN 0 from rfl, bitP_lN (by decide) hi, Nat.zero_testBit]
  decide
theorem bitP_or {a b : Int64} {i : Nat} (hi : i < 64) : bitP (a ||| b) i ↔ bitP a i ∨ bitP b i := by
  obtain ⟨x, hx, rfl⟩ := wb_of a
  obtain ⟨y, hy, rfl⟩ := wb_of b
  rw [wb_or hx hy, bitP_lN (Nat.or_lt_two_pow hx hy) hi, bitP_lN hx hi, bitP_lN hy hi, Nat.testBit_or]
  simp
theorem bitP_one {k i : Nat} (hk : k < 64) (hi : i < 64) : bitP (1 <<< ((nI k).toInt64 &&& 63)) i ↔ i = k := by
  rw [show (1 : Int64) = lN 1 from rfl, wb_shl 1 hk, Nat.one_mul, bitP_lN (wb_lt2 hk) hi, Nat.testBit_two_pow]
  simp [eq_comm]
theorem bitP_run {n k i : Nat} (hn : n < 62) (hk : k + n < 63) (hi : i < 64) : bitP (((1 <<< ((nI n).toInt64 &&& 63)) - 1) <<< ((nI k).toInt64 &&& 63)) i ↔ k ≤ i ∧ i < k + n := by
  have h1 : 1 ≤ 2 ^ n := Nat.one_le_two_pow
  have e1 : (1 <<< ((nI n).toInt64 &&& 63) : Int64) - 1 = lN (2 ^ n - 1) := by
    rw [show (1 : Int64) = lN 1 from rfl, wb_shl 1 (by omega), Nat.one_mul, lN_sub h1]
  have hlt : (2 ^ n - 1) * 2 ^ k < 2 ^ 64 := by
    have a1 : (2 ^ n - 1) * 2 ^ k ≤ 2 ^ n * 2 ^ k := Nat.mul_le_mul_right _ (by omega)
    have a2 : 2 ^ n * 2 ^ k = 2 ^ (n + k) := (Nat.pow_add 2 n k).symm
    have a3 := wb_lt2 (show n + k < 64 by omega)
    omega
  rw [e1, wb_shl _ (by omega), bitP_lN hlt hi, ← Nat.shiftLeft_eq, Nat.testBit_shiftLeft, Nat.testBit_two_pow_sub_one]
  simp
  omega
theorem bitP_ext {a b : Int64} (h : ∀ i, i < 64 → (bitP a i ↔ bitP b i)) : a = b := by
  obtain ⟨x, hx, rfl⟩ := wb_of a
  obtain ⟨y, hy, rfl⟩ := wb_of b
  congr 1
  refine Nat.eq_of_testBit_eq (fun i => ?_)
  by_cases hi : i < 64
  · have := h i hi
    rw [bitP_lN hx hi, bitP_lN hy hi] at this
    cases hxi : x.testBit i <;> cases hyi : y.testBit i <;> simp_all
  · rw [Nat.testBit_lt_two_pow (Nat.lt_of_lt_of_le hx (Nat.pow_le_pow_right (by decide) (by omega))), Nat.testBit_lt_two_pow (Nat.lt_of_lt_of_le hy (Nat.pow_le_pow_right (by decide) (by omega)))]
theorem pcN_1 (y : Nat) : pcN 1 y = y % 2 := by
  show y % 2 + pcN 0 (y / 2) = y % 2
  rfl
theorem pcN_cnt : ∀ (n x : Nat), pcN n x = cnt (fun i => x / 2 ^ i % 2 = 1) n
  | 0, x => rfl
  | n + 1, x => by
    rw [pcN_split n 1 x, pcN_1, pcN_cnt n (x % 2 ^ n)]
    have e : cnt (fun i => x % 2 ^ n / 2 ^ i % 2 = 1) n = cnt (fun i => x / 2 ^ i % 2 = 1) n := by
      refine cnt_c (fun k hk => ?_)
      show x % 2 ^ n / 2 ^ k % 2 = 1 ↔ x / 2 ^ k % 2 = 1
      rw [bt_iff, bt_iff, Nat.testBit_mod_two_pow]
      simp [hk]
    rw [e]
    by_cases h : x / 2 ^ n % 2 = 1
    · rw [cnt_t h, h]
    · rw [cnt_f h]
      have : x / 2 ^ n % 2 < 2 := Nat.mod_lt _ (by decide)
      omega
/-- what Long.bitCount computes -/
theorem pop_val {x : Nat} (hx : x < 2 ^ 64) :
    let a := x - (x / 2 &&& 6148914691236517205)
    let b := (a &&& 3689348814741910323) + (a / 4 &&& 3689348814741910323)
    let c := (b + b / 16) &&& 1085102592571150095
    a = pw_1 32 x ∧ b = pw_2 16 x ∧ c = pw_4 8 x := by
  have h5 : (6148914691236517205 : Nat) = pw_5 32 := by decide +kernel
  have h3 : (3689348814741910323 : Nat) = pw_3 16 := by decide +kernel
  have hf : (1085102592571150095 : Nat) = pw_f 8 := by decide +kernel
  have h4 : (4 : Nat) ^ 32 = 2 ^ 64 := by decide +kernel
  intro a b c
  have e1 : a = pw_1 32 x := by
    show x - (x / 2 &&& 6148914691236517205) = _
    rw [h5]
    exact (pw_s1 32 x (by rw [h4]; exact hx)).2
  have e2 : b = pw_2 16 x := by
    show (a &&& 3689348814741910323) + (a / 4 &&& 3689348814741910323) = _
    rw [e1, h3]
    exact pw_s2 16 x
  refine ⟨e1, e2, ?_⟩
  show (b + b / 16) &&& 1085102592571150095 = _
  rw [e2, hf]
  exact pw_s4 8 x
theorem pw_2_lt : ∀ (n x : Nat), pw_2 n x < 16 ^ n
  | 0, _ => by simp [pw_2]
  | n + 1, x => by
    have h := pw_2_lt n (x / 16)
    have h2 := pw_c4 (x % 16) (by omega)
    show pcN 4 (x % 16) + 16 * pw_2 n (x / 16) < 16 ^ (n + 1)
    rw [Nat.pow_succ]
    omega
theorem pw_2_half : ∀ (n x : Nat), 2 * pw_2 n x < 16 ^ n ∨ n = 0
  | 0, _ => Or.inr rfl
  | n + 1, x => by
    have h2 := pw_c4 (x % 16) (by omega)
    refine Or.inl ?_
    show 2 * (pcN 4 (x % 16) + 16 * pw_2 n (x / 16)) < 16 ^ (n + 1)
    rw [Nat.pow_succ]
    rcases pw_2_half n (x / 16) with h | h
    · omega
    · subst h
      simp [pw_2]
      omega
