theorem wb_tb (n : Nat) : (lN n).toBitVec = BitVec.ofNat 64 n := rfl
theorem wb_inj {a b : Int64} (h : a.toBitVec = b.toBitVec) : a = b := Int64.toBitVec_inj.mp h
theorem wb_tn {n : Nat} (h : n < 2 ^ 64) : (lN n).toBitVec.toNat = n := by rw [wb_tb, BitVec.toNat_ofNat, Nat.mod_eq_of_lt h]
theorem wb_of (x : Int64) : ∃ n, n < 2 ^ 64 ∧ x = lN n := ⟨x.toBitVec.toNat, x.toBitVec.isLt, wb_inj (by rw [wb_tb]; simp)⟩
theorem wb_of32 (x : Int32) : ∃ n, n < 2 ^ 32 ∧ x = nI n := ⟨x.toBitVec.toNat, x.toBitVec.isLt, Int32.toBitVec_inj.mp (by show _ = BitVec.ofNat 32 _; simp)⟩
theorem wb_c : ∀ k, k < 64 → ((nI k).toInt64 &&& 63) = lN k := by decide +kernel
theorem wb_cu : ∀ k, k < 64 → ((nI k).toInt64.toUInt64 &&& Int64.toUInt64 63) = UInt64.ofNat k := by decide +kernel
theorem wb_sm : ∀ k, k < 64 → (BitVec.ofNat 64 k).smod 64 = BitVec.ofNat 64 k := by decide +kernel
theorem wb_pw {a b : Nat} (h : a ≤ b) : 2 ^ b = 2 ^ a * 2 ^ (b - a) := by rw [← Nat.pow_add]; congr 1; omega
theorem wb_lt2 {a b : Nat} (h : a < b) : 2 ^ a < 2 ^ b := Nat.pow_lt_pow_right (by decide) h
theorem wb_mod (n : Nat) : lN n = lN (n % 2 ^ 64) := wb_inj (by rw [wb_tb, wb_tb]; apply BitVec.eq_of_toNat_eq; rw [BitVec.toNat_ofNat, BitVec.toNat_ofNat, Nat.mod_mod])
theorem wb_shr {n k : Nat} (hn : n < 2 ^ 64) (hk : k < 64) : ((lN n).toUInt64 >>> ((nI k).toInt64.toUInt64 &&& Int64.toUInt64 63)).toInt64 = lN (n / 2 ^ k) := by
  rw [wb_cu k hk]
  apply wb_inj
  apply BitVec.eq_of_toNat_eq
  show ((lN n).toUInt64 >>> UInt64.ofNat k).toNat = (BitVec.ofNat 64 _).toNat
  have h1 : (UInt64.ofNat k).toNat = k := by
    show (BitVec.ofNat 64 k).toNat = k
    rw [BitVec.toNat_ofNat, Nat.mod_eq_of_lt (by omega)]
  have h2 : (lN n).toUInt64.toNat = n := wb_tn hn
  rw [UInt64.toNat_shiftRight, h1, h2, Nat.mod_eq_of_lt hk, Nat.shiftRight_eq_div_pow, BitVec.toNat_ofNat, Nat.mod_eq_of_lt (Nat.lt_of_le_of_lt (Nat.div_le_self _ _) hn)]
theorem wb_shl (n : Nat) {k : Nat} (hk : k < 64) : lN n <<< ((nI k).toInt64 &&& 63) = lN (n * 2 ^ k) := by
  rw [wb_c k hk]
  apply wb_inj
  rw [Int64.toBitVec_shiftLeft, wb_tb, wb_tb, wb_tb, wb_sm k hk]
  apply BitVec.eq_of_toNat_eq
  rw [BitVec.shiftLeft_eq', BitVec.toNat_shiftLeft, BitVec.toNat_ofNat, BitVec.toNat_ofNat, BitVec.toNat_ofNat, Nat.mod_eq_of_lt (show k < 2 ^ 64 by omega), Nat.shiftLeft_eq, Nat.mul_mod, Nat.mod_mod, ← Nat.mul_mod]
theorem wb_and {a b : Nat} (ha : a < 2 ^ 64) (hb : b < 2 ^ 64) : lN a &&& lN b = lN (a &&& b) := by
  apply wb_inj
  rw [Int64.toBitVec_and, wb_tb, wb_tb, wb_tb]
  apply BitVec.eq_of_toNat_eq
  rw [BitVec.toNat_and, BitVec.toNat_ofNat, BitVec.toNat_ofNat, BitVec.toNat_ofNat, Nat.mod_eq_of_lt ha, Nat.mod_eq_of_lt hb, Nat.mod_eq_of_lt (Nat.and_lt_two_pow _ hb)]
theorem wb_or {a b : Nat} (ha : a < 2 ^ 64) (hb : b < 2 ^ 64) : lN a ||| lN b = lN (a ||| b) := by
  apply wb_inj
  rw [Int64.toBitVec_or, wb_tb, wb_tb, wb_tb]
  apply BitVec.eq_of_toNat_eq
  rw [BitVec.toNat_or, BitVec.toNat_ofNat, BitVec.toNat_ofNat, BitVec.toNat_ofNat, Nat.mod_eq_of_lt ha, Nat.mod_eq_of_lt hb, Nat.mod_eq_of_lt (Nat.or_lt_two_pow ha hb)]
theorem wb_mask {n k : Nat} (hn : n < 2 ^ 64) (hk : k < 64) : lN n &&& lN (2 ^ k - 1) = lN (n % 2 ^ k) := by
  rw [wb_and hn (by have := wb_lt2 hk; omega), Nat.and_two_pow_sub_one_eq_mod]
theorem wb_a1 {n : Nat} (hn : n < 2 ^ 64) : lN n &&& 1 = lN (n % 2) := wb_mask (k := 1) hn (by decide)
theorem wb_bit {n k : Nat} (hn : n < 2 ^ 64) (hk : k < 64) : ((lN n).toUInt64 >>> ((nI k).toInt64.toUInt64 &&& Int64.toUInt64 63)).toInt64 &&& 1 = lN (n / 2 ^ k % 2) := by
  rw [wb_shr hn hk, wb_a1 (Nat.lt_of_le_of_lt (Nat.div_le_self _ _) hn)]
/-! Long.bitCount: the sums of bits, as numbers -/
def pcN : Nat → Nat → Nat
  | 0, _ => 0
  | n + 1, x => x % 2 + pcN n (x / 2)
theorem pw_and (a b k : Nat) : a &&& b = (a % 2 ^ k &&& b % 2 ^ k) + 2 ^ k * (a / 2 ^ k &&& b / 2 ^ k) := by
  rw [← Nat.and_mod_two_pow, ← Nat.and_div_two_pow]
  exact (Nat.mod_add_div _ _).symm
def pw_5 : Nat → Nat
  | 0 => 0
  | n + 1 => 1 + 4 * pw_5 n
def pw_3 : Nat → Nat
  | 0 => 0
  | n + 1 => 3 + 16 * pw_3 n
def pw_f : Nat → Nat
  | 0 => 0
  | n + 1 => 15 + 256 * pw_f n
def pw_1 : Nat → Nat → Nat
  | 0, _ => 0
  | n + 1, x => (x % 4 - x % 4 / 2) + 4 * pw_1 n (x / 4)
def pw_2 : Nat → Nat → Nat
  | 0, _ => 0
  | n + 1, x => pcN 4 (x % 16) + 16 * pw_2 n (x / 16)
def pw_4 : Nat → Nat → Nat
  | 0, _ => 0
  | n + 1, x => pcN 8 (x % 256) + 256 * pw_4 n (x / 256)
theorem pw_s1 : ∀ (n x : Nat), x < 4 ^ n → (x / 2 &&& pw_5 n) ≤ x ∧ x - (x / 2 &&& pw_5 n) = pw_1 n x
  | 0, x, h => by
    have : x = 0 := by simpa using h
    subst this
    simp [pw_5, pw_1]
  | n + 1, x, h => by
    have hx : x / 4 < 4 ^ n := by
      rw [Nat.pow_succ] at h
      omega
    obtain ⟨h1, h2⟩ := pw_s1 n (x / 4) hx
    have e : (x / 2 &&& pw_5 (n + 1)) = x % 4 / 2 + 4 * (x / 4 / 2 &&& pw_5 n) := by
      rw [pw_and (x / 2) (pw_5 (n + 1)) 2]
      have e1 : pw_5 (n + 1) % 2 ^ 2 = 1 := by show (1 + 4 * pw_5 n) % 4 = 1; omega
      have e2 : pw_5 (n + 1) / 2 ^ 2 = pw_5 n := by show (1 + 4 * pw_5 n) / 4 = pw_5 n; omega
      rw [e1, e2]
      have e3 : x / 2 / 2 ^ 2 = x / 4 / 2 := by show x / 2 / 4 = x / 4 / 2; omega
      have e4 : (x / 2 % 2 ^ 2 &&& 1) = x % 4 / 2 := by
        rw [Nat.and_one_is_mod]
        show x / 2 % 4 % 2 = x % 4 / 2
        omega
      rw [e3, e4]
    rw [e]
    refine ⟨by omega, ?_⟩
    show _ = (x % 4 - x % 4 / 2) + 4 * pw_1 n (x / 4)
    rw [← h2]
    omega
theorem pw_1_lt : ∀ (n x : Nat), pw_1 n x < 4 ^ n
  | 0, _ => by simp [pw_1]
  | n + 1, x => by
    have h := pw_1_lt n (x / 4)
    show (x % 4 - x % 4 / 2) + 4 * pw_1 n (x / 4) < 4 ^ (n + 1)
    rw [Nat.pow_succ]
    omega
theorem pw_d16 : ∀ d, d < 16 → (pw_1 2 d &&& 3) + (pw_1 2 d / 4 &&& 3) = pcN 4 d := by decide +kernel
theorem pw_12 : ∀ (n x : Nat), pw_1 (2 * (n + 1)) x = pw_1 2 (x % 16) + 16 * pw_1 (2 * n) (x / 16) := by
  intro n x
  show (x % 4 - x % 4 / 2) + 4 * ((x / 4 % 4 - x / 4 % 4 / 2) + 4 * pw_1 (2 * n) (x / 4 / 4)) = (x % 16 % 4 - x % 16 % 4 / 2) + 4 * ((x % 16 / 4 % 4 - x % 16 / 4 % 4 / 2) + 4 * 0) + 16 * pw_1 (2 * n) (x / 16)
  have e1 : x / 4 / 4 = x / 16 := by omega
  have e2 : x % 16 % 4 = x % 4 := by omega
  have e3 : x % 16 / 4 % 4 = x / 4 % 4 := by omega
  rw [e1, e2, e3]
  omega
theorem pw_s2 : ∀ (n x : Nat), (pw_1 (2 * n) x &&& pw_3 n) + (pw_1 (2 * n) x / 4 &&& pw_3 n) = pw_2 n x
  | 0, x => by simp [pw_3, pw_2]
  | n + 1, x => by
    have ih := pw_s2 n (x / 16)
    have hd := pw_d16 (x % 16) (by omega)
    have hlt : pw_1 2 (x % 16) < 16 := pw_1_lt 2 _
    rw [pw_12 n x]
    generalize pw_1 2 (x % 16) = q at hd hlt ⊢
    generalize pw_1 (2 * n) (x / 16) = y at ih ⊢
    rw [pw_and (q + 16 * y) (pw_3 (n + 1)) 4, pw_and ((q + 16 * y) / 4) (pw_3 (n + 1)) 4]
    have e1 : pw_3 (n + 1) % 2 ^ 4 = 3 := by show (3 + 16 * pw_3 n) % 16 = 3; omega
    have e2 : pw_3 (n + 1) / 2 ^ 4 = pw_3 n := by show (3 + 16 * pw_3 n) / 16 = pw_3 n; omega
    have e3 : (q + 16 * y) % 2 ^ 4 = q := by show (q + 16 * y) % 16 = q; omega
    have e4 : (q + 16 * y) / 2 ^ 4 = y := by show (q + 16 * y) / 16 = y; omega
    have e5 : (q + 16 * y) / 4 / 2 ^ 4 = y / 4 := by show (q + 16 * y) / 4 / 16 = y / 4; omega
    have e6 : ((q + 16 * y) / 4 % 2 ^ 4 &&& 3) = (q / 4 &&& 3) := by
      have z : ∀ k, (k &&& 3) = k % 4 := fun k => Nat.and_two_pow_sub_one_eq_mod k 2
      rw [z, z]
      show (q + 16 * y) / 4 % 16 % 4 = q / 4 % 4
      omega
    rw [e1, e2, e3, e4, e5, e6]
    show _ = pcN 4 (x % 16) + 16 * pw_2 n (x / 16)
    rw [← hd, ← ih]
    show (q &&& 3) + 16 * _ + ((q / 4 &&& 3) + 16 * _) = _
    omega
theorem pw_c4 : ∀ d, d < 16 → pcN 4 d ≤ 4 := by decide +kernel
theorem pw_c8 : ∀ d, d < 256 → pcN 4 (d % 16) + pcN 4 (d / 16 % 16) = pcN 8 d ∧ pcN 8 d ≤ 8 := by decide +kernel
theorem pw_22 (n x : Nat) : pw_2 (2 * (n + 1)) x = pcN 4 (x % 256 % 16) + 16 * pcN 4 (x % 256 / 16 % 16) + 256 * pw_2 (2 * n) (x / 256) := by
  show pcN 4 (x % 16) + 16 * (pcN 4 (x / 16 % 16) + 16 * pw_2 (2 * n) (x / 16 / 16)) = _
  have e1 : x % 256 % 16 = x % 16 := by omega
  have e2 : x % 256 / 16 % 16 = x / 16 % 16 := by omega
  have e3 : x / 16 / 16 = x / 256 := by omega
  rw [e1, e2, e3]
  omega
theorem pw_2lo (n x : Nat) : pw_2 n x % 16 ≤ 4 := by
  cases n with
  | zero => simp [pw_2]
  | succ n =>
    have h := pw_c4 (x % 16) (by omega)
    show (pcN 4 (x % 16) + 16 * pw_2 n (x / 16)) % 16 ≤ 4
    omega
theorem pw_s4 : ∀ (n x : Nat), ((pw_2 (2 * n) x + pw_2 (2 * n) x / 16) &&& pw_f n) = pw_4 n x
  | 0, x => by simp [pw_f, pw_4]
  | n + 1, x => by
    have ih := pw_s4 n (x / 256)
    have hd := (pw_c8 (x % 256) (by omega)).1
    have ha := pw_c4 (x % 256 % 16) (by omega)
    have hb := pw_c4 (x % 256 / 16 % 16) (by omega)
    have hlo := pw_2lo (2 * n) (x / 256)
    rw [pw_22 n x]
    generalize pcN 4 (x % 256 % 16) = u at hd ha ⊢
    generalize pcN 4 (x % 256 / 16 % 16) = v at hd hb ⊢
    generalize pw_2 (2 * n) (x / 256) = z at ih hlo ⊢
    rw [pw_and _ (pw_f (n + 1)) 8]
    have e1 : pw_f (n + 1) % 2 ^ 8 = 15 := by show (15 + 256 * pw_f n) % 256 = 15; omega
    have e2 : pw_f (n + 1) / 2 ^ 8 = pw_f n := by show (15 + 256 * pw_f n) / 256 = pw_f n; omega
    have e3 : ((u + 16 * v + 256 * z + (u + 16 * v + 256 * z) / 16) % 2 ^ 8 &&& 15) = u + v := by
      have zz : ∀ k, (k &&& 15) = k % 16 := fun k => Nat.and_two_pow_sub_one_eq_mod k 4
      rw [zz]
      show (u + 16 * v + 256 * z + (u + 16 * v + 256 * z) / 16) % 256 % 16 = u + v
      omega
    have e4 : (u + 16 * v + 256 * z + (u + 16 * v + 256 * z) / 16) / 2 ^ 8 = z + z / 16 := by
      show (u + 16 * v + 256 * z + (u + 16 * v + 256 * z) / 16) / 256 = z + z / 16
      omega
    rw [e1, e2, e3, e4, ih]
    show u + v + 2 ^ 8 * pw_4 n (x / 256) = pcN 8 (x % 256) + 256 * pw_4 n (x / 256)
    rw [← hd]
theorem pcN_split : ∀ (a b x : Nat), pcN (a + b) x = pcN a (x % 2 ^ a) + pcN b (x / 2 ^ a)
  | 0, b, x => by simp [pcN]
  | a + 1, b, x => by
    have h := pcN_split a b (x / 2)
    rw [show a + 1 + b = (a + b) + 1 by omega]
    show x % 2 + pcN (a + b) (x / 2) = x % 2 ^ (a + 1) % 2 + pcN a (x % 2 ^ (a + 1) / 2) + pcN b (x / 2 ^ (a + 1))
    rw [h]
    have e1 : x % 2 ^ (a + 1) % 2 = x % 2 := by
      rw [Nat.pow_succ, Nat.mul_comm]
      exact Nat.mod_mul_right_mod x 2 (2 ^ a)
    have e2 : x % 2 ^ (a + 1) / 2 = x / 2 % 2 ^ a := by
      rw [Nat.pow_succ, Nat.mul_comm, Nat.mod_mul_right_div_self]
    have e3 : x / 2 ^ (a + 1) = x / 2 / 2 ^ a := by
      rw [Nat.pow_succ, Nat.mul_comm, Nat.div_div_eq_div_mul]
    rw [e1, e2, e3]
    omega
theorem pw_e1 {A L S : Nat} (h : A = L + 65536 * S) (hL : L < 65536) : A / 65536 = S := by omega
theorem pw_e2 {B L S : Nat} (h : B = L + 4294967296 * S) (hL : L < 4294967296) : B / 4294967296 = S := by omega
theorem pw_e3 {c0 c1 c2 c3 c4 c5 c6 : Nat} (h0 : c0 ≤ 8) (h1 : c1 ≤ 8) (h2 : c2 ≤ 8) (h3 : c3 ≤ 8) (h4 : c4 ≤ 8) (h5 : c5 ≤ 8) (h6 : c6 ≤ 8) : (c0 + c1 + c2 + c3) + 256 * (c1 + c2 + c3 + c4) + 65536 * (c2 + c3 + c4 + c5) + 16777216 * (c3 + c4 + c5 + c6) < 4294967296 := by omega
theorem pw_e4 {B S a b y z : Nat} (h : B = a + 256 * y) (h2 : S = b + 256 * z) (ha : a ≤ 32) (hb : b ≤ 32) : (B + S) % 128 = a + b := by omega
theorem pw_e5 {A B L1 L2 S T c d e f : Nat} (hB : B = A + S) (hA : A = c + 256 * d + 65536 * S) (hS : S = e + 256 * f + 65536 * T) {g h U : Nat} (hT : T = g + 256 * h + 65536 * U) : B = (c + e) + 256 * (d + f) + 65536 * (e + g) + 16777216 * (f + h) + 4294967296 * (T + U) := by omega
theorem pw_e6 {w t1 c0 A : Nat} (hA : A = w + t1) (hw : w = c0 + 256 * t1) (h0 : c0 ≤ 8) (b1 : t1 < 4503599627370496) : w < 4611686018427387904 ∧ A < 2305843009213693952 := by omega
theorem pw_e7 {B a b c d S : Nat} (h : B = a + 256 * b + 65536 * c + 16777216 * d + 4294967296 * S) : B = a + 256 * (b + 256 * c + 65536 * d + 16777216 * S) := by omega
theorem pw_e8 {S t6 c4 c5 c6 c7 : Nat} (h : S = (c4 + c5) + 256 * (c5 + c6) + 65536 * (t6 + c7)) (h6 : t6 = c6 + 256 * c7) : S + (t6 + c7) = (c4 + c5 + c6 + c7) + 256 * ((c5 + c6) + 256 * (t6 + c7) + c7) := by omega
theorem pw_e9 {A B t2 t3 t4 t5 t6 c7 : Nat} (hB : B = A + (t2 + t3)) (hA : A < 2305843009213693952) (b6 : t6 < 4096) (b5 : t5 < 1048576) (b4 : t4 < 268435456) (b3 : t3 < 68719476736) (b2 : t2 < 17592186044416) (h7 : c7 ≤ 8) : A < 4611686018427387904 ∧ B < 4611686018427387904 ∧ B + (t4 + t5 + (t6 + c7)) < 9223372036854775808 := by omega
theorem pw_e10 {c0 c1 c2 c3 c4 c5 c6 c7 : Nat} (h0 : c0 ≤ 8) (h1 : c1 ≤ 8) (h2 : c2 ≤ 8) (h3 : c3 ≤ 8) (h4 : c4 ≤ 8) (h5 : c5 ≤ 8) (h6 : c6 ≤ 8) (h7 : c7 ≤ 8) : c0 + c1 + (c2 + c3) ≤ 32 ∧ c4 + c5 + c6 + c7 ≤ 32 ∧ c0 + c1 < 9 * 8 ∧ c0 + c1 + (c2 + c3) + (c4 + c5 + c6 + c7) = c0 + c1 + c2 + c3 + c4 + c5 + c6 + c7 := by omega
theorem pw_e11 {c0 c1 c2 : Nat} (h0 : c0 ≤ 8) (h1 : c1 ≤ 8) (h2 : c2 ≤ 8) : (c0 + c1) + 256 * (c1 + c2) < 65536 := by omega
/-- the last three additions over eight bytes of at most 8 -/
theorem pw_end (w c0 c1 c2 c3 c4 c5 c6 c7 : Nat) (h0 : c0 ≤ 8) (h1 : c1 ≤ 8) (h2 : c2 ≤ 8) (h3 : c3 ≤ 8) (h4 : c4 ≤ 8) (h5 : c5 ≤ 8) (h6 : c6 ≤ 8) (h7 : c7 ≤ 8)
    (hw : w = c0 + 256 * (c1 + 256 * (c2 + 256 * (c3 + 256 * (c4 + 256 * (c5 + 256 * (c6 + 256 * c7))))))) :
    w < 2 ^ 62 ∧ (w + w / 256) < 2 ^ 62 ∧ (w + w / 256 + (w + w / 256) / 65536) < 2 ^ 62 ∧ (w + w / 256 + (w + w / 256) / 65536 + (w + w / 256 + (w + w / 256) / 65536) / 4294967296) < 2 ^ 63 ∧
    (w + w / 256 + (w + w / 256) / 65536 + (w + w / 256 + (w + w / 256) / 65536) / 4294967296) % 128 = c0 + c1 + c2 + c3 + c4 + c5 + c6 + c7 := by
  obtain ⟨t6, ht6⟩ : ∃ t, t = c6 + 256 * c7 := ⟨_, rfl⟩
  obtain ⟨t5, ht5⟩ : ∃ t, t = c5 + 256 * t6 := ⟨_, rfl⟩
  obtain ⟨t4, ht4⟩ : ∃ t, t = c4 + 256 * t5 := ⟨_, rfl⟩
  obtain ⟨t3, ht3⟩ : ∃ t, t = c3 + 256 * t4 := ⟨_, rfl⟩
  obtain ⟨t2, ht2⟩ : ∃ t, t = c2 + 256 * t3 := ⟨_, rfl⟩
  obtain ⟨t1, ht1⟩ : ∃ t, t = c1 + 256 * t2 := ⟨_, rfl⟩
  rw [← ht6, ← ht5, ← ht4, ← ht3, ← ht2, ← ht1] at hw
  have b6 : t6 < 4096 := by omega
  have b5 : t5 < 1048576 := by omega
  have b4 : t4 < 268435456 := by omega
  have b3 : t3 < 68719476736 := by omega
  have b2 : t2 < 17592186044416 := by omega
  have b1 : t1 < 4503599627370496 := by omega
  have a1 : w / 256 = t1 := by omega
  rw [a1]
  obtain ⟨A, hA⟩ : ∃ A, A = w + t1 := ⟨_, rfl⟩
  rw [← hA]
  have hA2 : A = (c0 + c1) + 256 * (c1 + c2) + 65536 * (t2 + t3) := by omega
  rw [pw_e1 hA2 (pw_e11 h0 h1 h2)]
  obtain ⟨B, hB⟩ : ∃ B, B = A + (t2 + t3) := ⟨_, rfl⟩
  rw [← hB]
  have hS : t2 + t3 = (c2 + c3) + 256 * (c3 + c4) + 65536 * (t4 + t5) := by omega
  have hS4 : t4 + t5 = (c4 + c5) + 256 * (c5 + c6) + 65536 * (t6 + c7) := by omega
  have hB2 := pw_e5 (L1 := 0) (L2 := 0) hB hA2 hS hS4
  have hL := pw_e3 h0 h1 h2 h3 h4 h5 h6
  rw [pw_e2 hB2 (by rw [← Nat.add_assoc (c0 + c1), ← Nat.add_assoc (c1 + c2), ← Nat.add_assoc (c2 + c3), ← Nat.add_assoc (c3 + c4)]; exact hL)]
  have hw6 := pw_e6 hA hw h0 b1
  have e := pw_e10 h0 h1 h2 h3 h4 h5 h6 h7
  have m1 := pw_e4 (pw_e7 hB2) (pw_e8 hS4 ht6) e.1 e.2.1
  have b9 := pw_e9 hB hw6.2 b6 b5 b4 b3 b2 h7
  exact ⟨hw6.1, b9.1, b9.2.1, b9.2.2, m1.trans e.2.2.2⟩
theorem pw_8 (x : Nat) (hx : x < 2 ^ 64) : ∃ c0 c1 c2 c3 c4 c5 c6 c7, c0 ≤ 8 ∧ c1 ≤ 8 ∧ c2 ≤ 8 ∧ c3 ≤ 8 ∧ c4 ≤ 8 ∧ c5 ≤ 8 ∧ c6 ≤ 8 ∧ c7 ≤ 8 ∧ pw_4 8 x = c0 + 256 * (c1 + 256 * (c2 + 256 * (c3 + 256 * (c4 + 256 * (c5 + 256 * (c6 + 256 * c7)))))) ∧ pcN 64 x = c0 + c1 + c2 + c3 + c4 + c5 + c6 + c7 := by
  have hc : ∀ y, pcN 8 (y % 256) ≤ 8 := fun y => (pw_c8 (y % 256) (by omega)).2
  refine ⟨pcN 8 (x % 256), pcN 8 (x / 256 % 256), pcN 8 (x / 256 / 256 % 256), pcN 8 (x / 256 / 256 / 256 % 256), pcN 8 (x / 256 / 256 / 256 / 256 % 256), pcN 8 (x / 256 / 256 / 256 / 256 / 256 % 256), pcN 8 (x / 256 / 256 / 256 / 256 / 256 / 256 % 256), pcN 8 (x / 256 / 256 / 256 / 256 / 256 / 256 / 256 % 256), hc _, hc _, hc _, hc _, hc _, hc _, hc _, hc _, ?_, ?_⟩
  · simp only [pw_4]
    omega
  · have s : ∀ b y, pcN (8 + b) y = pcN 8 (y % 256) + pcN b (y / 256) := fun b y => pcN_split 8 b y
    rw [show (64 : Nat) = 8 + (8 + (8 + (8 + (8 + (8 + (8 + (8 + 0))))))) from rfl, s, s, s, s, s, s, s, s]
    simp only [pcN]
    omega
