/-! what both sides compute, as plain mathematics -/
theorem x_sub {x y : Nat} (h : y ≤ x) : nI x - nI y = nI (x - y) := by
  have e : nI x = nI (x - y) + nI y := by rw [nI_add, Nat.sub_add_cancel h]
  rw [e, Int32.add_sub_cancel]
theorem x_div {a b : Nat} (ha : a < 2 ^ 31) (hb : b < 2 ^ 31) : nI a / nI b = nI (a / b) := by
  have h1 : nI b ≠ -1 := by
    intro z
    have := congrArg Int32.toInt z
    rw [nI_toInt hb] at this
    have h2 : (-1 : Int32).toInt = -1 := by decide +kernel
    rw [h2] at this
    omega
  have h3 : a / b < 2 ^ 31 := Nat.lt_of_le_of_lt (Nat.div_le_self a b) ha
  exact Int32.toInt_inj.mp (by rw [Int32.toInt_div_of_ne_right _ _ h1, nI_toInt ha, nI_toInt hb, nI_toInt h3]; rfl)
theorem x_rem {a b : Nat} (ha : a < 2 ^ 31) (hb : b < 2 ^ 31) : nI a - nI a / nI b * nI b = nI (a % b) := by
  rw [x_div ha hb, pk_mul, x_sub (Nat.div_mul_le_self a b)]
  congr 1
  have := Nat.div_add_mod a b
  rw [Nat.mul_comm] at this
  omega
/-- how many of the first n -/
noncomputable def cnt (P : Nat → Prop) : Nat → Nat
  | 0 => 0
  | n + 1 => cnt P n + @ite Nat (P n) (Classical.propDecidable _) 1 0
theorem cnt_t {P : Nat → Prop} {n : Nat} (h : P n) : cnt P (n + 1) = cnt P n + 1 := by
  show cnt P n + _ = _
  rw [if_pos h]
theorem cnt_f {P : Nat → Prop} {n : Nat} (h : ¬ P n) : cnt P (n + 1) = cnt P n := by
  show cnt P n + _ = _
  rw [if_neg h]
  rfl
theorem cnt_le (P : Nat → Prop) (n : Nat) : cnt P n ≤ n := by
  induction n with
  | zero => exact Nat.le_refl 0
  | succ n ih =>
    by_cases h : P n
    · rw [cnt_t h]
      omega
    · rw [cnt_f h]
      omega
theorem cnt_c {P Q : Nat → Prop} {n : Nat} (h : ∀ k, k < n → (P k ↔ Q k)) : cnt P n = cnt Q n := by
  induction n with
  | zero => rfl
  | succ n ih =>
    have e := ih (fun k hk => h k (by omega))
    by_cases hq : Q n
    · rw [cnt_t hq, cnt_t ((h n (by omega)).mpr hq), e]
    · rw [cnt_f hq, cnt_f (fun z => hq ((h n (by omega)).mp z)), e]
theorem cnt_tail {P : Nat → Prop} {n m : Nat} (hnm : n ≤ m) (h : ∀ k, n ≤ k → k < m → ¬ P k) : cnt P m = cnt P n := by
  induction m with
  | zero =>
    have : n = 0 := by omega
    rw [this]
  | succ m ih =>
    by_cases hz : n = m + 1
    · rw [hz]
    · rw [cnt_f (h m (by omega) (by omega))]
      exact ih (by omega) (fun k h1 h2 => h k h1 (by omega))
/-- whether place i of a row leaves something behind, and how many of the first n do -/
def em (P : Nat → Prop) (i : Nat) : Prop := ¬ P i ∨ i = 0 ∨ ¬ P (i - 1)
noncomputable def kp (P : Nat → Prop) : Nat → Nat := cnt (em P)
theorem kp_t {P : Nat → Prop} {n : Nat} (h : em P n) : kp P (n + 1) = kp P n + 1 := cnt_t h
theorem kp_f {P : Nat → Prop} {n : Nat} (h : ¬ em P n) : kp P (n + 1) = kp P n := cnt_f h
theorem kp_le (P : Nat → Prop) (n : Nat) : kp P n ≤ n := cnt_le _ n
theorem cnt_mono (P : Nat → Prop) {n m : Nat} (h : n ≤ m) : cnt P n ≤ cnt P m := by
  induction m with
  | zero =>
    have : n = 0 := by omega
    rw [this]
    exact Nat.le_refl _
  | succ m ih =>
    by_cases hz : n = m + 1
    · rw [hz]
      exact Nat.le_refl _
    · refine Nat.le_trans (ih (by omega)) ?_
      by_cases hp : P m
      · rw [cnt_t hp]
        omega
      · rw [cnt_f hp]
        omega
theorem kp_lt {P : Nat → Prop} {i n : Nat} (h : em P i) (hi : i < n) : kp P i < kp P n := by
  have h1 : kp P (i + 1) ≤ kp P n := cnt_mono _ hi
  rw [kp_t h] at h1
  omega
theorem em_c {P Q : Nat → Prop} {i : Nat} (h : ∀ k, k ≤ i → (P k ↔ Q k)) : em P i ↔ em Q i := by
  unfold em
  rw [h i (Nat.le_refl _), h (i - 1) (by omega)]
theorem kp_c {P Q : Nat → Prop} {n : Nat} (h : ∀ k, k < n → (P k ↔ Q k)) : kp P n = kp Q n := cnt_c (fun k hk => em_c (fun j hj => h j (by omega)))
/-- f' is f, but that from place b on the row of what is kept of the first k of v has been written -/
def cutI (P : Nat → Prop) (b k : Nat) (v f f' : Nat → Int32) : Prop := (∀ i, i < k → em P i → f' (b + kp P i) = v i) ∧ ∀ j, j < b ∨ b + kp P k ≤ j → f' j = f j
theorem cutI.zero {P : Nat → Prop} {b : Nat} {v f : Nat → Int32} : cutI P b 0 v f f := ⟨fun i hi => absurd hi (Nat.not_lt_zero i), fun _ _ => rfl⟩
theorem cutI.yes {P : Nat → Prop} {b k : Nat} {v f f' f1 : Nat → Int32} {x : Int32} (h : cutI P b k v f f') (he : em P k) (e : f1 = va_up f' (b + kp P k) x) (hx : x = v k) : cutI P b (k + 1) v f f1 := by
  rw [e]
  refine ⟨fun i hi hem => ?_, fun j hj => ?_⟩
  · by_cases hz : i = k
    · rw [hz, va_up_self, hx]
    · have := kp_lt hem (show i < k by omega)
      rw [va_up_ne _ _ (by omega)]
      exact h.1 i (by omega) hem
  · rw [kp_t he] at hj
    rw [va_up_ne _ _ (by omega)]
    exact h.2 j (by omega)
theorem cutI.no {P : Nat → Prop} {b k : Nat} {v f f' : Nat → Int32} (h : cutI P b k v f f') (he : ¬ em P k) : cutI P b (k + 1) v f f' := by
  refine ⟨fun i hi hem => ?_, fun j hj => ?_⟩
  · by_cases hz : i = k
    · rw [hz] at hem
      exact absurd hem he
    · exact h.1 i (by omega) hem
  · rw [kp_f he] at hj
    exact h.2 j hj
theorem stP_c {nu : Nat → Nat → Nat} {sg : Nat → Nat → Int32} {row row' : Nat → Int32} {rs w p : Nat} (h : ∀ j, j < rs → row j = row' j) : stP nu sg row rs w p ↔ stP nu sg row' rs w p := by
  unfold stP
  constructor
  · intro ⟨h1, h2, h3⟩
    exact ⟨h1, h2, fun k hk => by rw [← h (p + k) (by omega)]; exact h3 k hk⟩
  · intro ⟨h1, h2, h3⟩
    exact ⟨h1, h2, fun k hk => by rw [h (p + k) (by omega)]; exact h3 k hk⟩
theorem stP_n {nu nu' : Nat → Nat → Nat} {sg sg' : Nat → Nat → Int32} {row : Nat → Int32} {rs w p : Nat} (h : nu' 13 = nu 13) (h2 : sg' 14 = sg 14) : stP nu' sg' row rs w p ↔ stP nu sg row rs w p := by
  unfold stP
  rw [h, h2]
/-- place k is in a word, of those ahead of place p of word w -/
def iwU (nu : Nat → Nat → Nat) (sg : Nat → Nat → Int32) (row : Nat → Int32) (rs w p k : Nat) : Prop := ∃ w' p', (w' < w ∨ w' = w ∧ p' < p) ∧ p' < rs ∧ stP nu sg row rs w' p' ∧ p' ≤ k ∧ k < p' + nu 13 w'
def iwP (nu : Nat → Nat → Nat) (sg : Nat → Nat → Int32) (row : Nat → Int32) (rs k : Nat) : Prop := ∃ w p, w < nu 12 0 ∧ stP nu sg row rs w p ∧ p ≤ k ∧ k < p + nu 13 w
def arP (sg : Nat → Nat → Int32) (page x y wd : Int32) (a : Nat) : Prop := sg 16 a = page ∧ (¬ sg 19 a ≤ 0 ∧ ¬ sg 20 a ≤ 0) ∧ (¬ x ≥ sg 17 a + sg 19 a ∧ ¬ sg 17 a ≥ x + wd) ∧ (¬ y ≥ sg 18 a + sg 20 a ∧ ¬ sg 18 a ≥ y + nI 10)
def meP (sg : Nat → Nat → Int32) (page x y wd : Int32) (n : Nat) : Prop := ∃ a, a < n ∧ arP sg page x y wd a
/-- sign k of row r, laid on a page at (dx, dy), is marked -/
def mkP (nu : Nat → Nat → Nat) (sg : Nat → Nat → Int32) (r : Nat) (page dx dy : Int32) (k : Nat) : Prop :=
  k < nu 1 r ∧ ¬ sg 2 (40 * r + k) = 0 ∧ (iwP nu sg (fun j => sg 2 (40 * r + j)) (nu 1 r) k ∨ meP sg page (sg 3 (40 * r + k) + dx) (sg 4 (40 * r + k) + dy) (sg 5 (40 * r + k)) (nu 15 0))
theorem iwU_0 {nu : Nat → Nat → Nat} {sg : Nat → Nat → Int32} {row : Nat → Int32} {rs k : Nat} : ¬ iwU nu sg row rs 0 0 k := by
  intro ⟨w, p, h, _⟩
  omega
theorem iwU_row {nu : Nat → Nat → Nat} {sg : Nat → Nat → Int32} {row : Nat → Int32} {rs w k : Nat} : iwU nu sg row rs w rs k ↔ iwU nu sg row rs (w + 1) 0 k := by
  constructor
  · intro ⟨w', p', h1, h2⟩
    exact ⟨w', p', by omega, h2⟩
  · intro ⟨w', p', h1, h2, h3⟩
    exact ⟨w', p', by omega, h2, h3⟩
theorem iwU_next {nu : Nat → Nat → Nat} {sg : Nat → Nat → Int32} {row : Nat → Int32} {rs w p k : Nat} (hp : p < rs) : (iwU nu sg row rs w p k ∨ (stP nu sg row rs w p ∧ p ≤ k ∧ k < p + nu 13 w)) ↔ iwU nu sg row rs w (p + 1) k := by
  constructor
  · rintro (⟨w', p', h1, h2⟩ | h)
    · exact ⟨w', p', by omega, h2⟩
    · exact ⟨w, p, Or.inr ⟨rfl, by omega⟩, hp, h⟩
  · intro ⟨w', p', h1, h2, h3⟩
    by_cases hz : w' = w ∧ p' = p
    · obtain ⟨rfl, rfl⟩ := hz
      exact Or.inr h3
    · exact Or.inl ⟨w', p', by omega, h2, h3⟩
theorem iwU_end {nu : Nat → Nat → Nat} {sg : Nat → Nat → Int32} {row : Nat → Int32} {rs k : Nat} : iwU nu sg row rs (nu 12 0) 0 k ↔ iwP nu sg row rs k := by
  constructor
  · intro ⟨w, p, h1, h2, h3, h4⟩
    exact ⟨w, p, by omega, h3, h4⟩
  · intro ⟨w, p, h1, h3, h4⟩
    have a := h3.1
    have b := h3.2.1
    exact ⟨w, p, by omega, by omega, h3, h4⟩
theorem iwP_c {nu : Nat → Nat → Nat} {sg : Nat → Nat → Int32} {row row' : Nat → Int32} {rs k : Nat} (h : ∀ j, j < rs → row j = row' j) : iwP nu sg row rs k ↔ iwP nu sg row' rs k := by
  unfold iwP
  constructor
  · intro ⟨w, p, h1, h2, h3⟩
    exact ⟨w, p, h1, (stP_c h).mp h2, h3⟩
  · intro ⟨w, p, h1, h2, h3⟩
    exact ⟨w, p, h1, (stP_c h).mpr h2, h3⟩
theorem iwP_n {nu nu' : Nat → Nat → Nat} {sg sg' : Nat → Nat → Int32} {row : Nat → Int32} {rs k : Nat} (h12 : nu' 12 = nu 12) (h : nu' 13 = nu 13) (h2 : sg' 14 = sg 14) : iwP nu' sg' row rs k ↔ iwP nu sg row rs k := by
  unfold iwP stP
  rw [h, h2, h12]
theorem iwP_lt {nu : Nat → Nat → Nat} {sg : Nat → Nat → Int32} {row : Nat → Int32} {rs k : Nat} (h : iwP nu sg row rs k) : k < rs := by
  obtain ⟨w, p, h1, h2, h3, h4⟩ := h
  have := h2.2.1
  omega
/-- digits -/
def dgI (b : Int32) : Int32 := if ¬ b < nI 48 ∧ ¬ b > nI 57 then b - nI 48 else if ¬ b < nI 65 ∧ ¬ b > nI 70 then b - nI 65 + nI 10 else if ¬ b < nI 97 ∧ ¬ b > nI 102 then b - nI 97 + nI 10 else -1
def hxN (d : Nat) : Nat := if d < 10 then 48 + d else 55 + d
def goodP (en : Nat) (a b : Int32) : Prop := en = 0 ∨ en = 1 ∧ a = 0 ∨ en = 2 ∧ b = 0 ∨ en = 3 ∧ ¬ dgI a < 0 ∧ ¬ dgI b < 0
def codV (en : Nat) (a b : Int32) : Int32 := match en with
  | 0 => a
  | 1 => b
  | 2 => a
  | _ => nI 16 * dgI a + dgI b
def stI (en i : Nat) : Nat := match en with
  | 0 => i
  | _ => 2 * i
def stN (en n : Nat) : Nat := match en with
  | 0 => n
  | _ => n / 2
def wellP (f : Nat → Int32) (en b n : Nat) : Prop := (en = 0 ∨ n % 2 = 0) ∧ ∀ i, i < stN en n → goodP en (f (b + stI en i)) (f (b + stI en i + 1))
def sRow (f : Nat → Int32) (en b : Nat) (i : Nat) : Int32 := codV en (f (b + stI en i)) (f (b + stI en i + 1))
/-- what is left at place i: x where it is marked -/
noncomputable def cV (P : Nat → Prop) (x : Int32) (f : Nat → Int32) (b i : Nat) : Int32 := @ite Int32 (P i) (Classical.propDecidable _) x (f (b + i))
theorem cV_t {P : Nat → Prop} {x : Int32} {f : Nat → Int32} {b i : Nat} (h : P i) : cV P x f b i = x := by unfold cV; rw [if_pos h]
theorem cV_f {P : Nat → Prop} {x : Int32} {f : Nat → Int32} {b i : Nat} (h : ¬ P i) : cV P x f b i = f (b + i) := by unfold cV; rw [if_neg h]
theorem vuu {α : Type} (f : Nat → α) (k : Nat) (a b : α) : va_up (va_up f k a) k b = va_up f k b := by
  funext j
  unfold va_up
  by_cases h : j = k
  · rw [if_pos h, if_pos h]
  · rw [if_neg h, if_neg h, if_neg h]
def w0 (en c : Nat) : Nat := match en with
  | 0 => c
  | 1 => 0
  | 2 => c
  | _ => hxN (c / 16)
def w1 (en c : Nat) : Nat := match en with
  | 0 => 0
  | 1 => c
  | 2 => 0
  | _ => hxN (c % 16)
theorem x_exS {P : Nat → Prop} {k : Nat} (h : ¬ ∃ j, j < k ∧ P j) (hk : ¬ P k) : ¬ ∃ j, j < k + 1 ∧ P j := by
  intro ⟨j, h1, h2⟩
  by_cases hz : j = k
  · rw [hz] at h2
    exact hk h2
  · exact h ⟨j, by omega, h2⟩
def okB (x : Int32) : Prop := ∃ b, b < 256 ∧ x = nI b
def cN (x : Int32) : Nat := x.toNatClampNeg
theorem cN_nI {b : Nat} (h : b < 2 ^ 31) : cN (nI b) = b := nI_clamp h
theorem okB.eq {x : Int32} (h : okB x) : x = nI (cN x) ∧ cN x < 256 := by
  obtain ⟨b, hb, rfl⟩ := h
  rw [cN_nI (by omega)]
  exact ⟨rfl, hb⟩
theorem dgI_ok : ∀ b, b < 256 → ¬ dgI (nI b) < 0 → ∃ d, d < 16 ∧ dgI (nI b) = nI d := by
  have h : ∀ b, b < 256 → (dgI (nI b) < 0 ∨ ((dgI (nI b)).toNatClampNeg < 16 ∧ dgI (nI b) = nI (dgI (nI b)).toNatClampNeg)) := by decide +kernel
  intro b hb hn
  rcases h b hb with z | z
  · exact absurd z hn
  · exact ⟨_, z.1, z.2⟩
theorem codV_ok {en : Nat} {a b : Int32} (ha : okB a) (hb : okB b) (hg : goodP en a b) (hen : en < 4) : okB (codV en a b) := by
  match en, hen with
  | 0, _ => exact ha
  | 1, _ => exact hb
  | 2, _ => exact ha
  | 3, _ =>
    obtain ⟨x, hx, rfl⟩ := ha
    obtain ⟨y, hy, rfl⟩ := hb
    rcases hg with z | z | z | z
    · omega
    · omega
    · omega
    · obtain ⟨d1, h1, e1⟩ := dgI_ok x hx z.2.1
      obtain ⟨d2, h2, e2⟩ := dgI_ok y hy z.2.2
      refine ⟨16 * d1 + d2, by omega, ?_⟩
      show nI 16 * dgI (nI x) + dgI (nI y) = _
      rw [e1, e2, pk_mul, nI_add]
/-- the bytes of what is kept of the first k codes of v have been written from place b on -/
def wrI (P : Nat → Prop) (en b k : Nat) (v f f' : Nat → Int32) : Prop := (∀ i, i < k → em P i → f' (b + stI en (kp P i)) = nI (w0 en (cN (v i))) ∧ (en ≠ 0 → f' (b + stI en (kp P i) + 1) = nI (w1 en (cN (v i))))) ∧ ∀ j, j < b ∨ b + stI en (kp P k) ≤ j → f' j = f j
def stS (en : Nat) : Nat := match en with
  | 0 => 1
  | _ => 2
theorem stI_s (en k : Nat) : stI en (k + 1) = stI en k + stS en := by
  unfold stI stS
  split <;> omega
theorem stI_lt {en i k : Nat} (h : i < k) : stI en i + stS en ≤ stI en k := by
  unfold stI stS
  split <;> omega
theorem stI_le {en k n : Nat} (h : k ≤ stN en n) : stI en k ≤ n := by
  unfold stI
  unfold stN at h
  split at h <;> simp_all <;> omega
theorem stI_room {en k n : Nat} (h : k < stN en n) : stI en k + stS en ≤ n := by
  have h2 : k + 1 ≤ stN en n := h
  have := stI_le h2
  rw [stI_s] at this
  exact this
theorem stS_2 {en : Nat} (h : en ≠ 0) : stS en = 2 := by
  unfold stS
  split
  · exact absurd rfl h
  · rfl
theorem stS_1 (en : Nat) : 1 ≤ stS en := by
  unfold stS
  split <;> omega
theorem wrI.zero {P : Nat → Prop} {en b : Nat} {v f : Nat → Int32} : wrI P en b 0 v f f := ⟨fun i hi => absurd hi (Nat.not_lt_zero i), fun _ _ => rfl⟩
theorem wrI.yes {P : Nat → Prop} {en b k : Nat} {v f f' f1 : Nat → Int32} {c : Nat} (h : wrI P en b k v f f') (he : em P k) (e0 : f1 (b + stI en (kp P k)) = nI (w0 en c)) (e1 : en ≠ 0 → f1 (b + stI en (kp P k) + 1) = nI (w1 en c)) (e2 : ∀ j, j < b + stI en (kp P k) ∨ b + stI en (kp P k) + stS en ≤ j → f1 j = f' j) (hx : c = cN (v k)) : wrI P en b (k + 1) v f f1 := by
  subst hx
  refine ⟨fun i hi hem => ?_, fun j hj => ?_⟩
  · by_cases hz : i = k
    · rw [hz]
      exact ⟨e0, e1⟩
    · have h1 := stI_lt (en := en) (kp_lt hem (show i < k by omega))
      have h2 := stS_1 en
      obtain ⟨q1, q2⟩ := h.1 i (by omega) hem
      rw [e2 _ (by omega)]
      refine ⟨q1, fun hne => ?_⟩
      have h3 := stS_2 hne
      rw [e2 _ (by omega)]
      exact q2 hne
  · rw [kp_t he, stI_s] at hj
    rw [e2 j (by omega)]
    exact h.2 j (by omega)
theorem wrI.no {P : Nat → Prop} {en b k : Nat} {v f f' : Nat → Int32} (h : wrI P en b k v f f') (he : ¬ em P k) : wrI P en b (k + 1) v f f' := by
  refine ⟨fun i hi hem => ?_, fun j hj => ?_⟩
  · by_cases hz : i = k
    · rw [hz] at hem
      exact absurd hem he
    · exact h.1 i (by omega) hem
  · rw [kp_f he] at hj
    exact h.2 j hj
/-- findings -/
def fAdd (kd no en : Int32) (p w : Nat) (X : Nat × (Nat → Int32)) : Nat × (Nat → Int32) := if X.1 < 100 then (X.1 + 1, va_up (va_up (va_up (va_up (va_up X.2 (5 * X.1) kd) (5 * X.1 + 1) no) (5 * X.1 + 2) (nI p)) (5 * X.1 + 3) (nI w)) (5 * X.1 + 4) en) else X
noncomputable def ntW (S : Nat → Nat → Prop) (kd no en : Int32) (p : Nat) : Nat → Nat × (Nat → Int32) → Nat × (Nat → Int32)
  | 0, X => X
  | w + 1, X => @ite _ (S w p) (Classical.propDecidable _) (fAdd kd no en p w (ntW S kd no en p w X)) (ntW S kd no en p w X)
noncomputable def ntP (S : Nat → Nat → Prop) (kd no en : Int32) (ws : Nat) : Nat → Nat × (Nat → Int32) → Nat × (Nat → Int32)
  | 0, X => X
  | p + 1, X => ntW S kd no en p ws (ntP S kd no en ws p X)
theorem ntW_t {S : Nat → Nat → Prop} {kd no en : Int32} {p w : Nat} {X : Nat × (Nat → Int32)} (h : S w p) : ntW S kd no en p (w + 1) X = fAdd kd no en p w (ntW S kd no en p w X) := by
  rw [ntW, if_pos h]
theorem ntW_f {S : Nat → Nat → Prop} {kd no en : Int32} {p w : Nat} {X : Nat × (Nat → Int32)} (h : ¬ S w p) : ntW S kd no en p (w + 1) X = ntW S kd no en p w X := by
  rw [ntW, if_neg h]
theorem fAdd_le {kd no en : Int32} {p w : Nat} {X : Nat × (Nat → Int32)} (h : X.1 ≤ 100) : (fAdd kd no en p w X).1 ≤ 100 := by
  unfold fAdd
  split
  · show X.1 + 1 ≤ 100
    omega
  · exact h
theorem fAdd_full {kd no en : Int32} {p w : Nat} {X : Nat × (Nat → Int32)} (h : 100 ≤ X.1) : fAdd kd no en p w X = X := by
  unfold fAdd
  rw [if_neg (by omega)]
theorem ntW_le {S : Nat → Nat → Prop} {kd no en : Int32} {p w : Nat} {X : Nat × (Nat → Int32)} (h : X.1 ≤ 100) : (ntW S kd no en p w X).1 ≤ 100 := by
  induction w with
  | zero => exact h
  | succ w ih =>
    by_cases hs : S w p
    · rw [ntW_t hs]
      exact fAdd_le ih
    · rw [ntW_f hs]
      exact ih
theorem ntP_le {S : Nat → Nat → Prop} {kd no en : Int32} {ws p : Nat} {X : Nat × (Nat → Int32)} (h : X.1 ≤ 100) : (ntP S kd no en ws p X).1 ≤ 100 := by
  induction p with
  | zero => exact h
  | succ p ih => exact ntW_le ih
theorem ntW_c {S S' : Nat → Nat → Prop} {kd no en : Int32} {p w : Nat} {X : Nat × (Nat → Int32)} (h : ∀ v, v < w → (S v p ↔ S' v p)) : ntW S kd no en p w X = ntW S' kd no en p w X := by
  induction w with
  | zero => rfl
  | succ w ih =>
    have e := ih (fun v hv => h v (by omega))
    by_cases hs : S' w p
    · rw [ntW_t hs, ntW_t ((h w (by omega)).mpr hs), e]
    · rw [ntW_f hs, ntW_f (fun z => hs ((h w (by omega)).mp z)), e]
theorem ntP_c {S S' : Nat → Nat → Prop} {kd no en : Int32} {ws n : Nat} {X : Nat × (Nat → Int32)} (h : ∀ v, v < ws → ∀ p, p < n → (S v p ↔ S' v p)) : ntP S kd no en ws n X = ntP S' kd no en ws n X := by
  induction n with
  | zero => rfl
  | succ n ih =>
    show ntW S kd no en n ws (ntP S kd no en ws n X) = ntW S' kd no en n ws (ntP S' kd no en ws n X)
    rw [ih (fun v hv p hp => h v hv p (by omega))]
    exact ntW_c (fun v hv => h v hv n (by omega))
noncomputable def csN (W : Prop) (n : Nat) : Nat := @ite Nat W (Classical.propDecidable _) n 0
theorem csN_t {W : Prop} {n : Nat} (h : W) : csN W n = n := by unfold csN; rw [if_pos h]
theorem csN_f {W : Prop} {n : Nat} (h : ¬ W) : csN W n = 0 := by unfold csN; rw [if_neg h]
theorem stN_le (en n : Nat) : stN en n ≤ n := by
  unfold stN
  split <;> omega
