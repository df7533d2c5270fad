/-! the reference's object: its fields and arrays as two functions of (field, place) -/
noncomputable def zI (P : Prop) : Int32 := @ite Int32 P (Classical.propDecidable P) (nI 1) (nI 0)
theorem zI_t {P : Prop} (h : P) : zI P = nI 1 := by unfold zI; rw [if_pos h]
theorem zI_f {P : Prop} (h : ¬ P) : zI P = nI 0 := by unfold zI; rw [if_neg h]
theorem zI_0 {P : Prop} : zI P = 0 ↔ ¬ P := by
  constructor
  · intro h hp
    rw [zI_t hp] at h
    exact absurd h (by decide +kernel)
  · intro h
    rw [zI_f h]
    exact nI_0
theorem zI_1 {P : Prop} : ¬ zI P = 0 ↔ P := by
  rw [zI_0]
  exact Classical.not_not
theorem zI_c {P Q : Prop} (h : P ↔ Q) : zI P = zI Q := by
  by_cases hp : P
  · rw [zI_t hp, zI_t (h.mp hp)]
  · rw [zI_f hp, zI_f (fun q => hp (h.mpr q))]
theorem zI_j {P Q : Prop} (h : zI P = zI Q) : P ↔ Q := by
  by_cases hq : Q
  · rw [zI_t hq] at h
    have h1 : ¬ zI P = 0 := by rw [h]; decide +kernel
    exact ⟨fun _ => hq, fun _ => zI_1.mp h1⟩
  · rw [zI_f hq] at h
    have h1 : zI P = 0 := by rw [h]; decide +kernel
    exact ⟨fun z => absurd z (zI_0.mp h1), fun z => absurd z hq⟩
theorem zI_nar (P : Prop) : vp_nar .boolean (zI P) = zI P := by
  by_cases hp : P
  · rw [zI_t hp]
    decide +kernel
  · rw [zI_f hp]
    decide +kernel
theorem zI_narV (P : Prop) : narrow .boolean (.int (zI P)) = .int (zI P) := by
  by_cases hp : P
  · rw [zI_t hp]
    decide +kernel
  · rw [zI_f hp]
    decide +kernel
def mIsN (k : Nat) : Bool := k == 1 || k == 9 || k == 13 || k == 23
def mIsZ (k : Nat) : Bool := k == 27 || k == 31
def mIsI (k : Nat) : Bool := k == 2 || k == 3 || k == 4 || k == 5 || k == 8 || k == 10 || k == 11 || k == 14 || k == 16 || k == 17 || k == 18 || k == 19 || k == 20 || k == 22 || k == 24 || k == 26 || k == 28 || k == 30
def mIsA (k : Nat) : Bool := mIsN k || mIsZ k || mIsI k
def mlen (k : Nat) : Nat := match k with
  | 1 => 24
  | 2 => 960
  | 3 => 960
  | 4 => 960
  | 5 => 960
  | 8 => 12
  | 9 => 12
  | 10 => 12
  | 11 => 12
  | 13 => 4
  | 14 => 32
  | 16 => 8
  | 17 => 8
  | 18 => 8
  | 19 => 8
  | 20 => 8
  | 22 => 8
  | 23 => 8
  | 24 => 480
  | 26 => 500
  | 27 => 640
  | 28 => 12
  | 30 => 60
  | _ => 60
def mfs (am : Nat → Nat) (nu : Nat → Nat → Nat) : List Value := [.int (nI (nu 0 0)), .ref (am 1), .ref (am 2), .ref (am 3), .ref (am 4), .ref (am 5), .int (nI (nu 6 0)), .int (nI (nu 7 0)), .ref (am 8), .ref (am 9), .ref (am 10), .ref (am 11), .int (nI (nu 12 0)), .ref (am 13), .ref (am 14), .int (nI (nu 15 0)), .ref (am 16), .ref (am 17), .ref (am 18), .ref (am 19), .ref (am 20), .int (nI (nu 21 0)), .ref (am 22), .ref (am 23), .ref (am 24), .int (nI (nu 25 0)), .ref (am 26), .ref (am 27), .ref (am 28), .int (nI (nu 29 0)), .ref (am 30), .ref (am 31)]
def mfun (nu : Nat → Nat → Nat) (sg : Nat → Nat → Int32) (k : Nat) : Nat → Int32 := if mIsN k = true then fun j => nI (nu k j) else sg k
def mRep (G : xT) (M : xMem) (md : Nat) (am : Nat → Nat) (nu : Nat → Nat → Nat) (sg : Nat → Nat → Int32) : Prop :=
  M md = some (.inr (9, mfs am nu)) ∧ (∀ k, mIsA k = true → M (am k) = some (.inl (G.2.1 (if mIsZ k = true then 4 else 0), mlen k, .inl (mfun nu sg k)))) ∧ ∀ k j, mIsA k = true → mIsA j = true → am k = am j → k = j
def mS (md : Nat) (am : Nat → Nat) : List Nat := [md, am 1, am 2, am 3, am 4, am 5, am 8, am 9, am 10, am 11, am 13, am 14, am 16, am 17, am 18, am 19, am 20, am 22, am 23, am 24, am 26, am 27, am 28, am 30, am 31]
theorem mS_in (md : Nat) (am : Nat → Nat) {k : Nat} (h : mIsA k = true) : am k ∈ mS md am := by
  have hk : k = 1 ∨ k = 2 ∨ k = 3 ∨ k = 4 ∨ k = 5 ∨ k = 8 ∨ k = 9 ∨ k = 10 ∨ k = 11 ∨ k = 13 ∨ k = 14 ∨ k = 16 ∨ k = 17 ∨ k = 18 ∨ k = 19 ∨ k = 20 ∨ k = 22 ∨ k = 23 ∨ k = 24 ∨ k = 26 ∨ k = 27 ∨ k = 28 ∨ k = 30 ∨ k = 31 := by
    simp only [mIsA, mIsN, mIsZ, mIsI, Bool.or_eq_true, beq_iff_eq] at h
    omega
  rcases hk with rfl | rfl | rfl | rfl | rfl | rfl | rfl | rfl | rfl | rfl | rfl | rfl | rfl | rfl | rfl | rfl | rfl | rfl | rfl | rfl | rfl | rfl | rfl | rfl <;> simp [mS]
theorem mIsN_A {k : Nat} (h : mIsN k = true) : mIsA k = true ∧ mIsZ k = false := by
  simp only [mIsA, mIsN, mIsZ, mIsI, Bool.or_eq_true, beq_iff_eq, Bool.or_eq_false_iff] at h ⊢
  refine ⟨by omega, ?_⟩
  rcases h with ((h | h) | h) | h <;> subst h <;> decide
theorem mIsI_A {k : Nat} (h : mIsI k = true) : mIsA k = true ∧ mIsZ k = false ∧ mIsN k = false := by
  simp only [mIsA, mIsI, Bool.or_eq_true, beq_iff_eq] at h ⊢
  refine ⟨by omega, ?_, ?_⟩
  · rw [← Bool.not_eq_true]
    simp only [mIsZ, Bool.or_eq_true, beq_iff_eq]
    omega
  · rw [← Bool.not_eq_true]
    simp only [mIsN, Bool.or_eq_true, beq_iff_eq]
    omega
theorem mIsZ_A {k : Nat} (h : mIsZ k = true) : mIsA k = true ∧ mIsN k = false := by
  simp only [mIsA, mIsZ, Bool.or_eq_true, beq_iff_eq] at h ⊢
  refine ⟨by omega, ?_⟩
  rw [← Bool.not_eq_true]
  simp only [mIsN, Bool.or_eq_true, beq_iff_eq]
  omega
/-- g is f but for the places in L -/
def eqx {α : Type} (L : List Nat) (f g : Nat → α) : Prop := ∀ k, k ∉ L → g k = f k
theorem eqx.rf {α : Type} {L : List Nat} {f : Nat → α} : eqx L f f := fun _ _ => rfl
theorem eqx.up {α : Type} (f : Nat → α) (k : Nat) (v : α) : eqx [k] f (va_up f k v) := fun j hj => va_up_ne _ _ (fun z => hj (by rw [z]; exact List.mem_cons_self))
theorem eqx.trans {α : Type} {L1 L2 L : List Nat} {f g h : Nat → α} (h1 : eqx L1 f g) (h2 : eqx L2 g h) (s1 : ∀ k ∈ L1, k ∈ L) (s2 : ∀ k ∈ L2, k ∈ L) : eqx L f h := fun k hk => (h2 k (fun z => hk (s2 k z))).trans (h1 k (fun z => hk (s1 k z)))
theorem eqx.wide {α : Type} {L1 L : List Nat} {f g : Nat → α} (h1 : eqx L1 f g) (s1 : ∀ k ∈ L1, k ∈ L) : eqx L f g := fun k hk => h1 k (fun z => hk (s1 k z))
section MR
variable {G : xT} {M M1 M0 : xMem} {md : Nat} {am : Nat → Nat} {nu : Nat → Nat → Nat} {sg : Nat → Nat → Int32}
theorem mRep.rN (h : mRep G M md am nu sg) {k : Nat} (hk : mIsN k = true) : M (am k) = some (.inl (G.2.1 0, mlen k, .inl (fun j => nI (nu k j)))) := by
  have e := h.2.1 k (mIsN_A hk).1
  rw [if_neg (by rw [(mIsN_A hk).2]; decide), mfun, if_pos hk] at e
  exact e
theorem mRep.rI (h : mRep G M md am nu sg) {k : Nat} (hk : mIsI k = true) : M (am k) = some (.inl (G.2.1 0, mlen k, .inl (sg k))) := by
  have e := h.2.1 k (mIsI_A hk).1
  rw [if_neg (by rw [(mIsI_A hk).2.1]; decide), mfun, if_neg (by rw [(mIsI_A hk).2.2]; decide)] at e
  exact e
theorem mRep.rZ (h : mRep G M md am nu sg) {k : Nat} (hk : mIsZ k = true) : M (am k) = some (.inl (G.2.1 4, mlen k, .inl (sg k))) := by
  have e := h.2.1 k (mIsZ_A hk).1
  rw [if_pos hk, mfun, if_neg (by rw [(mIsZ_A hk).2]; decide)] at e
  exact e
theorem mRep.ne (h : mRep G M md am nu sg) {k : Nat} (hk : mIsA k = true) : am k ≠ md := x_ne (h.2.1 k hk) h.1 (by intro z; cases z)
theorem mRep.frame {S : List Nat} (h : mRep G M md am nu sg) (hf : xfr M M1 S) (hn : ∀ q ∈ mS md am, q ∉ S) : mRep G M1 md am nu sg :=
  ⟨hf.get h.1 (hn _ List.mem_cons_self), fun k hk => hf.get (h.2.1 k hk) (hn _ (mS_in md am hk)), h.2.2⟩
theorem mRep.setI (h : mRep G M md am nu sg) {k : Nat} (hk : mIsA k = true) (hN : mIsN k = false) {g : Nat → Int32} (em : M1 (am k) = some (.inl (G.2.1 (if mIsZ k = true then 4 else 0), mlen k, .inl g))) (fr : ∀ b, b ≠ am k → M1 b = M b) : mRep G M1 md am nu (va_up sg k g) := by
  refine ⟨(fr md (Ne.symm (h.ne hk))).trans h.1, fun j hj => ?_, h.2.2⟩
  by_cases hz : j = k
  · subst hz
    have e : mfun nu (va_up sg j g) j = g := by
      unfold mfun
      rw [if_neg (by rw [hN]; decide), va_up_self]
    rw [e]
    exact em
  · rw [fr (am j) (fun z => hz (h.2.2 j k hj hk z)), h.2.1 j hj]
    unfold mfun
    rw [va_up_ne _ _ hz]
theorem mRep.setN (h : mRep G M md am nu sg) {k : Nat} (hk : mIsN k = true) {g : Nat → Nat} (em : M1 (am k) = some (.inl (G.2.1 0, mlen k, .inl (fun j => nI (g j))))) (fr : ∀ b, b ≠ am k → M1 b = M b) : mRep G M1 md am (va_up nu k g) sg := by
  have hA := (mIsN_A hk).1
  have h0 : ∀ j, mIsN j = false → va_up nu k g j = nu j := fun j hj => va_up_ne _ _ (fun z => by rw [z, hk] at hj; cases hj)
  refine ⟨?_, fun j hj => ?_, h.2.2⟩
  · rw [fr md (Ne.symm (h.ne hA)), h.1]
    unfold mfs
    rw [h0 0 rfl, h0 6 rfl, h0 7 rfl, h0 12 rfl, h0 15 rfl, h0 21 rfl, h0 25 rfl, h0 29 rfl]
  · by_cases hz : j = k
    · subst hz
      rw [em, if_neg (by rw [(mIsN_A hk).2]; decide), mfun, if_pos hk, va_up_self]
    · rw [fr (am j) (fun z => hz (h.2.2 j k hj hA z)), h.2.1 j hj]
      unfold mfun
      rw [va_up_ne _ _ hz]
theorem mRep.setF (h : mRep G M md am nu sg) {k : Nat} (hk : mIsA k = false) {g : Nat → Nat} (em : M1 md = some (.inr (9, mfs am (va_up nu k g)))) (fr : ∀ b, b ≠ md → M1 b = M b) : mRep G M1 md am (va_up nu k g) sg := by
  refine ⟨em, fun j hj => ?_, h.2.2⟩
  rw [fr (am j) (h.ne hj), h.2.1 j hj]
  unfold mfun
  rw [va_up_ne _ _ (fun z => by rw [z, hk] at hj; cases hj)]
theorem va_up_nI (f : Nat → Nat) (j v : Nat) : va_up (fun i => nI (f i)) j (nI v) = fun i => nI (va_up f j v i) := by
  funext i
  unfold va_up
  by_cases h : i = j
  · rw [if_pos h, if_pos h]
  · rw [if_neg h, if_neg h]
end MR
section MW
variable {p : Program} {l : Launch} {e : Env} {R : Room} {s : State} {m : MethodId} {args : Array Value} {below : List Frame} {meth : Method} {c : Code} {H : Heap} {locs : List Loc} {cells slots : Nat} {Q : State → Prop}
variable {cc : ByteArray} {own : String} {nL : Nat} {G : xT} {pc : Nat} {ls : Array Slot} {rest : List Value} {A : Nat → Prop} {M M0 : xMem} {H0 : Heap}
variable {md : Nat} {am : Nat → Nat} {nu : Nat → Nat → Nat} {sg : Nat → Nat → Int32}
theorem m_ldN (hC : xC p s m args meth c cc own nL G A) (hw : xWd G A H0 M H locs) (hR : mRep G M md am nu sg) (k j : Nat) (hk : mIsN k = true) {i : Int32} (hi : i = nI j) (hj : j < mlen k) (hn : mlen k < 2 ^ 31) (hdg : decode cc pc = .ok (.iaload, 1))
    (kk : W p l e R s m args below meth c H locs cells slots Q (F0 m (pc + 1) ls (.int (nI (nu k j)) :: rest))) : W p l e R s m args below meth c H locs cells slots Q (F0 m pc ls (.int i :: .ref (am k) :: rest)) :=
  x_iald hC hw (hR.rN hk) rfl hi hj hn hdg kk
theorem m_ldI (hC : xC p s m args meth c cc own nL G A) (hw : xWd G A H0 M H locs) (hR : mRep G M md am nu sg) (k j : Nat) (hk : mIsI k = true) {i : Int32} (hi : i = nI j) (hj : j < mlen k) (hn : mlen k < 2 ^ 31) (hdg : decode cc pc = .ok (.iaload, 1))
    (kk : W p l e R s m args below meth c H locs cells slots Q (F0 m (pc + 1) ls (.int (sg k j) :: rest))) : W p l e R s m args below meth c H locs cells slots Q (F0 m pc ls (.int i :: .ref (am k) :: rest)) :=
  x_iald hC hw (hR.rI hk) rfl hi hj hn hdg kk
theorem m_ldZ (hC : xC p s m args meth c cc own nL G A) (hw : xWd G A H0 M H locs) (hR : mRep G M md am nu sg) (k j : Nat) (hk : mIsZ k = true) {i : Int32} (hi : i = nI j) (hj : j < mlen k) (hn : mlen k < 2 ^ 31) (hdg : decode cc pc = .ok (.baload, 1))
    (kk : W p l e R s m args below meth c H locs cells slots Q (F0 m (pc + 1) ls (.int (sg k j) :: rest))) : W p l e R s m args below meth c H locs cells slots Q (F0 m pc ls (.int i :: .ref (am k) :: rest)) :=
  x_zald hC hw (hR.rZ hk) rfl hi hj hn hdg kk
theorem m_stN (hC : xC p s m args meth c cc own nL G A) (hw : xWd G A H0 M H locs) (hR : mRep G M md am nu sg) (hF : xfr M0 M (mS md am)) (k j v : Nat) (hk : mIsN k = true) {i x : Int32} (hi : i = nI j) (hv : x = nI v) (hj : j < mlen k) (hn : mlen k < 2 ^ 31) (hdg : decode cc pc = .ok (.iastore, 1))
    (kk : ∀ (M1 : xMem) (H1 : Heap) (locs1 : List Loc) (nu1 : Nat → Nat → Nat), eqx [k] nu nu1 → nu1 k = va_up (nu k) j v → mRep G M1 md am nu1 sg → xfr M0 M1 (mS md am) → xWd G A H0 M1 H1 locs1 → W p l e R s m args below meth c H1 locs1 cells slots Q (F0 m (pc + 1) ls rest)) : W p l e R s m args below meth c H locs cells slots Q (F0 m pc ls (.int x :: .int i :: .ref (am k) :: rest)) := by
  refine x_iast hC hw (hR.rN hk) rfl hi hj hn hdg (fun M1 H1 locs1 em fr hw1 => ?_)
  rw [hv, va_up_nI] at em
  exact kk M1 H1 locs1 _ (eqx.up nu k _) (va_up_self _ _ _) (hR.setN hk em fr) (hF.put em fr (Or.inl (mS_in md am (mIsN_A hk).1))) hw1
theorem m_stI (hC : xC p s m args meth c cc own nL G A) (hw : xWd G A H0 M H locs) (hR : mRep G M md am nu sg) (hF : xfr M0 M (mS md am)) (k j : Nat) (hk : mIsI k = true) {i x : Int32} (hi : i = nI j) (hj : j < mlen k) (hn : mlen k < 2 ^ 31) (hdg : decode cc pc = .ok (.iastore, 1))
    (kk : ∀ (M1 : xMem) (H1 : Heap) (locs1 : List Loc) (sg1 : Nat → Nat → Int32), eqx [k] sg sg1 → sg1 k = va_up (sg k) j x → mRep G M1 md am nu sg1 → xfr M0 M1 (mS md am) → xWd G A H0 M1 H1 locs1 → W p l e R s m args below meth c H1 locs1 cells slots Q (F0 m (pc + 1) ls rest)) : W p l e R s m args below meth c H locs cells slots Q (F0 m pc ls (.int x :: .int i :: .ref (am k) :: rest)) := by
  refine x_iast hC hw (hR.rI hk) rfl hi hj hn hdg (fun M1 H1 locs1 em fr hw1 => ?_)
  exact kk M1 H1 locs1 _ (eqx.up sg k _) (va_up_self _ _ _) (hR.setI (mIsI_A hk).1 (mIsI_A hk).2.2 (by rw [if_neg (by rw [(mIsI_A hk).2.1]; decide)]; exact em) fr) (hF.put em fr (Or.inl (mS_in md am (mIsI_A hk).1))) hw1
theorem m_stZ (hC : xC p s m args meth c cc own nL G A) (hw : xWd G A H0 M H locs) (hR : mRep G M md am nu sg) (hF : xfr M0 M (mS md am)) (k j : Nat) (hk : mIsZ k = true) (P : Prop) {i x : Int32} (hx : x = zI P) (hi : i = nI j) (hj : j < mlen k) (hn : mlen k < 2 ^ 31) (hdg : decode cc pc = .ok (.bastore, 1))
    (kk : ∀ (M1 : xMem) (H1 : Heap) (locs1 : List Loc) (sg1 : Nat → Nat → Int32), eqx [k] sg sg1 → sg1 k = va_up (sg k) j (zI P) → mRep G M1 md am nu sg1 → xfr M0 M1 (mS md am) → xWd G A H0 M1 H1 locs1 → W p l e R s m args below meth c H1 locs1 cells slots Q (F0 m (pc + 1) ls rest)) : W p l e R s m args below meth c H locs cells slots Q (F0 m pc ls (.int x :: .int i :: .ref (am k) :: rest)) := by
  refine x_zast hC hw (hR.rZ hk) rfl hi hj hn hdg (fun M1 H1 locs1 em fr hw1 => ?_)
  rw [hx, zI_nar] at em
  exact kk M1 H1 locs1 _ (eqx.up sg k _) (va_up_self _ _ _) (hR.setI (mIsZ_A hk).1 (mIsZ_A hk).2 (by rw [if_pos hk]; exact em) fr) (hF.put em fr (Or.inl (mS_in md am (mIsZ_A hk).1))) hw1
theorem m_put (hC : xC p s m args meth c cc own nL G A) (hw : xWd G A H0 M H locs) (hR : mRep G M md am nu sg) (hF : xfr M0 M (mS md am)) (k v : Nat) {ref : String} {index : Nat} (hkA : mIsA k = false) (hk : k < 32) (hlink : (Cond.fieldLink own index ref (F_M k).2.1 (F_M k).2.2.1).before args s = true) (hsame : ∀ x, s.fieldFound? (F_M k).1 (F_M k).2.1 (F_M k).2.2.1 = some x → s.fieldFound? ref (F_M k).2.1 (F_M k).2.2.1 = some x) (hfin : (F_M k).2.2.2 = false) (hd : parseFieldDescriptor (F_M k).2.2.1 = some .int) {x : Int32} (hv : x = nI v)
    (hset : (mfs am nu).set k (.int (nI v)) = mfs am (va_up nu k (fun _ => v))) (hdg : decode cc pc = .ok (.putfield index, 3))
    (kk : ∀ (M1 : xMem) (H1 : Heap) (locs1 : List Loc) (nu1 : Nat → Nat → Nat), eqx [k] nu nu1 → nu1 k = (fun _ => v) → mRep G M1 md am nu1 sg → xfr M0 M1 (mS md am) → xWd G A H0 M1 H1 locs1 → W p l e R s m args below meth c H1 locs1 cells slots Q (F0 m (pc + 3) ls rest)) : W p l e R s m args below meth c H locs cells slots Q (F0 m pc ls (.int x :: .ref md :: rest)) := by
  subst hv
  refine x_put (ty := .int) hC hw hR.1 rfl k hk hlink hsame hfin hd rfl rfl hk hdg (fun M1 H1 locs1 em fr hw1 => ?_)
  rw [hset] at em
  exact kk M1 H1 locs1 _ (eqx.up nu k _) (va_up_self _ _ _) (hR.setF hkA em fr) (hF.put em fr (Or.inl List.mem_cons_self)) hw1
end MW
theorem x_eq0 {n : Nat} (h : n < 2 ^ 31) : nI n = 0 ↔ n = 0 := by
  rw [← nI_0]
  exact nI_eq h (by omega)
theorem x_le0 {n : Nat} (h : n < 2 ^ 31) : nI n ≤ 0 ↔ n = 0 := by
  rw [← nI_0, nI_leI h (by omega)]
  omega
theorem x_gt0 {n : Nat} (h : n < 2 ^ 31) : nI n > 0 ↔ 0 < n := by
  rw [← nI_0]
  exact nI_ltI (by omega) h
def inP (v lo hi : Int32) : Prop := ¬ v < lo ∧ ¬ v > hi
def stP (nu : Nat → Nat → Nat) (sg : Nat → Nat → Int32) (row : Nat → Int32) (rs w p : Nat) : Prop := 0 < nu 13 w ∧ p + nu 13 w ≤ rs ∧ ∀ k, k < nu 13 w → row (p + k) = sg 14 (8 * w + k)
theorem x_all1 {P : Nat → Prop} {k : Nat} (h : ∀ j, j < k → P j) (hk : P k) : ∀ j, j < k + 1 → P j := fun j hj => by
  by_cases hz : j = k
  · rw [hz]
    exact hk
  · exact h j (by omega)
theorem x_upS {f : Nat → Int32} {g g1 : Nat → Int32} {i : Nat} {y : Int32} (h : ∀ j, j < i → g j = f j) (e : g1 = va_up g i y) (hy : y = f i) : ∀ j, j < i + 1 → g1 j = f j := by
  rw [e]
  intro j hj
  by_cases hz : j = i
  · subst hz
    rw [va_up_self, hy]
  · rw [va_up_ne _ _ hz]
    exact h j (by omega)
