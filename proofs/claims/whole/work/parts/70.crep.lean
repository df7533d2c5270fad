/-! the class's object: its cells by kind and number, over the same numbers as the reference's -/
def ln (nu : Nat → Nat → Nat) (k : Nat) : Nat := match k with
  | 0 => 4
  | 1 => nu 6 0
  | 2 => nu 7 0
  | 3 => nu 12 0
  | 4 => nu 15 0
  | 5 => nu 21 0
  | _ => 0
def elA (ad : Nat → Nat → Nat) (k j : Nat) : Nat := match k with
  | 0 => ad 2 j
  | 1 => ad 2 (4 + j)
  | 2 => ad 4 j
  | 3 => ad 5 j
  | 4 => ad 7 j
  | _ => ad 8 j
def rng (nu : Nat → Nat → Nat) (k : Nat) : Nat := match k with
  | 0 => 6
  | 1 => 6
  | 2 => 4 + nu 6 0
  | 3 => 4 + nu 6 0
  | 4 => nu 7 0
  | 5 => nu 12 0
  | 6 => nu 12 0
  | 7 => nu 15 0
  | 8 => nu 21 0
  | 9 => nu 21 0
  | 10 => 1
  | 11 => 1
  | 12 => 1
  | 13 => 1
  | 14 => 1
  | _ => 0
def nmb (i : Nat) : Nat := if i < 4 then i else i - 4
/-- what cell i of kind k holds -/
def okE (G : xT) (fz : Nat) (ad : Nat → Nat → Nat) (nu : Nat → Nat → Nat) (sg : Nat → Nat → Int32) (k i : Nat) (e : va_E) : Prop := match k with
  | 0 => ∃ mc : Int32, e = .inr (8, [.ref (ad 1 i), .int (nI (ln nu i)), .int mc])
  | 1 => ∃ (cap : Nat) (f : Nat → Option Nat), e = .inl (G.2.1 3, cap, .inr (.inr (.inr (.inr f)))) ∧ ln nu i ≤ cap ∧ capP fz (ad 1 i) cap ∧ ∀ j, j < ln nu i → f j = some (elA ad i j)
  | 2 => e = .inr (1, [.int (nI (nmb i)), .ref (ad 3 i), .int (nI (nu 1 i))])
  | 3 => ∃ p : Nat → Int32, e = .inl (G.2.1 0, 160, .inl p) ∧ ∀ j, j < nu 1 i → p (j * 4 + 0) = sg 2 (40 * i + j) ∧ p (j * 4 + 1) = sg 3 (40 * i + j) ∧ p (j * 4 + 2) = sg 4 (40 * i + j) ∧ p (j * 4 + 3) = sg 5 (40 * i + j)
  | 4 => ∃ (mk : Int64) (tw : Option Nat), e = .inr (5, [.int (sg 8 i), .int (sg 10 i), .int (sg 11 i), .ref (ad 2 (4 + nu 9 i)), .long mk, va_rf tw])
  | 5 => e = .inr (3, [.int (nI (nu 13 i)), .ref (ad 6 i)])
  | 6 => ∃ f : Nat → Int32, e = .inl (G.2.1 0, 8, .inl f) ∧ ∀ j, j < nu 13 i → f j = sg 14 (8 * i + j)
  | 7 => e = .inr (4, [.int (sg 16 i), .int (sg 17 i), .int (sg 18 i), .int (sg 19 i), .int (sg 20 i)])
  | 8 => e = .inr (6, [.int (sg 22 i), .int (nI (nu 23 i)), .ref (ad 9 i)])
  | 9 => ∃ h : Nat → Int32, e = .inl (G.2.1 1, 60, .inl h) ∧ ∀ j, j < nu 23 i → sg 24 (60 * i + j) = (h j &&& nI 255) ∧ byP (h j)
  | 10 => e = .inr (7, [.int (nI (nu 25 0)), .ref (ad 11 0)])
  | 11 => e = .inl (G.2.1 0, 500, .inl (sg 26))
  | 12 => ∃ n : Int32, e = .inr (2, [.ref (ad 13 0), .int n])
  | 13 => ∃ f : Nat → Int32, e = .inl (G.2.1 0, 60, .inl f)
  | 14 => e = .inr (0, [.ref (ad 0 0), .ref (ad 0 1), .ref (ad 0 2), .ref (ad 0 3), .ref (ad 0 4), .ref (ad 0 5), .ref (ad 10 0), .ref (ad 12 0)])
  | _ => False
/-- a cell's sort -/
def tagE (e : va_E) : Nat := match e with
  | .inr (ci, _) => ci
  | .inl (_, n, .inl _) => 100 + n
  | .inl (_, _, .inr _) => 1000
def tagK (k : Nat) : Nat := match k with
  | 0 => 8
  | 1 => 1000
  | 2 => 1
  | 3 => 260
  | 4 => 5
  | 5 => 3
  | 6 => 108
  | 7 => 4
  | 8 => 6
  | 9 => 160
  | 10 => 7
  | 11 => 600
  | 12 => 2
  | 13 => 160
  | 14 => 0
  | _ => 5000
def own (ad : Nat → Nat → Nat) (nu : Nat → Nat → Nat) (a : Nat) : Prop := ∃ k i, i < rng nu k ∧ a = ad k i
def cRep (G : xT) (M : xMem) (fz : Nat) (ad : Nat → Nat → Nat) (nu : Nat → Nat → Nat) (sg : Nat → Nat → Int32) : Prop :=
  ("java/util/ArrayList", "DEFAULTCAPACITY_EMPTY_ELEMENTDATA", "[Ljava/lang/Object;", .ref fz) ∈ G.2.2.2 ∧ (fzP G fz ∧ M fz = none) ∧ (∀ k i, i < rng nu k → (k = 1 ∧ ad k i = fz ∧ ln nu i = 0) ∨ ∃ e, M (ad k i) = some e ∧ okE G fz ad nu sg k i e)
  ∧ (∀ k i j, i < rng nu k → j < rng nu k → ad k i = ad k j → i = j ∨ (k = 1 ∧ ad k i = fz)) ∧ ∀ t, t < nu 21 0 → ad 9 t ≠ ad 13 0
theorem rng_k {nu : Nat → Nat → Nat} {k i : Nat} (h : i < rng nu k) : k < 15 := by
  match k with
  | 0 | 1 | 2 | 3 | 4 | 5 | 6 | 7 | 8 | 9 | 10 | 11 | 12 | 13 | 14 => omega
  | _ + 15 => exact absurd h (Nat.not_lt_zero _)
theorem okE_tag {G : xT} {fz : Nat} {ad : Nat → Nat → Nat} {nu : Nat → Nat → Nat} {sg : Nat → Nat → Int32} {k i : Nat} {e : va_E} (h : okE G fz ad nu sg k i e) : tagE e = tagK k := by
  match k, h with
  | 0, ⟨_, h⟩ => rw [h]; rfl
  | 1, ⟨_, _, h, _⟩ => rw [h]; rfl
  | 2, h => rw [show e = _ from h]; rfl
  | 3, ⟨_, h, _⟩ => rw [h]; rfl
  | 4, ⟨_, _, h⟩ => rw [h]; rfl
  | 5, h => rw [show e = _ from h]; rfl
  | 6, ⟨_, h, _⟩ => rw [h]; rfl
  | 7, h => rw [show e = _ from h]; rfl
  | 8, h => rw [show e = _ from h]; rfl
  | 9, ⟨_, h, _⟩ => rw [h]; rfl
  | 10, h => rw [show e = _ from h]; rfl
  | 11, h => rw [show e = _ from h]; rfl
  | 12, ⟨_, h⟩ => rw [h]; rfl
  | 13, ⟨_, h⟩ => rw [h]; rfl
  | 14, h => rw [show e = _ from h]; rfl
  | _ + 15, h => exact h.elim
theorem tagK_inj : ∀ k, k < 15 → ∀ k', k' < 15 → tagK k = tagK k' → k = k' ∨ (k = 9 ∧ k' = 13) ∨ (k = 13 ∧ k' = 9) := by decide
section CR
variable {G : xT} {M M' : xMem} {fz : Nat} {ad ad' : Nat → Nat → Nat} {nu nu' : Nat → Nat → Nat} {sg sg' : Nat → Nat → Int32}
theorem cRep.at (h : cRep G M fz ad nu sg) (k i : Nat) (hk : k ≠ 1) (hi : i < rng nu k) : ∃ e, M (ad k i) = some e ∧ okE G fz ad nu sg k i e := by
  rcases h.2.2.1 k i hi with z | z
  · exact absurd z.1 hk
  · exact z
theorem cRep.inj (h : cRep G M fz ad nu sg) {k k' i j : Nat} (hi : i < rng nu k) (hj : j < rng nu k') (e : ad k i = ad k' j) : k = k' ∧ (i = j ∨ (k = 1 ∧ ad k i = fz)) := by
  have hz := h.2.1.2
  rcases h.2.2.1 k i hi with ⟨z1, z2, z3⟩ | ⟨e1, a1, b1⟩
  · rcases h.2.2.1 k' j hj with ⟨y1, y2, y3⟩ | ⟨e2, a2, b2⟩
    · exact ⟨z1.trans y1.symm, Or.inr ⟨z1, z2⟩⟩
    · rw [← e, z2, hz] at a2
      cases a2
  · rcases h.2.2.1 k' j hj with ⟨y1, y2, y3⟩ | ⟨e2, a2, b2⟩
    · rw [e, y2, hz] at a1
      cases a1
    · rw [e, a2] at a1
      cases Option.some.inj a1
      have ht := (okE_tag b1).symm.trans (okE_tag b2)
      rcases tagK_inj k (rng_k hi) k' (rng_k hj) ht with z | ⟨z1, z2⟩ | ⟨z1, z2⟩
      · subst z
        exact ⟨rfl, h.2.2.2.1 k i j hi hj e⟩
      · subst z1
        subst z2
        have hj0 : j = 0 := Nat.lt_one_iff.mp hj
        rw [hj0] at e
        exact absurd e (h.2.2.2.2 i hi)
      · subst z1
        subst z2
        have hi0 : i = 0 := Nat.lt_one_iff.mp hi
        rw [hi0] at e
        exact absurd e.symm (h.2.2.2.2 j hj)
theorem cRep.ne (h : cRep G M fz ad nu sg) {k k' i j : Nat} (hi : i < rng nu k) (hj : j < rng nu k') (hk : k ≠ k') : ad k i ≠ ad k' j := fun e => hk (h.inj hi hj e).1
theorem cRep.neI (h : cRep G M fz ad nu sg) {k i j : Nat} (hi : i < rng nu k) (hj : j < rng nu k) (hk : k ≠ 1) (hij : i ≠ j) : ad k i ≠ ad k j := fun e => by
  rcases (h.inj hi hj e).2 with z | z
  · exact hij z
  · exact hk z.1
theorem cRep.nefz (h : cRep G M fz ad nu sg) {k i : Nat} (hi : i < rng nu k) (hk : k ≠ 1) : ad k i ≠ fz := by
  intro e
  obtain ⟨e1, a1, b1⟩ := h.at k i hk hi
  rw [e, h.2.1.2] at a1
  cases a1
theorem cRep.nn (h : cRep G M fz ad nu sg) {k i : Nat} (hi : i < rng nu k) (hk : k ≠ 1) : M (ad k i) ≠ none := by
  obtain ⟨e1, a1, b1⟩ := h.at k i hk hi
  exact x_nn a1
theorem cRep.nz (h : cRep G M fz ad nu sg) {k i : Nat} (hi : i < rng nu k) : ad k i = fz ∨ M (ad k i) ≠ none := by
  rcases h.2.2.1 k i hi with z | ⟨e1, a1, b1⟩
  · exact Or.inl z.2.1
  · exact Or.inr (x_nn a1)
theorem cRep.rc (h : cRep G M fz ad nu sg) : M (ad 14 0) = some (.inr (0, [.ref (ad 0 0), .ref (ad 0 1), .ref (ad 0 2), .ref (ad 0 3), .ref (ad 0 4), .ref (ad 0 5), .ref (ad 10 0), .ref (ad 12 0)])) := by
  obtain ⟨e, a, b⟩ := h.at 14 0 (by decide) Nat.zero_lt_one
  rw [a]
  exact congrArg some b
theorem cRep.la (h : cRep G M fz ad nu sg) {k : Nat} (hk : k < 6) : ∃ mc : Int32, M (ad 0 k) = some (.inr (8, [.ref (ad 1 k), .int (nI (ln nu k)), .int mc])) := by
  obtain ⟨e, a, mc, b⟩ := h.at 0 k (by decide) hk
  exact ⟨mc, a.trans (congrArg some b)⟩
theorem cRep.el (h : cRep G M fz ad nu sg) {k : Nat} (hk : k < 6) : ∃ (cap : Nat) (f : Nat → Option Nat), (cap ≠ 0 → M (ad 1 k) = some (.inl (G.2.1 3, cap, .inr (.inr (.inr (.inr f)))))) ∧ ln nu k ≤ cap ∧ capP fz (ad 1 k) cap ∧ ∀ j, j < ln nu k → f j = some (elA ad k j) := by
  rcases h.2.2.1 1 k hk with ⟨_, z2, z3⟩ | ⟨e, a, cap, f, b, c⟩
  · exact ⟨0, fun _ => none, fun z => absurd rfl z, by rw [z3]; exact Nat.le_refl 0, Or.inl ⟨rfl, z2⟩, fun j hj => by rw [z3] at hj; exact absurd hj (Nat.not_lt_zero j)⟩
  · exact ⟨cap, f, fun _ => a.trans (congrArg some b), c⟩
theorem cRep.row (h : cRep G M fz ad nu sg) {r : Nat} (hr : r < 4 + nu 6 0) : M (ad 2 r) = some (.inr (1, [.int (nI (nmb r)), .ref (ad 3 r), .int (nI (nu 1 r))])) := by
  obtain ⟨e, a, b⟩ := h.at 2 r (by decide) hr
  rw [a]
  exact congrArg some b
theorem cRep.pa (h : cRep G M fz ad nu sg) {r : Nat} (hr : r < 4 + nu 6 0) : ∃ p : Nat → Int32, M (ad 3 r) = some (.inl (G.2.1 0, 160, .inl p)) ∧ ∀ j, j < nu 1 r → p (j * 4 + 0) = sg 2 (40 * r + j) ∧ p (j * 4 + 1) = sg 3 (40 * r + j) ∧ p (j * 4 + 2) = sg 4 (40 * r + j) ∧ p (j * 4 + 3) = sg 5 (40 * r + j) := by
  obtain ⟨e, a, p, b, c⟩ := h.at 3 r (by decide) hr
  exact ⟨p, a.trans (congrArg some b), c⟩
theorem cRep.us (h : cRep G M fz ad nu sg) {u : Nat} (hu : u < nu 7 0) : ∃ (mk : Int64) (tw : Option Nat), M (ad 4 u) = some (.inr (5, [.int (sg 8 u), .int (sg 10 u), .int (sg 11 u), .ref (ad 2 (4 + nu 9 u)), .long mk, va_rf tw])) := by
  obtain ⟨e, a, mk, tw, b⟩ := h.at 4 u (by decide) hu
  exact ⟨mk, tw, a.trans (congrArg some b)⟩
theorem cRep.wo (h : cRep G M fz ad nu sg) {w : Nat} (hw : w < nu 12 0) : M (ad 5 w) = some (.inr (3, [.int (nI (nu 13 w)), .ref (ad 6 w)])) := by
  obtain ⟨e, a, b⟩ := h.at 5 w (by decide) hw
  rw [a]
  exact congrArg some b
theorem cRep.lt (h : cRep G M fz ad nu sg) {w : Nat} (hw : w < nu 12 0) : ∃ f : Nat → Int32, M (ad 6 w) = some (.inl (G.2.1 0, 8, .inl f)) ∧ ∀ j, j < nu 13 w → f j = sg 14 (8 * w + j) := by
  obtain ⟨e, a, p, b, c⟩ := h.at 6 w (by decide) hw
  exact ⟨p, a.trans (congrArg some b), c⟩
theorem cRep.ar (h : cRep G M fz ad nu sg) {a : Nat} (ha : a < nu 15 0) : M (ad 7 a) = some (.inr (4, [.int (sg 16 a), .int (sg 17 a), .int (sg 18 a), .int (sg 19 a), .int (sg 20 a)])) := by
  obtain ⟨e, a, b⟩ := h.at 7 a (by decide) ha
  rw [a]
  exact congrArg some b
theorem cRep.so (h : cRep G M fz ad nu sg) {t : Nat} (ht : t < nu 21 0) : M (ad 8 t) = some (.inr (6, [.int (sg 22 t), .int (nI (nu 23 t)), .ref (ad 9 t)])) := by
  obtain ⟨e, a, b⟩ := h.at 8 t (by decide) ht
  rw [a]
  exact congrArg some b
theorem cRep.by (h : cRep G M fz ad nu sg) {t : Nat} (ht : t < nu 21 0) : ∃ f : Nat → Int32, M (ad 9 t) = some (.inl (G.2.1 1, 60, .inl f)) ∧ ∀ j, j < nu 23 t → sg 24 (60 * t + j) = (f j &&& nI 255) ∧ byP (f j) := by
  obtain ⟨e, a, p, b, c⟩ := h.at 9 t (by decide) ht
  exact ⟨p, a.trans (congrArg some b), c⟩
theorem cRep.fi (h : cRep G M fz ad nu sg) : M (ad 10 0) = some (.inr (7, [.int (nI (nu 25 0)), .ref (ad 11 0)])) := by
  obtain ⟨e, a, b⟩ := h.at 10 0 (by decide) Nat.zero_lt_one
  rw [a]
  exact congrArg some b
theorem cRep.fp (h : cRep G M fz ad nu sg) : M (ad 11 0) = some (.inl (G.2.1 0, 500, .inl (sg 26))) := by
  obtain ⟨e, a, b⟩ := h.at 11 0 (by decide) Nat.zero_lt_one
  rw [a]
  exact congrArg some b
theorem cRep.co (h : cRep G M fz ad nu sg) : ∃ n : Int32, M (ad 12 0) = some (.inr (2, [.ref (ad 13 0), .int n])) := by
  obtain ⟨e, a, n, b⟩ := h.at 12 0 (by decide) Nat.zero_lt_one
  exact ⟨n, a.trans (congrArg some b)⟩
theorem cRep.cv (h : cRep G M fz ad nu sg) : ∃ f : Nat → Int32, M (ad 13 0) = some (.inl (G.2.1 0, 60, .inl f)) := by
  obtain ⟨e, a, n, b⟩ := h.at 13 0 (by decide) Nat.zero_lt_one
  exact ⟨n, a.trans (congrArg some b)⟩
/-- from one memory to the next -/
theorem cRep.next (h : cRep G M fz ad nu sg) {S : List Nat} (fr : xfr M M' S) (hz' : M' fz = none) (nw : Nat → Nat) (h13 : ad' 13 0 = ad 13 0)
    (hv : ∀ k i, i < rng nu' k → (i < rng nu k ∧ ad' k i = ad k i) ∨ (i = nw k ∧ M (ad' k i) = none ∧ ad' k i ≠ fz))
    (hc : ∀ k i, i < rng nu' k → (i < rng nu k ∧ ad' k i = ad k i ∧ ad k i ∉ S ∧ (k = 1 → ln nu' i = ln nu i) ∧ ∀ e, okE G fz ad nu sg k i e → okE G fz ad' nu' sg' k i e) ∨ ∃ e, M' (ad' k i) = some e ∧ okE G fz ad' nu' sg' k i e) : cRep G M' fz ad' nu' sg' := by
  have old : ∀ k i j, i < rng nu k → M (ad' k j) = none → ad' k j ≠ fz → ad k i ≠ ad' k j := by
    intro k i j hi h1 h2 e
    rcases h.nz hi with z | z
    · exact h2 (e.symm.trans z)
    · rw [e] at z
      exact z h1
  refine ⟨h.1, ⟨h.2.1.1, hz'⟩, fun k i hi => ?_, fun k i j hi hj e => ?_, fun t ht e => ?_⟩
  · rcases hc k i hi with ⟨h1, h2, h3, h5, h4⟩ | z
    · rcases h.2.2.1 k i h1 with ⟨z1, z2, z3⟩ | ⟨e, a, b⟩
      · exact Or.inl ⟨z1, h2.trans z2, (h5 z1).trans z3⟩
      · exact Or.inr ⟨e, by rw [h2]; exact fr.get a h3, h4 e b⟩
    · exact Or.inr z
  · rcases hv k i hi with ⟨a1, a2⟩ | ⟨a1, a2, a3⟩
    · rcases hv k j hj with ⟨b1, b2⟩ | ⟨b1, b2, b3⟩
      · rw [a2, b2] at e
        rw [a2]
        exact h.2.2.2.1 k i j a1 b1 e
      · rw [a2] at e
        exact absurd e (old k i j a1 b2 b3)
    · rcases hv k j hj with ⟨b1, b2⟩ | ⟨b1, b2, b3⟩
      · rw [b2] at e
        exact absurd e.symm (old k j i b1 a2 a3)
      · exact Or.inl (a1.trans b1.symm)
  · rw [h13] at e
    rcases hv 9 t ht with ⟨a1, a2⟩ | ⟨a1, a2, a3⟩
    · rw [a2] at e
      exact h.2.2.2.2 t a1 e
    · rw [e] at a2
      exact absurd a2 (h.nn (k := 13) (i := 0) Nat.zero_lt_one (by decide))
/-- what kind k's cell i says is the same -/
def eqK (nu nu' : Nat → Nat → Nat) (sg sg' : Nat → Nat → Int32) (k i : Nat) : Prop := match k with
  | 0 => ln nu' i = ln nu i
  | 1 => ln nu' i = ln nu i
  | 2 => nu' 1 i = nu 1 i
  | 3 => nu' 1 i = nu 1 i ∧ ∀ j, j < nu 1 i → sg' 2 (40 * i + j) = sg 2 (40 * i + j) ∧ sg' 3 (40 * i + j) = sg 3 (40 * i + j) ∧ sg' 4 (40 * i + j) = sg 4 (40 * i + j) ∧ sg' 5 (40 * i + j) = sg 5 (40 * i + j)
  | 4 => sg' 8 i = sg 8 i ∧ sg' 10 i = sg 10 i ∧ sg' 11 i = sg 11 i ∧ nu' 9 i = nu 9 i
  | 5 => nu' 13 i = nu 13 i
  | 6 => nu' 13 i = nu 13 i ∧ ∀ j, j < nu 13 i → sg' 14 (8 * i + j) = sg 14 (8 * i + j)
  | 7 => sg' 16 i = sg 16 i ∧ sg' 17 i = sg 17 i ∧ sg' 18 i = sg 18 i ∧ sg' 19 i = sg 19 i ∧ sg' 20 i = sg 20 i
  | 8 => sg' 22 i = sg 22 i ∧ nu' 23 i = nu 23 i
  | 9 => nu' 23 i = nu 23 i ∧ ∀ j, j < nu 23 i → sg' 24 (60 * i + j) = sg 24 (60 * i + j)
  | 10 => nu' 25 0 = nu 25 0
  | 11 => sg' 26 = sg 26
  | _ => True
def depN (k : Nat) : List Nat := match k with
  | 0 => [6, 7, 12, 15, 21]
  | 1 => [6, 7, 12, 15, 21]
  | 2 => [1]
  | 3 => [1]
  | 4 => [9]
  | 5 => [13]
  | 6 => [13]
  | 8 => [23]
  | 9 => [23]
  | 10 => [25]
  | _ => []
def depS (k : Nat) : List Nat := match k with
  | 3 => [2, 3, 4, 5]
  | 4 => [8, 10, 11]
  | 6 => [14]
  | 7 => [16, 17, 18, 19, 20]
  | 8 => [22]
  | 9 => [24]
  | 11 => [26]
  | _ => []
theorem eqK_of {k i : Nat} (hN : ∀ x ∈ depN k, nu' x = nu x) (hS : ∀ x ∈ depS k, sg' x = sg x) : eqK nu nu' sg sg' k i := by
  match k, hN, hS with
  | 0, hN, _ =>
    show ln nu' i = ln nu i
    unfold ln
    rw [hN 6 (by decide), hN 7 (by decide), hN 12 (by decide), hN 15 (by decide), hN 21 (by decide)]
  | 1, hN, _ =>
    show ln nu' i = ln nu i
    unfold ln
    rw [hN 6 (by decide), hN 7 (by decide), hN 12 (by decide), hN 15 (by decide), hN 21 (by decide)]
  | 2, hN, _ => exact congrFun (hN 1 (by decide)) i
  | 3, hN, hS => exact ⟨congrFun (hN 1 (by decide)) i, fun j _ => ⟨congrFun (hS 2 (by decide)) _, congrFun (hS 3 (by decide)) _, congrFun (hS 4 (by decide)) _, congrFun (hS 5 (by decide)) _⟩⟩
  | 4, hN, hS => exact ⟨congrFun (hS 8 (by decide)) _, congrFun (hS 10 (by decide)) _, congrFun (hS 11 (by decide)) _, congrFun (hN 9 (by decide)) i⟩
  | 5, hN, _ => exact congrFun (hN 13 (by decide)) i
  | 6, hN, hS => exact ⟨congrFun (hN 13 (by decide)) i, fun j _ => congrFun (hS 14 (by decide)) _⟩
  | 7, _, hS => exact ⟨congrFun (hS 16 (by decide)) _, congrFun (hS 17 (by decide)) _, congrFun (hS 18 (by decide)) _, congrFun (hS 19 (by decide)) _, congrFun (hS 20 (by decide)) _⟩
  | 8, hN, hS => exact ⟨congrFun (hS 22 (by decide)) _, congrFun (hN 23 (by decide)) i⟩
  | 9, hN, hS => exact ⟨congrFun (hN 23 (by decide)) i, fun j _ => congrFun (hS 24 (by decide)) _⟩
  | 10, hN, _ => exact congrFun (hN 25 (by decide)) 0
  | 11, _, hS => exact hS 26 (by decide)
  | 12, _, _ => exact trivial
  | 13, _, _ => exact trivial
  | 14, _, _ => exact trivial
  | _ + 15, _, _ => exact trivial
/-- the cell says the same, though other cells have been made -/
theorem okE_k {k i : Nat} {e : va_E} (hi : i < rng nu k) (hA : ∀ k i, i < rng nu k → k ≠ 1 → ad' k i = ad k i) (h1 : k ≤ 1 → ad' 1 i = ad 1 i) (hfm : ∀ u, u < nu 7 0 → nu 9 u < nu 6 0) (hq : eqK nu nu' sg sg' k i) (h : okE G fz ad nu sg k i e) : okE G fz ad' nu' sg' k i e := by
  match k, hi, hq, h with
  | 0, hi, hq, ⟨mc, h⟩ =>
    refine ⟨mc, ?_⟩
    rw [h1 (by decide), show ln nu' i = ln nu i from hq]
    exact h
  | 1, hi, hq, ⟨cap, f, h, h2, h3, h4⟩ =>
    have hq : ln nu' i = ln nu i := hq
    refine ⟨cap, f, h, by rw [hq]; exact h2, by rw [h1 (Nat.le_refl 1)]; exact h3, fun j hj => ?_⟩
    rw [hq] at hj
    rw [h4 j hj]
    refine congrArg some ?_
    match i, hi, hj with
    | 0, _, hj => exact (hA 2 j (show j < 4 + nu 6 0 from Nat.lt_of_lt_of_le hj (Nat.le_add_right 4 _)) (by decide)).symm
    | 1, _, hj => exact (hA 2 (4 + j) (Nat.add_lt_add_left hj 4) (by decide)).symm
    | 2, _, hj => exact (hA 4 j hj (by decide)).symm
    | 3, _, hj => exact (hA 5 j hj (by decide)).symm
    | 4, _, hj => exact (hA 7 j hj (by decide)).symm
    | 5, _, hj => exact (hA 8 j hj (by decide)).symm
    | _ + 6, _, hj => exact absurd hj (Nat.not_lt_zero _)
  | 2, hi, hq, h =>
    show e = _
    rw [hA 3 i hi (by decide), show nu' 1 i = nu 1 i from hq]
    exact h
  | 3, hi, hq, ⟨p, h, h2⟩ =>
    refine ⟨p, h, fun j hj => ?_⟩
    rw [hq.1] at hj
    obtain ⟨q1, q2, q3, q4⟩ := hq.2 j hj
    rw [q1, q2, q3, q4]
    exact h2 j hj
  | 4, hi, hq, ⟨mk0, tw, h⟩ =>
    refine ⟨mk0, tw, ?_⟩
    obtain ⟨q1, q2, q3, q4⟩ := hq
    rw [q1, q2, q3, q4, hA 2 (4 + nu 9 i) (Nat.add_lt_add_left (hfm i hi) 4) (by decide)]
    exact h
  | 5, hi, hq, h =>
    show e = _
    rw [hA 6 i hi (by decide), show nu' 13 i = nu 13 i from hq]
    exact h
  | 6, hi, hq, ⟨p, h, h2⟩ =>
    refine ⟨p, h, fun j hj => ?_⟩
    rw [hq.1] at hj
    rw [hq.2 j hj]
    exact h2 j hj
  | 7, hi, hq, h =>
    obtain ⟨q1, q2, q3, q4, q5⟩ := hq
    show e = _
    rw [q1, q2, q3, q4, q5]
    exact h
  | 8, hi, hq, h =>
    show e = _
    rw [hA 9 i hi (by decide), hq.1, hq.2]
    exact h
  | 9, hi, hq, ⟨p, h, h2⟩ =>
    refine ⟨p, h, fun j hj => ?_⟩
    rw [hq.1] at hj
    rw [hq.2 j hj]
    exact h2 j hj
  | 10, hi, hq, h =>
    show e = _
    rw [hA 11 0 Nat.zero_lt_one (by decide), show nu' 25 0 = nu 25 0 from hq]
    exact h
  | 11, hi, hq, h =>
    show e = _
    rw [show sg' 26 = sg 26 from hq]
    exact h
  | 12, hi, hq, ⟨n, h⟩ =>
    refine ⟨n, ?_⟩
    rw [hA 13 0 Nat.zero_lt_one (by decide)]
    exact h
  | 13, hi, hq, h => exact h
  | 14, hi, hq, h =>
    show e = _
    rw [hA 0 0 (show 0 < 6 by decide) (by decide), hA 0 1 (show 1 < 6 by decide) (by decide), hA 0 2 (show 2 < 6 by decide) (by decide), hA 0 3 (show 3 < 6 by decide) (by decide), hA 0 4 (show 4 < 6 by decide) (by decide), hA 0 5 (show 5 < 6 by decide) (by decide), hA 10 0 Nat.zero_lt_one (by decide), hA 12 0 Nat.zero_lt_one (by decide)]
    exact h
  | _ + 15, hi, _, _ => exact absurd hi (Nat.not_lt_zero _)
/-- over other numbers -/
theorem cRep.eq (h : cRep G M fz ad nu sg) (hr : ∀ k, rng nu' k = rng nu k) (hfm : ∀ u, u < nu 7 0 → nu 9 u < nu 6 0) (hq : ∀ k i, i < rng nu k → eqK nu nu' sg sg' k i) : cRep G M fz ad nu' sg' := by
  refine h.next (S := []) (M' := M) xfr.rf h.2.1.2 (fun _ => 0) rfl (fun k i hi => Or.inl ⟨by rw [← hr]; exact hi, rfl⟩) (fun k i hi => Or.inl ?_)
  rw [hr] at hi
  exact ⟨hi, rfl, by simp, (fun z => by subst z; exact hq 1 i hi), fun e he => okE_k hi (fun _ _ _ _ => rfl) (fun _ => rfl) hfm (hq k i hi) he⟩
/-- in place: cells (k, i) of P have been written -/
theorem cRep.inpl (h : cRep G M fz ad nu sg) {S : List Nat} (hz' : M' fz = none) (fr : xfr M M' S) (hr : ∀ k, rng nu' k = rng nu k) (hfm : ∀ u, u < nu 7 0 → nu 9 u < nu 6 0) (P : Nat → Nat → Prop) (hS : ∀ a ∈ S, ∃ k i, a = ad k i ∧ i < rng nu k ∧ k ≠ 1 ∧ P k i)
    (hP : ∀ k i, i < rng nu k → P k i → ∃ e, M' (ad k i) = some e ∧ okE G fz ad nu' sg' k i e) (hq : ∀ k i, i < rng nu k → ¬ P k i → eqK nu nu' sg sg' k i) : cRep G M' fz ad nu' sg' := by
  refine h.next fr hz' (fun _ => 0) rfl (fun k i hi => Or.inl ⟨by rw [← hr]; exact hi, rfl⟩) (fun k i hi => ?_)
  · rw [hr] at hi
    by_cases hp : P k i
    · exact Or.inr (hP k i hi hp)
    · refine Or.inl ⟨hi, rfl, fun hm => ?_, (fun z => by subst z; exact hq 1 i hi hp), fun e he => okE_k hi (fun _ _ _ _ => rfl) (fun _ => rfl) hfm (hq k i hi hp) he⟩
      obtain ⟨k', i', e, hi', hk', hp'⟩ := hS _ hm
      obtain ⟨z1, z2⟩ := h.inj hi hi' e
      subst z1
      rcases z2 with z2 | z2
      · subst z2
        exact hp hp'
      · exact hk' z2.1
end CR
/-- only what is the class's own has changed -/
def cFr (M M' : xMem) (ad : Nat → Nat → Nat) (nu : Nat → Nat → Nat) : Prop := (∀ a, M a ≠ none → M' a ≠ none) ∧ ∀ a, ¬ own ad nu a → M a ≠ none → M' a = M a
theorem cFr.rf {M : xMem} {ad : Nat → Nat → Nat} {nu : Nat → Nat → Nat} : cFr M M ad nu := ⟨fun _ h => h, fun _ _ _ => rfl⟩
theorem cFr.of {M M' : xMem} {ad : Nat → Nat → Nat} {nu : Nat → Nat → Nat} {S : List Nat} (h : xfr M M' S) (hs : ∀ a ∈ S, own ad nu a ∨ M a = none) : cFr M M' ad nu := by
  refine ⟨h.1, fun a ha hn => h.2 a (fun z => ?_) hn⟩
  rcases hs a z with q | q
  · exact ha q
  · exact hn q
theorem cFr.trans {M M1 M2 : xMem} {ad ad1 : Nat → Nat → Nat} {nu nu1 : Nat → Nat → Nat} (h : cFr M M1 ad nu) (h2 : cFr M1 M2 ad1 nu1) (hs : ∀ a, own ad1 nu1 a → own ad nu a ∨ M a = none) : cFr M M2 ad nu := by
  refine ⟨fun a ha => h2.1 a (h.1 a ha), fun a ha hn => ?_⟩
  have e := h.2 a ha hn
  rw [← e]
  refine h2.2 a (fun z => ?_) (by rw [e]; exact hn)
  rcases hs a z with q | q
  · exact ha q
  · exact hn q
theorem cFr.none {M M' : xMem} {ad : Nat → Nat → Nat} {nu : Nat → Nat → Nat} (h : cFr M M' ad nu) {a : Nat} (ha : M' a = none) : M a = none := by
  cases he : M a with
  | none => rfl
  | some e => exact absurd ha (h.1 a (by rw [he]; exact fun z => by cases z))
