/-! Memory as a partial map of cells, and walks over it. -/
theorem x_warm (w : Cond) (h : w ∈ x_tbl) {args a' : Array Value} {s U : State} (hW : s.WarmedH U.vm) (hb : w.before args s = true) : w.before a' U = true := by
  have hg : xgood w = true := (List.mem_filter.mp h).2
  clear h
  cases w with
  | methodLinkNest a i x h => exact va_Nw.use rfl (va_Nw.warmM hW (va_Nw.of rfl hb))
  | castable C T => exact va_Nw.use rfl (va_Nw.warmC hW (va_Nw.of rfl hb))
  | declares x => exact va_tabs rfl (rfl : (s.setVm U.vm).vm = U.vm) (by rw [Cond.declares_setVm hW.alike]; exact hb)
  | stringRef o k t =>
    have h1 := Cond.stringRef_warmed hW hb
    simp only [Cond.before, Cond.holds, Cond.value, State.names, State.poolOf?, State.resolvedAt?] at h1 ⊢
    exact h1
  | arrayOver ty =>
    cases ty with
    | object C => exact va_AO.use (va_AO.moved hW.alike (va_AO.of hb))
    | _ => exact word_at hW (good_of_word hg) hb
  | _ => exact word_at hW (good_of_word hg) hb
def x_stw : List Cond := [.laysStatic "java/lang/Throwable" "UNASSIGNED_STACK" "[Ljava/lang/StackTraceElement;", .laysStatic "java/lang/Throwable" "SUPPRESSED_SENTINEL" "Ljava/util/List;", .isRef (.static "java/lang/Throwable" "UNASSIGNED_STACK" "[Ljava/lang/StackTraceElement;"), .isRef (.static "java/lang/Throwable" "SUPPRESSED_SENTINEL" "Ljava/util/List;")]
def x_strs : List (String × Nat × String) := [("RedactCheck", 183, "there is no such page or form"), ("RedactCheck", 179, "a number is outside its bounds"), ("RedactCheck", 181, "there may be no more"), ("RedactCheck", 177, "there is no such number"), ("RedactCheck", 185, "there is no such word"), ("RedactCheck", 91, "42 stands for what went from a store"), ("RedactCheck", 187, "there is no such store"), ("RedactCheck", 123, "there would be too many forms"), ("RedactCheck", 169, "there is no such use"), ("RedactCheck", 175, "nothing of that kind is counted")]
def x_ncs : List (String × String) := [("java/lang/IllegalArgumentException", "java/lang/IndexOutOfBoundsException"), ("java/lang/UnsupportedOperationException", "java/lang/IndexOutOfBoundsException"), ("java/lang/UnsupportedOperationException", "java/lang/IllegalArgumentException")]
theorem x_lsKept {s U : State} (hal : s.vm.Alike U.vm) (hh : ∀ (a : Nat) (cell : Cell), s.heap[a]? = some cell → cell.vm.isStatics = true → U.heap[a]? = some cell) {C n d : String} {args a' : Array Value} (h : (Cond.laysStatic C n d).before args s = true) : (Cond.laysStatic C n d).before a' U = true := by
  obtain ⟨c, k, i, f, a, cell, hc, hi, hst, ha, hcell, hs, hcls, hlt, hty⟩ := Cond.laysStatic_spec h
  obtain ⟨k', hi', he⟩ := State.fieldFound?_setVm hal hi
  exact Cond.laysStatic_of (by rw [hal.findClass]; exact hc) hi' hst (by rw [he]; exact ha) (hh a cell hcell hs) hs hcls hlt (by rw [he]; exact hty)
theorem x_irKept {s U : State} (hal : s.vm.Alike U.vm) (hh : ∀ (a : Nat) (cell : Cell), s.heap[a]? = some cell → cell.vm.isStatics = true → U.heap[a]? = some cell) {C n d : String} {args a' : Array Value} (hl : (Cond.laysStatic C n d).before args s = true) (h : (Cond.isRef (.static C n d)).before args s = true) : (Cond.isRef (.static C n d)).before a' U = true := by
  obtain ⟨c, k, i, f, a, cell, hc, hi, hst, ha, hcell, hs, hcls, hlt, hty⟩ := Cond.laysStatic_spec hl
  obtain ⟨v, hv, hr⟩ := Cond.isRef_spec h
  obtain ⟨-, a2, cell2, ha2, hcell2, hkn, hsl⟩ := Term.static_spec hi hv
  cases ha.symm.trans ha2
  cases hcell.symm.trans hcell2
  obtain ⟨k', hi', he⟩ := State.fieldFound?_setVm hal hi
  have hU : U.heap[a]? = some cell := hh a cell hcell hs
  have ha' : k'.statics = some a := by rw [he]; exact ha
  have hev : (Term.static C n d).eval a' U none [] U = some v := by
    have hi'' : U.fieldFound? C n d = some (c, k', i, f) := hi'
    simp [Term.eval, State.fieldNamed?, hi'', hst, ha', hU, hs, hsl]
  unfold Cond.before Cond.holds
  simp only [Cond.value]
  rw [hev]
  cases v <;> first | rfl | (simp [Value.isRef] at hr; done)
theorem x_stw_kept {s U : State} (hal : s.vm.Alike U.vm) (hh : ∀ (a : Nat) (cell : Cell), s.heap[a]? = some cell → cell.vm.isStatics = true → U.heap[a]? = some cell) (w : Cond) (hw : w ∈ x_stw) (hall : ∀ w ∈ x_stw, w.before #[] s = true) : w.before #[] U = true := by
  have l1 := hall _ (show Cond.laysStatic "java/lang/Throwable" "UNASSIGNED_STACK" "[Ljava/lang/StackTraceElement;" ∈ x_stw by simp [x_stw])
  have l2 := hall _ (show Cond.laysStatic "java/lang/Throwable" "SUPPRESSED_SENTINEL" "Ljava/util/List;" ∈ x_stw by simp [x_stw])
  simp only [x_stw, List.mem_cons, List.not_mem_nil, or_false] at hw
  rcases hw with rfl | rfl | rfl | rfl
  · exact x_lsKept hal hh l1
  · exact x_lsKept hal hh l2
  · exact x_irKept hal hh l1 (hall _ (by simp [x_stw]))
  · exact x_irKept hal hh l2 (hall _ (by simp [x_stw]))
theorem x_ncKept {s U : State} (hal : s.vm.Alike U.vm) {C T : String} (h : va_Nc C T s) : va_Nc C T U := by
  obtain ⟨c, t, h1, h2, h3⟩ := h
  exact ⟨c, t, by rw [hal.findClass]; exact h1, by rw [hal.findClass]; exact h2, by rw [hal.assignable]; exact h3⟩
abbrev xMem : Type := Nat → Option va_E
def xof (L : List Nat) (f : Nat → va_E) : xMem := fun a => if a ∈ L then some (f a) else none
def xup (M : xMem) (a : Nat) (e : va_E) : xMem := fun j => if j = a then some e else M j
theorem xup_self (M : xMem) (a : Nat) (e : va_E) : xup M a e a = some e := by simp [xup]
theorem xup_ne (M : xMem) {a b : Nat} (e : va_E) (h : b ≠ a) : xup M a e b = M b := by simp [xup, h]
theorem xof_some {L : List Nat} {f : Nat → va_E} {a : Nat} {e : va_E} (h : xof L f a = some e) : a ∈ L ∧ f a = e := by
  unfold xof at h
  split at h
  · rename_i hm
    exact ⟨hm, Option.some.inj h⟩
  · cases h
theorem xof_in {L : List Nat} {f : Nat → va_E} {a : Nat} (h : xof L f a ≠ none) : a ∈ L := by
  unfold xof at h
  split at h
  · assumption
  · exact absurd rfl h
theorem xof_up {L : List Nat} {f : Nat → va_E} {a : Nat} {e : va_E} (h : a ∈ L) : xof L (va_up f a e) = xup (xof L f) a e := by
  funext j
  unfold xof xup va_up
  by_cases hj : j = a
  · subst hj
    simp [h]
  · simp [hj]
theorem xof_push {L : List Nat} {f : Nat → va_E} {a : Nat} {e : va_E} : xof (L ++ [a]) (va_up f a e) = xup (xof L f) a e := by
  funext j
  unfold xof xup va_up
  by_cases hj : j = a
  · subst hj
    simp
  · simp [hj]
/-- the heap holds the memory -/
abbrev xT : Type := va_G × (Nat → ClassId) × List (Nat × Cell) × List (String × String × String × Value)
def xH (D : va_G) (M : xMem) (H : Heap) : Prop := ∃ (L : List Nat) (f : Nat → va_E), M = xof L f ∧ va_P D classes ([] ++ va_pl L f) H ∧ va_D (fun _ => True) ([] ++ va_pl L f)
/-- a walk's world: the heap holds M, all of it in A; nothing outside A has changed since H0; what is new is in A -/
def xWd (G : xT) (A : Nat → Prop) (H0 : Heap) (M : xMem) (H : Heap) (locs : List Loc) : Prop :=
  ∃ (L : List Nat) (f : Nat → va_E), M = xof L f ∧ va_P G.1 classes ([] ++ va_pl L f) H ∧ va_D A ([] ++ va_pl L f) ∧ va_S A H0 H locs ∧ ∀ q, H0.size ≤ q → A q
section XW0
variable {G : xT} {A : Nat → Prop} {H0 H : Heap} {M : xMem} {locs : List Loc} {a : Nat} {e : va_E}
theorem xWd.pos (h : xWd G A H0 M H locs) (ha : M a = some e) :
    ∃ (L : List Nat) (f : Nat → va_E) (k : Nat), M = xof L f ∧ a ∈ L ∧ ([] ++ va_pl L f)[k]? = some (a, f a) ∧ f a = e ∧ va_P G.1 classes ([] ++ va_pl L f) H ∧ va_D A ([] ++ va_pl L f) ∧ va_S A H0 H locs ∧ ∀ q, H0.size ≤ q → A q := by
  obtain ⟨L, f, hM, hP, hD, hS, hA⟩ := h
  rw [hM] at ha
  obtain ⟨hm, he⟩ := xof_some ha
  obtain ⟨k, hk⟩ := va_pl_get (X := []) (f := f) hm
  exact ⟨L, f, k, hM, hm, hk, he, hP, hD, hS, hA⟩
theorem xWd.at (h : xWd G A H0 M H locs) (ha : M a = some e) : va_at G.1 classes (a, e) H := by
  obtain ⟨L, f, k, -, -, hk, he, hP, -⟩ := h.pos ha
  rw [← he]
  exact hP k _ hk
theorem xWd.lt (h : xWd G A H0 M H locs) (ha : M a = some e) : a < H.size := (h.at ha).lt
theorem xWd.inA (h : xWd G A H0 M H locs) (ha : M a ≠ none) : A a := by
  cases he : M a with
  | none => exact absurd he ha
  | some e =>
    obtain ⟨L, f, k, -, -, hk, -, -, hD, -⟩ := h.pos he
    exact hD.2 k _ hk
theorem xWd.S (h : xWd G A H0 M H locs) : va_S A H0 H locs := by
  obtain ⟨L, f, -, -, -, hS, -⟩ := h
  exact hS
theorem xWd.new (h : xWd G A H0 M H locs) : ∀ q, H0.size ≤ q → A q := by
  obtain ⟨L, f, -, -, -, -, hA⟩ := h
  exact hA
theorem xWd.fresh (h : xWd G A H0 M H locs) (ha : H.size ≤ a) : M a = none := by
  cases he : M a with
  | none => rfl
  | some e =>
    have := h.lt he
    omega
theorem xH.at {D : va_G} (h : xH D M H) (ha : M a = some e) : va_at D classes (a, e) H := by
  obtain ⟨L, f, hM, hP, -⟩ := h
  rw [hM] at ha
  obtain ⟨hm, he⟩ := xof_some ha
  obtain ⟨k, hk⟩ := va_pl_get (X := []) (f := f) hm
  rw [← he]
  exact hP k _ hk
theorem xH.lt {D : va_G} (h : xH D M H) (ha : M a ≠ none) : a < H.size := by
  cases he : M a with
  | none => exact absurd he ha
  | some e => exact (h.at he).lt
theorem xWd.hp (h : xWd G A H0 M H locs) : xH G.1 M H := by
  obtain ⟨L, f, hM, hP, hD, -⟩ := h
  exact ⟨L, f, hM, hP, hD.weaken (fun _ _ _ _ => trivial)⟩
theorem xWd.of (h : xH G.1 M H) (hA : ∀ q, M q ≠ none → A q) (hS : va_S A H0 H locs) (hN : ∀ q, H0.size ≤ q → A q) : xWd G A H0 M H locs := by
  obtain ⟨L, f, hM, hP, hD⟩ := h
  refine ⟨L, f, hM, hP, ⟨hD.1, fun k q hk => hA q.1 ?_⟩, hS, hN⟩
  have hq : q ∈ va_pl L f := List.mem_of_getElem? hk
  obtain ⟨b, hb, e⟩ := List.mem_map.mp hq
  subst e
  rw [hM]
  unfold xof
  rw [if_pos hb]
  exact fun z => by cases z
theorem x_plain {D : va_G} {H : Heap} {a : Nat} {e : va_E} {cell : Cell} (h : va_at D classes (a, e) H) (hc : H[a]? = some cell) : cell.vm = .none := by
  cases e with
  | inl x =>
    obtain ⟨cA, n, y⟩ := x
    have h1 : H[a]? = some (vp_cell cA (n, y)) := h
    have h2 : vp_cell cA (n, y) = cell := Option.some.inj (h1.symm.trans hc)
    rw [← h2]
    rcases y with y | y | y | y | y <;> rfl
  | inr o =>
    obtain ⟨r, -, cell', q1, q2, q3, -⟩ := h
    cases q1.symm.trans hc
    exact q3
/-- one cell has been written -/
theorem xWd.put {H1 : Heap} {locs1 : List Loc} {L : List Nat} {f : Nat → va_E} {k : Nat} (hm : a ∈ L) (hk : ([] ++ va_pl L f)[k]? = some (a, f a)) (hD : va_D A ([] ++ va_pl L f))
    (hP1 : va_P G.1 classes (([] ++ va_pl L f).set k (a, e)) H1) (hD1 : va_D A (([] ++ va_pl L f).set k (a, e))) (hS1 : va_S A H0 H1 locs1) (hA : ∀ q, H0.size ≤ q → A q) : xWd G A H0 (xup (xof L f) a e) H1 locs1 := by
  rw [va_pl_set hD hm hk] at hP1 hD1
  exact ⟨L, va_up f a e, (xof_up hm).symm, hP1, hD1, hS1, hA⟩
/-- one cell has been made -/
theorem xWd.push {H1 : Heap} {locs1 : List Loc} {L : List Nat} {f : Nat → va_E}
    (hP1 : va_P G.1 classes (([] ++ va_pl L f) ++ [(a, e)]) H1) (hD1 : va_D A (([] ++ va_pl L f) ++ [(a, e)])) (hS1 : va_S A H0 H1 locs1) (hA : ∀ q, H0.size ≤ q → A q) : xof L f a = none ∧ xWd G A H0 (xup (xof L f) a e) H1 locs1 := by
  have hn : a ∉ L := by
    intro hm
    obtain ⟨k, hk⟩ := va_pl_get (X := []) (f := f) hm
    have hl := (List.getElem?_eq_some_iff.mp hk).1
    have h1 : (([] ++ va_pl L f) ++ [(a, e)])[k]? = some (a, f a) := by
      rw [List.getElem?_append_left hl]
      exact hk
    have h2 : (([] ++ va_pl L f) ++ [(a, e)])[([] ++ va_pl L f).length]? = some (a, e) := by
      rw [List.getElem?_append_right (Nat.le_refl _), Nat.sub_self]
      rfl
    have := hD1.1 _ _ _ _ h1 h2 rfl
    omega
  refine ⟨by unfold xof; rw [if_neg hn], L ++ [a], va_up f a e, xof_push.symm, ?_, ?_, hS1, hA⟩
  · rw [List.nil_append, ← va_pl_push hn]
    exact hP1
  · rw [List.nil_append, ← va_pl_push hn]
    exact hD1
end XW0
/-- M' has all cells that M has, and outside of S as M has them -/
def xfr (M M' : xMem) (S : List Nat) : Prop := (∀ a, M a ≠ none → M' a ≠ none) ∧ ∀ a, a ∉ S → M a ≠ none → M' a = M a
theorem xfr.rf {M : xMem} {S : List Nat} : xfr M M S := ⟨fun _ h => h, fun _ _ _ => rfl⟩
theorem xfr.put {M M1 M2 : xMem} {S : List Nat} {a : Nat} {e : va_E} (h : xfr M M1 S) (em : M2 a = some e) (h2 : ∀ b, b ≠ a → M2 b = M1 b) (ha : a ∈ S ∨ M1 a = none) : xfr M M2 S := by
  refine ⟨fun b hb => ?_, fun b hb hn => ?_⟩
  · by_cases hz : b = a
    · rw [hz, em]
      exact fun z => by cases z
    · rw [h2 b hz]
      exact h.1 b hb
  · have hne : b ≠ a := by
      intro z
      subst z
      rcases ha with ha | ha
      · exact hb ha
      · exact h.1 b hn ha
    rw [h2 b hne]
    exact h.2 b hb hn
theorem xfr.trans {M M1 M2 : xMem} {S S1 : List Nat} (h : xfr M M1 S) (h2 : xfr M1 M2 S1) (hs : ∀ q ∈ S1, q ∈ S ∨ M q = none) : xfr M M2 S := by
  refine ⟨fun b hb => h2.1 b (h.1 b hb), fun b hb hn => ?_⟩
  have e := h.2 b hb hn
  rw [← e]
  refine h2.2 b (fun z => ?_) (by rw [e]; exact hn)
  rcases hs b z with q | q
  · exact hb q
  · exact hn q
theorem xfr.get {M M' : xMem} {S : List Nat} (h : xfr M M' S) {a : Nat} {e : va_E} (ha : M a = some e) (hn : a ∉ S) : M' a = some e := by
  rw [h.2 a hn (by rw [ha]; exact fun z => by cases z)]
  exact ha
theorem xfr.wide {M M' : xMem} {S S1 : List Nat} (h : xfr M M' S) (hs : ∀ q ∈ S, q ∈ S1) : xfr M M' S1 := ⟨h.1, fun a ha hn => h.2 a (fun z => ha (hs a z)) hn⟩
theorem xfr.none {M M' : xMem} {S : List Nat} (h : xfr M M' S) {a : Nat} (ha : M' a = none) : M a = none := by
  cases he : M a with
  | none => rfl
  | some e => exact absurd ha (h.1 a (by rw [he]; exact fun z => by cases z))
theorem x_ne {M : xMem} {a b : Nat} {e e' : va_E} (h1 : M a = some e) (h2 : M b = some e') (h : e ≠ e') : a ≠ b := by
  intro z
  subst z
  exact h (Option.some.inj (h1.symm.trans h2))
theorem x_neN {M : xMem} {a b : Nat} {e : va_E} (h1 : M a = some e) (h2 : M b = none) : a ≠ b := by
  intro z
  subst z
  rw [h1] at h2
  cases h2
theorem x_nn {M : xMem} {a : Nat} {e : va_E} (h1 : M a = some e) : M a ≠ none := by
  rw [h1]
  exact fun z => by cases z

/-! contracts -/
def xtys (c : Nat → ClassId) : List (ClassId × FieldType) := [(c 0, .int), (c 1, .byte), (c 2, .long), (c 3, .object "java/lang/Object"), (c 4, .boolean)]
def xA (M : xMem) (sz : Nat) : Nat → Prop := fun q => M q ≠ none ∨ sz ≤ q
/-- what nobody writes: some cells; what some static fields hold; no cell of statics is in A; words on statics; texts; classes apart; a class's mirror -/
def xfz (G : xT) (A : Nat → Prop) (U : State) : Prop := (∀ q ∈ G.2.2.1, ¬ A q.1 ∧ U.heap[q.1]? = some q.2) ∧ (∀ z ∈ G.2.2.2, va_Z z.1 z.2.1 z.2.2.1 z.2.2.2 A U U.heap) ∧ (∀ (a : Nat) (cell : Cell), U.heap[a]? = some cell → cell.vm.isStatics = true → ¬ A a) ∧ (∀ w ∈ x_stw, w.before #[] U = true) ∧ (∀ z ∈ x_strs, ∃ q : Nat, vk_R z.1 z.2.1 z.2.2 q U) ∧ (∀ z ∈ x_ncs, va_Nc z.1 z.2 U) ∧ va_Mi "[Ljava/lang/Object;" (G.2.1 9) U ∧ U.vm.findClass "[Ljava/lang/Object;" = some (G.2.1 3)
theorem xfz.next {G : xT} {A B : Nat → Prop} {s U : State} (h : xfz G A s) (hW : s.WarmedH U.vm) (hh : ∀ q : Nat, q < s.heap.size → ¬ A q → U.heap[q]? = s.heap[q]?) (hAB : ∀ q, B q → A q) (hst : ∀ (a : Nat) (cell : Cell), U.heap[a]? = some cell → cell.vm.isStatics = true → ¬ B a) : xfz G B U := by
  obtain ⟨h1, h2, h3, h4, h5, h6, h7⟩ := h
  have hk : ∀ (a : Nat) (cell : Cell), s.heap[a]? = some cell → cell.vm.isStatics = true → U.heap[a]? = some cell := fun a cell hc hs => by
    rw [hh a (Array.getElem?_eq_some_iff.mp hc).1 (h3 a cell hc hs)]
    exact hc
  refine ⟨fun q hq => ?_, fun z hz => ?_, hst, fun w hw => x_stw_kept hW.alike hk w hw h4, fun z hz => ?_, fun z hz => ?_, va_Mi.moved hW.alike h7.1, by rw [hW.alike.findClass]; exact h7.2⟩
  · obtain ⟨z1, z2⟩ := h1 q hq
    exact ⟨fun z => z1 (hAB _ z), by rw [hh q.1 (Array.getElem?_eq_some_iff.mp z2).1 z1]; exact z2⟩
  · exact (va_Z.moved (u := s) hW.alike ((h2 z hz).kept hh)).narrow hAB
  · obtain ⟨q, hq⟩ := h5 z hz
    exact ⟨q, vk_R.warm hW hq⟩
  · exact x_ncKept hW.alike (h6 z hz)
def xPre (G : xT) (av : List Value) (M : xMem) (sz : Nat) : Array Value → State → Prop := fun v U => v = av.toArray ∧ U.heap.size = sz ∧ xH G.1 M U.heap ∧ va_K G.1 classes (xtys G.2.1) U ∧ xfz G (xA M sz) U
def xEnd (G : xT) (M : xMem) (sz : Nat) (M' : xMem) (t : State) : Prop := xH G.1 M' t.heap ∧ ∀ q, M' q ≠ none → xA M sz q
def xThr (X : String) (x : Addr) (t : State) : Prop := ∃ ce : Cell, t.heap[x]? = some ce ∧ ce.vm.isStatics = false ∧ t.vm.findClass X = some ce.cls
def xQ (G : xT) (M : xMem) (sz : Nat) (rt : Option Value → xMem → Prop) (th : String → xMem → Prop) : State → Outcome → State → Prop := fun st o t =>
  ((∃ (v : Option Value) (M' : xMem), o = .returned v ∧ rt v M' ∧ xEnd G M sz M' t) ∨ (∃ (x : Addr) (X : String) (M' : xMem), o = .threw x ∧ xThr X x t ∧ th X M' ∧ xEnd G M sz M' t)) ∧ va_F (xA M sz) st t
def xFr (st t : State) (L : List Loc) (k n : Nat) : Prop := st.WarmedH t.vm ∧ st.sameButNew ({ t with vm := st.vm } : State) L k n
def xMet (l : Launch) (G : xT) (y : MethodName) (ws : List Cond) (rm : Room) (av : List Value) (M : xMem) (sz : Nat) (rt : Option Value → xMem → Prop) (th : String → xMem → Prop) : Prop :=
  MetFree l y (headSpec ws rm) (xPre G av M sz) (fun _ _ _ _ _ => True) (fun _ st o t => xQ G M sz rt th st o t ∧ ∃ L, xFr st t L rm.cells rm.slots ∧ ∀ q ∈ L, xA M sz q.base)
def xMQ (below : List Frame) (G : xT) (M : xMem) (sz : Nat) (rt : Option Value → xMem → Prop) (th : String → xMem → Prop) (s : State) (mc ms : Nat) : State → Prop := fun t =>
  ∃ o, t.status = .running ∧ Ended t below o ∧ xQ G M sz rt th s o t ∧ ∃ L, xFr s t L mc ms ∧ ∀ q ∈ L, xA M sz q.base
/-- what stays the same all along a walk -/
def xC (p : Program) (s : State) (m : MethodId) (args : Array Value) (meth : Method) (c : Code) (cc : ByteArray) (own : String) (nL : Nat) (G : xT) (A : Nat → Prop) : Prop :=
  p.tables.exec = Jvm.exec ∧ c.code = cc ∧ s.vm.findClass own = some m.cls ∧ (∀ w ∈ x_tbl, w.before args s = true) ∧ va_K G.1 classes (xtys G.2.1) s ∧ c.maxLocals = nL ∧ meth.locks = false ∧ xfz G A s
section XR
variable {p : Program} {l : Launch} {e : Env} {R : Room} {s : State} {m : MethodId} {args : Array Value} {below : List Frame} {meth : Method} {c : Code} {H : Heap} {locs : List Loc} {cells slots : Nat} {Q : State → Prop}
theorem x_mono {Q' : State → Prop} {g : JFrame} (h : ∀ t, Q t → Q' t) (k : W p l e R s m args below meth c H locs cells slots Q g) : W p l e R s m args below meth c H locs cells slots Q' g := by
  intro T hT X
  obtain ⟨t, a, b⟩ := k T hT X
  exact ⟨t, a, h t b⟩
variable {cc : ByteArray} {own : String} {nL : Nat} {G : xT} {pc : Nat} {ls : Array Slot} {rest : List Value} {A : Nat → Prop} {a : Nat} {M : xMem} {H0 : Heap}
theorem xC.x (hC : xC p s m args meth c cc own nL G A) : p.tables.exec = Jvm.exec := hC.1
theorem xC.b (hC : xC p s m args meth c cc own nL G A) : c.code = cc := hC.2.1
theorem xC.o (hC : xC p s m args meth c cc own nL G A) : s.vm.findClass own = some m.cls := hC.2.2.1
theorem xC.w (hC : xC p s m args meth c cc own nL G A) : ∀ w ∈ x_tbl, w.before args s = true := hC.2.2.2.1
theorem xC.k (hC : xC p s m args meth c cc own nL G A) : va_K G.1 classes (xtys G.2.1) s := hC.2.2.2.2.1
theorem xC.n (hC : xC p s m args meth c cc own nL G A) : c.maxLocals = nL := hC.2.2.2.2.2.1
theorem xC.lk (hC : xC p s m args meth c cc own nL G A) : meth.locks = false := hC.2.2.2.2.2.2.1
theorem xC.z (hC : xC p s m args meth c cc own nL G A) : xfz G A s := hC.2.2.2.2.2.2.2
theorem x_vi {x y : Int32} (h : x = y) (k : W p l e R s m args below meth c H locs cells slots Q (F0 m pc ls (.int y :: rest))) : W p l e R s m args below meth c H locs cells slots Q (F0 m pc ls (.int x :: rest)) := by
  subst h
  exact k
theorem x_vl {x y : Int64} (h : x = y) (k : W p l e R s m args below meth c H locs cells slots Q (F0 m pc ls (.long y :: rest))) : W p l e R s m args below meth c H locs cells slots Q (F0 m pc ls (.long x :: rest)) := by
  subst h
  exact k
theorem x_vq {x y : Value} (h : x = y) (k : W p l e R s m args below meth c H locs cells slots Q (F0 m pc ls (y :: rest))) : W p l e R s m args below meth c H locs cells slots Q (F0 m pc ls (x :: rest)) := by
  subst h
  exact k
theorem x_lcmp {x y : Int64} : lg_cmp x y = 0 ↔ x = y := by
  unfold lg_cmp
  constructor
  · intro h
    by_cases h1 : x > y
    · rw [if_pos h1] at h
      exact absurd h (by decide)
    · rw [if_neg h1] at h
      by_cases h2 : x = y
      · exact h2
      · rw [if_neg h2] at h
        exact absurd h (by decide)
  · intro h
    subst h
    rw [if_neg (fun h => Int64.lt_irrefl h), if_pos rfl]
theorem x_lcmpN {x y : Int64} : ¬ lg_cmp x y = 0 ↔ ¬ x = y := not_congr x_lcmp
/-- fields -/
theorem x_get (hC : xC p s m args meth c cc own nL G A) (hw : xWd G A H0 M H locs) {ref C : String} {T : u_T} {N ci index : Nat} {fs : List Value} (ha : M a = some (.inr (ci, fs))) (hc : classes[ci]? = some (C, T, N)) (k : Nat) (hk : k < N) (hlink : (Cond.fieldLink own index ref (T k).2.1 (T k).2.2.1).before args s = true) (hsame : ∀ x, s.fieldFound? (T k).1 (T k).2.1 (T k).2.2.1 = some x → s.fieldFound? ref (T k).2.1 (T k).2.2.1 = some x) {v : Value} (hv : fs[k]? = some v) (hdg : decode cc pc = .ok (.getfield index, 3))
    (kk : W p l e R s m args below meth c H locs cells slots Q (F0 m (pc + 3) ls (v :: rest))) : W p l e R s m args below meth c H locs cells slots Q (F0 m pc ls (.ref a :: rest)) := by
  obtain ⟨L, f, q, rfl, hm, hq, he, hP, hD, hS, hA⟩ := hw.pos ha
  rw [he] at hq
  exact va_get hC.x hC.b hC.w (x_allin ci _ hc) hC.o hC.k hP q hq hc k hk hlink hsame hv hdg kk
theorem x_put (hC : xC p s m args meth c cc own nL G A) (hw : xWd G A H0 M H locs) {ref C : String} {T : u_T} {N ci index : Nat} {fs : List Value} (ha : M a = some (.inr (ci, fs))) (hc : classes[ci]? = some (C, T, N)) (k : Nat) (hk : k < N) (hlink : (Cond.fieldLink own index ref (T k).2.1 (T k).2.2.1).before args s = true) (hsame : ∀ x, s.fieldFound? (T k).1 (T k).2.1 (T k).2.2.1 = some x → s.fieldFound? ref (T k).2.1 (T k).2.2.1 = some x) (hfin : (T k).2.2.2 = false) {ty : FieldType} {v : Value} (hd : parseFieldDescriptor (T k).2.2.1 = some ty) (hn : narrow ty v = v) (hfit : fits ty v = true) (hl : k < fs.length) (hdg : decode cc pc = .ok (.putfield index, 3))
    (kk : ∀ (M1 : xMem) (H1 : Heap) (locs1 : List Loc), M1 a = some (.inr (ci, fs.set k v)) → (∀ b, b ≠ a → M1 b = M b) → xWd G A H0 M1 H1 locs1 → W p l e R s m args below meth c H1 locs1 cells slots Q (F0 m (pc + 3) ls rest)) : W p l e R s m args below meth c H locs cells slots Q (F0 m pc ls (v :: .ref a :: rest)) := by
  obtain ⟨L, f, q, rfl, hm, hq, he, hP, hD, hS, hA⟩ := hw.pos ha
  have hq' := hq
  rw [he] at hq'
  exact va_put hC.x hC.b hC.w (x_allin ci _ hc) (x_ty ci) (x_tyok ci _ hc) (x_nm ci _ hc) hC.o hC.k hP hD hS q hq' hc k hk hlink hsame hfin hd hn hfit hl hdg (fun H1 locs1 hP1 hD1 hS1 => kk _ H1 locs1 (xup_self _ _ _) (fun b hb => xup_ne _ _ hb) (xWd.put hm hq hD hP1 hD1 hS1 hA))
theorem x_putF (hC : xC p s m args meth c cc own nL G A) (hw : xWd G A H0 M H locs) {ref C : String} {T : u_T} {N ci index : Nat} {fs : List Value} (ha : M a = some (.inr (ci, fs))) (hc : classes[ci]? = some (C, T, N)) (k : Nat) (hk : k < N) (hlink : (Cond.fieldLink own index ref (T k).2.1 (T k).2.2.1).before args s = true) (hsame : ∀ x, s.fieldFound? (T k).1 (T k).2.1 (T k).2.2.1 = some x → s.fieldFound? ref (T k).2.1 (T k).2.2.1 = some x) (hfin : (T k).2.2.2 = true) (hin2 : meth.name = "<init>") (hdecl : (T k).1 = own) {ty : FieldType} {v : Value} (hd : parseFieldDescriptor (T k).2.2.1 = some ty) (hn : narrow ty v = v) (hfit : fits ty v = true) (hl : k < fs.length) (hdg : decode cc pc = .ok (.putfield index, 3))
    (kk : ∀ (M1 : xMem) (H1 : Heap) (locs1 : List Loc), M1 a = some (.inr (ci, fs.set k v)) → (∀ b, b ≠ a → M1 b = M b) → xWd G A H0 M1 H1 locs1 → W p l e R s m args below meth c H1 locs1 cells slots Q (F0 m (pc + 3) ls rest)) : W p l e R s m args below meth c H locs cells slots Q (F0 m pc ls (v :: .ref a :: rest)) := by
  obtain ⟨L, f, q, rfl, hm, hq, he, hP, hD, hS, hA⟩ := hw.pos ha
  have hq' := hq
  rw [he] at hq'
  exact va_putF hC.x hC.b hC.w (x_allin ci _ hc) (x_ty ci) (x_tyok ci _ hc) (x_nm ci _ hc) hC.o hC.k hP hD hS q hq' hc k hk hlink hsame hfin hin2 hdecl hd hn hfit hl hdg (fun H1 locs1 hP1 hD1 hS1 => kk _ H1 locs1 (xup_self _ _ _) (fun b hb => xup_ne _ _ hb) (xWd.put hm hq hD hP1 hD1 hS1 hA))
/-- arrays -/
theorem x_clamp {i : Int32} {j n : Nat} (hi : i = nI j) (hj : j < n) (hn : n < 2 ^ 31) : i.toNatClampNeg = j := by
  rw [hi]
  exact nI_clamp (by omega)
theorem x_inr {i : Int32} {j n : Nat} (hi : i = nI j) (hj : j < n) (hn : n < 2 ^ 31) : vp_in i n := by
  rw [hi]
  exact vp_in_nI hj hn
theorem x_upd (f : Nat → Int32) (k : Nat) (x : Int32) : upd f k x = va_up f k x := rfl
theorem x_updL (f : Nat → Int64) (k : Nat) (x : Int64) : vp_updL f k x = va_up f k x := rfl
theorem x_alen (hC : xC p s m args meth c cc own nL G A) (hw : xWd G A H0 M H locs) {t0 : Nat} {cA : ClassId} {x : vp_A} (ha : M a = some (.inl (cA, x))) {ty : FieldType} (ht : (xtys G.2.1)[t0]? = some (cA, ty)) {v : Int32} (hv : Int32.ofNat x.1 = v) (hdg : decode cc pc = .ok (.arraylength, 1))
    (kk : W p l e R s m args below meth c H locs cells slots Q (F0 m (pc + 1) ls (.int v :: rest))) : W p l e R s m args below meth c H locs cells slots Q (F0 m pc ls (.ref a :: rest)) := by
  obtain ⟨L, f, q, rfl, hm, hq, he, hP, hD, hS, hA⟩ := hw.pos ha
  rw [he] at hq
  exact va_alen hC.x hC.b hC.k hP q t0 hq ht hv hdg kk
theorem x_iald (hC : xC p s m args meth c cc own nL G A) (hw : xWd G A H0 M H locs) {cA : ClassId} {n j : Nat} {f : Nat → Int32} (ha : M a = some (.inl (cA, n, .inl f))) (ht : cA = G.2.1 0) {i : Int32} (hi : i = nI j) (hj : j < n) (hn : n < 2 ^ 31) (hdg : decode cc pc = .ok (.iaload, 1))
    (kk : W p l e R s m args below meth c H locs cells slots Q (F0 m (pc + 1) ls (.int (f j) :: rest))) : W p l e R s m args below meth c H locs cells slots Q (F0 m pc ls (.int i :: .ref a :: rest)) := by
  obtain ⟨L, f0, q, rfl, hm, hq, he, hP, hD, hS, hA⟩ := hw.pos ha
  rw [he] at hq
  refine va_iald hC.x hC.b hC.k hP q 0 hq (by rw [ht]; rfl) (x_inr hi hj hn) hdg ?_
  rw [x_clamp hi hj hn]
  exact kk
theorem x_bald (hC : xC p s m args meth c cc own nL G A) (hw : xWd G A H0 M H locs) {cA : ClassId} {n j : Nat} {f : Nat → Int32} (ha : M a = some (.inl (cA, n, .inl f))) (ht : cA = G.2.1 1) {i : Int32} (hi : i = nI j) (hj : j < n) (hn : n < 2 ^ 31) (hdg : decode cc pc = .ok (.baload, 1))
    (kk : W p l e R s m args below meth c H locs cells slots Q (F0 m (pc + 1) ls (.int (f j) :: rest))) : W p l e R s m args below meth c H locs cells slots Q (F0 m pc ls (.int i :: .ref a :: rest)) := by
  obtain ⟨L, f0, q, rfl, hm, hq, he, hP, hD, hS, hA⟩ := hw.pos ha
  rw [he] at hq
  refine va_bald hC.x hC.b hC.k hP q 1 hq (by rw [ht]; rfl) (x_inr hi hj hn) hdg ?_
  rw [x_clamp hi hj hn]
  exact kk
theorem x_zald (hC : xC p s m args meth c cc own nL G A) (hw : xWd G A H0 M H locs) {cA : ClassId} {n j : Nat} {f : Nat → Int32} (ha : M a = some (.inl (cA, n, .inl f))) (ht : cA = G.2.1 4) {i : Int32} (hi : i = nI j) (hj : j < n) (hn : n < 2 ^ 31) (hdg : decode cc pc = .ok (.baload, 1))
    (kk : W p l e R s m args below meth c H locs cells slots Q (F0 m (pc + 1) ls (.int (f j) :: rest))) : W p l e R s m args below meth c H locs cells slots Q (F0 m pc ls (.int i :: .ref a :: rest)) := by
  obtain ⟨L, f0, q, rfl, hm, hq, he, hP, hD, hS, hA⟩ := hw.pos ha
  rw [he] at hq
  refine va_zald hC.x hC.b hC.k hP q 4 hq (by rw [ht]; rfl) (x_inr hi hj hn) hdg ?_
  rw [x_clamp hi hj hn]
  exact kk
theorem x_lald (hC : xC p s m args meth c cc own nL G A) (hw : xWd G A H0 M H locs) {cA : ClassId} {n j : Nat} {f : Nat → Int64} (ha : M a = some (.inl (cA, n, .inr (.inl f)))) (ht : cA = G.2.1 2) {i : Int32} (hi : i = nI j) (hj : j < n) (hn : n < 2 ^ 31) (hdg : decode cc pc = .ok (.laload, 1))
    (kk : W p l e R s m args below meth c H locs cells slots Q (F0 m (pc + 1) ls (.long (f j) :: rest))) : W p l e R s m args below meth c H locs cells slots Q (F0 m pc ls (.int i :: .ref a :: rest)) := by
  obtain ⟨L, f0, q, rfl, hm, hq, he, hP, hD, hS, hA⟩ := hw.pos ha
  rw [he] at hq
  refine va_lald hC.x hC.b hC.k hP q 2 hq (by rw [ht]; rfl) (x_inr hi hj hn) hdg ?_
  rw [x_clamp hi hj hn]
  exact kk
theorem x_aald (hC : xC p s m args meth c cc own nL G A) (hw : xWd G A H0 M H locs) {cA : ClassId} {n j : Nat} {f : Nat → Option Nat} (ha : M a = some (.inl (cA, n, .inr (.inr (.inr (.inr f)))))) (ht : cA = G.2.1 3) {i : Int32} (hi : i = nI j) (hj : j < n) (hn : n < 2 ^ 31) (hdg : decode cc pc = .ok (.aaload, 1))
    (kk : W p l e R s m args below meth c H locs cells slots Q (F0 m (pc + 1) ls (va_rf (f j) :: rest))) : W p l e R s m args below meth c H locs cells slots Q (F0 m pc ls (.int i :: .ref a :: rest)) := by
  obtain ⟨L, f0, q, rfl, hm, hq, he, hP, hD, hS, hA⟩ := hw.pos ha
  rw [he] at hq
  refine va_aldq hC.x hC.b hC.k hP q 3 hq (by rw [ht]; rfl) (x_inr hi hj hn) hdg ?_
  rw [x_clamp hi hj hn]
  exact kk
theorem x_iast (hC : xC p s m args meth c cc own nL G A) (hw : xWd G A H0 M H locs) {cA : ClassId} {n j : Nat} {f : Nat → Int32} (ha : M a = some (.inl (cA, n, .inl f))) (ht : cA = G.2.1 0) {i x : Int32} (hi : i = nI j) (hj : j < n) (hn : n < 2 ^ 31) (hdg : decode cc pc = .ok (.iastore, 1))
    (kk : ∀ (M1 : xMem) (H1 : Heap) (locs1 : List Loc), M1 a = some (.inl (cA, n, .inl (va_up f j x))) → (∀ b, b ≠ a → M1 b = M b) → xWd G A H0 M1 H1 locs1 → W p l e R s m args below meth c H1 locs1 cells slots Q (F0 m (pc + 1) ls rest)) : W p l e R s m args below meth c H locs cells slots Q (F0 m pc ls (.int x :: .int i :: .ref a :: rest)) := by
  obtain ⟨L, f0, q, rfl, hm, hq, he, hP, hD, hS, hA⟩ := hw.pos ha
  have hq' := hq
  rw [he] at hq'
  refine va_iast hC.x hC.b hC.k hP hD hS q 0 hq' (by rw [ht]; rfl) (x_inr hi hj hn) hdg (fun H1 locs1 hP1 hD1 hS1 => kk _ H1 locs1 ?_ (fun b hb => xup_ne _ _ hb) (xWd.put hm hq hD hP1 hD1 hS1 hA))
  rw [xup_self, x_clamp hi hj hn, x_upd]
theorem x_bast (hC : xC p s m args meth c cc own nL G A) (hw : xWd G A H0 M H locs) {cA : ClassId} {n j : Nat} {f : Nat → Int32} (ha : M a = some (.inl (cA, n, .inl f))) (ht : cA = G.2.1 1) {i x : Int32} (hi : i = nI j) (hj : j < n) (hn : n < 2 ^ 31) (hdg : decode cc pc = .ok (.bastore, 1))
    (kk : ∀ (M1 : xMem) (H1 : Heap) (locs1 : List Loc), M1 a = some (.inl (cA, n, .inl (va_up f j (vp_nar .byte x)))) → (∀ b, b ≠ a → M1 b = M b) → xWd G A H0 M1 H1 locs1 → W p l e R s m args below meth c H1 locs1 cells slots Q (F0 m (pc + 1) ls rest)) : W p l e R s m args below meth c H locs cells slots Q (F0 m pc ls (.int x :: .int i :: .ref a :: rest)) := by
  obtain ⟨L, f0, q, rfl, hm, hq, he, hP, hD, hS, hA⟩ := hw.pos ha
  have hq' := hq
  rw [he] at hq'
  refine va_bast hC.x hC.b hC.k hP hD hS q 1 hq' (by rw [ht]; rfl) (x_inr hi hj hn) hdg (fun H1 locs1 hP1 hD1 hS1 => kk _ H1 locs1 ?_ (fun b hb => xup_ne _ _ hb) (xWd.put hm hq hD hP1 hD1 hS1 hA))
  rw [xup_self, x_clamp hi hj hn, x_upd]
theorem x_zast (hC : xC p s m args meth c cc own nL G A) (hw : xWd G A H0 M H locs) {cA : ClassId} {n j : Nat} {f : Nat → Int32} (ha : M a = some (.inl (cA, n, .inl f))) (ht : cA = G.2.1 4) {i x : Int32} (hi : i = nI j) (hj : j < n) (hn : n < 2 ^ 31) (hdg : decode cc pc = .ok (.bastore, 1))
    (kk : ∀ (M1 : xMem) (H1 : Heap) (locs1 : List Loc), M1 a = some (.inl (cA, n, .inl (va_up f j (vp_nar .boolean x)))) → (∀ b, b ≠ a → M1 b = M b) → xWd G A H0 M1 H1 locs1 → W p l e R s m args below meth c H1 locs1 cells slots Q (F0 m (pc + 1) ls rest)) : W p l e R s m args below meth c H locs cells slots Q (F0 m pc ls (.int x :: .int i :: .ref a :: rest)) := by
  obtain ⟨L, f0, q, rfl, hm, hq, he, hP, hD, hS, hA⟩ := hw.pos ha
  have hq' := hq
  rw [he] at hq'
  refine va_zast hC.x hC.b hC.k hP hD hS q 4 hq' (by rw [ht]; rfl) (x_inr hi hj hn) hdg (fun H1 locs1 hP1 hD1 hS1 => kk _ H1 locs1 ?_ (fun b hb => xup_ne _ _ hb) (xWd.put hm hq hD hP1 hD1 hS1 hA))
  rw [xup_self, x_clamp hi hj hn, x_upd]
theorem x_last (hC : xC p s m args meth c cc own nL G A) (hw : xWd G A H0 M H locs) {cA : ClassId} {n j : Nat} {f : Nat → Int64} (ha : M a = some (.inl (cA, n, .inr (.inl f)))) (ht : cA = G.2.1 2) {i : Int32} {x : Int64} (hi : i = nI j) (hj : j < n) (hn : n < 2 ^ 31) (hdg : decode cc pc = .ok (.lastore, 1))
    (kk : ∀ (M1 : xMem) (H1 : Heap) (locs1 : List Loc), M1 a = some (.inl (cA, n, .inr (.inl (va_up f j x)))) → (∀ b, b ≠ a → M1 b = M b) → xWd G A H0 M1 H1 locs1 → W p l e R s m args below meth c H1 locs1 cells slots Q (F0 m (pc + 1) ls rest)) : W p l e R s m args below meth c H locs cells slots Q (F0 m pc ls (.long x :: .int i :: .ref a :: rest)) := by
  obtain ⟨L, f0, q, rfl, hm, hq, he, hP, hD, hS, hA⟩ := hw.pos ha
  have hq' := hq
  rw [he] at hq'
  refine va_last hC.x hC.b hC.k hP hD hS q 2 hq' (by rw [ht]; rfl) (x_inr hi hj hn) hdg (fun H1 locs1 hP1 hD1 hS1 => kk _ H1 locs1 ?_ (fun b hb => xup_ne _ _ hb) (xWd.put hm hq hD hP1 hD1 hS1 hA))
  rw [xup_self, x_clamp hi hj hn, x_updL]
end XR
