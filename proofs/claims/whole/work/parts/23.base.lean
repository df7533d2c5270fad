set_option maxRecDepth 100000 in
theorem hat_IO : ∀ a ∈ Bundle.ownAtoms "RedactCheck" 171 "java/lang/IndexOutOfBoundsException" ["java/lang/RuntimeException", "java/lang/Exception"], a ∈ x_tbl ∨ a ∈ x_stw := List.forall_mem_append.mpr ⟨List.forall_mem_append.mpr ⟨List.forall_mem_append.mpr ⟨List.forall_mem_cons.mpr ⟨Or.inl k_14, List.forall_mem_cons.mpr ⟨Or.inl k_321, List.forall_mem_cons.mpr ⟨Or.inl k_330, List.forall_mem_cons.mpr ⟨Or.inl k_334, List.forall_mem_cons.mpr ⟨Or.inl k_337, List.forall_mem_cons.mpr ⟨Or.inl k_339, List.forall_mem_cons.mpr ⟨Or.inl k_322, List.forall_mem_cons.mpr ⟨Or.inl k_323, List.forall_mem_cons.mpr ⟨Or.inl k_33, List.forall_mem_cons.mpr ⟨Or.inl k_34, List.forall_mem_cons.mpr ⟨Or.inl k_324, List.forall_mem_cons.mpr ⟨Or.inl k_329, List.forall_mem_cons.mpr ⟨Or.inl k_335, List.forall_mem_cons.mpr ⟨Or.inl k_355, List.forall_mem_cons.mpr ⟨Or.inl k_311, List.forall_mem_cons.mpr ⟨Or.inl k_356, List.forall_mem_cons.mpr ⟨Or.inl k_313, List.forall_mem_cons.mpr ⟨Or.inl k_357, List.forall_mem_cons.mpr ⟨Or.inl k_315, List.forall_mem_cons.mpr ⟨Or.inl k_325, List.forall_mem_cons.mpr ⟨Or.inr (List.mem_of_getElem? (i := 0) rfl), List.forall_mem_cons.mpr ⟨Or.inl k_327, List.forall_mem_cons.mpr ⟨Or.inr (List.mem_of_getElem? (i := 1) rfl), List.forall_mem_cons.mpr ⟨Or.inl k_317, fun _ h => absurd h List.not_mem_nil⟩⟩⟩⟩⟩⟩⟩⟩⟩⟩⟩⟩⟩⟩⟩⟩⟩⟩⟩⟩⟩⟩⟩⟩, List.forall_mem_cons.mpr ⟨Or.inl k_351, List.forall_mem_cons.mpr ⟨Or.inl k_352, List.forall_mem_cons.mpr ⟨Or.inl k_354, List.forall_mem_cons.mpr ⟨Or.inl k_317, fun _ h => absurd h List.not_mem_nil⟩⟩⟩⟩⟩, List.forall_mem_append.mpr ⟨List.forall_mem_cons.mpr ⟨Or.inl k_342, List.forall_mem_cons.mpr ⟨Or.inl k_343, List.forall_mem_cons.mpr ⟨Or.inl k_344, List.forall_mem_cons.mpr ⟨Or.inl k_345, List.forall_mem_cons.mpr ⟨Or.inl k_303, fun _ h => absurd h List.not_mem_nil⟩⟩⟩⟩⟩, List.forall_mem_append.mpr ⟨List.forall_mem_cons.mpr ⟨Or.inl k_345, List.forall_mem_cons.mpr ⟨Or.inl k_346, List.forall_mem_cons.mpr ⟨Or.inl k_347, List.forall_mem_cons.mpr ⟨Or.inl k_348, List.forall_mem_cons.mpr ⟨Or.inl k_305, fun _ h => absurd h List.not_mem_nil⟩⟩⟩⟩⟩, List.forall_mem_cons.mpr ⟨Or.inl k_348, List.forall_mem_cons.mpr ⟨Or.inl k_349, List.forall_mem_cons.mpr ⟨Or.inl k_350, List.forall_mem_cons.mpr ⟨Or.inl k_351, List.forall_mem_cons.mpr ⟨Or.inl k_307, fun _ h => absurd h List.not_mem_nil⟩⟩⟩⟩⟩⟩⟩⟩, List.forall_mem_cons.mpr ⟨Or.inl k_341, List.forall_mem_cons.mpr ⟨Or.inl k_300, List.forall_mem_cons.mpr ⟨Or.inl k_301, List.forall_mem_cons.mpr ⟨Or.inl k_308, List.forall_mem_cons.mpr ⟨Or.inl k_309, List.forall_mem_cons.mpr ⟨Or.inl k_310, List.forall_mem_cons.mpr ⟨Or.inl k_312, List.forall_mem_cons.mpr ⟨Or.inl k_314, List.forall_mem_cons.mpr ⟨Or.inl k_316, List.forall_mem_cons.mpr ⟨Or.inr (List.mem_of_getElem? (i := 2) rfl), List.forall_mem_cons.mpr ⟨Or.inr (List.mem_of_getElem? (i := 3) rfl), List.forall_mem_cons.mpr ⟨Or.inl k_320, List.forall_mem_cons.mpr ⟨Or.inl k_319, List.forall_mem_cons.mpr ⟨Or.inl k_318, fun _ h => absurd h List.not_mem_nil⟩⟩⟩⟩⟩⟩⟩⟩⟩⟩⟩⟩⟩⟩⟩
set_option maxRecDepth 100000 in
theorem hat_IA : ∀ a ∈ Bundle.ownAtoms "RedactCheck" 93 "java/lang/IllegalArgumentException" ["java/lang/RuntimeException", "java/lang/Exception"], a ∈ x_tbl ∨ a ∈ x_stw := List.forall_mem_append.mpr ⟨List.forall_mem_append.mpr ⟨List.forall_mem_append.mpr ⟨List.forall_mem_cons.mpr ⟨Or.inl k_14, List.forall_mem_cons.mpr ⟨Or.inl k_321, List.forall_mem_cons.mpr ⟨Or.inl k_330, List.forall_mem_cons.mpr ⟨Or.inl k_334, List.forall_mem_cons.mpr ⟨Or.inl k_337, List.forall_mem_cons.mpr ⟨Or.inl k_339, List.forall_mem_cons.mpr ⟨Or.inl k_322, List.forall_mem_cons.mpr ⟨Or.inl k_323, List.forall_mem_cons.mpr ⟨Or.inl k_33, List.forall_mem_cons.mpr ⟨Or.inl k_34, List.forall_mem_cons.mpr ⟨Or.inl k_324, List.forall_mem_cons.mpr ⟨Or.inl k_329, List.forall_mem_cons.mpr ⟨Or.inl k_335, List.forall_mem_cons.mpr ⟨Or.inl k_355, List.forall_mem_cons.mpr ⟨Or.inl k_311, List.forall_mem_cons.mpr ⟨Or.inl k_356, List.forall_mem_cons.mpr ⟨Or.inl k_313, List.forall_mem_cons.mpr ⟨Or.inl k_357, List.forall_mem_cons.mpr ⟨Or.inl k_315, List.forall_mem_cons.mpr ⟨Or.inl k_325, List.forall_mem_cons.mpr ⟨Or.inr (List.mem_of_getElem? (i := 0) rfl), List.forall_mem_cons.mpr ⟨Or.inl k_327, List.forall_mem_cons.mpr ⟨Or.inr (List.mem_of_getElem? (i := 1) rfl), List.forall_mem_cons.mpr ⟨Or.inl k_317, fun _ h => absurd h List.not_mem_nil⟩⟩⟩⟩⟩⟩⟩⟩⟩⟩⟩⟩⟩⟩⟩⟩⟩⟩⟩⟩⟩⟩⟩⟩, List.forall_mem_cons.mpr ⟨Or.inl k_351, List.forall_mem_cons.mpr ⟨Or.inl k_352, List.forall_mem_cons.mpr ⟨Or.inl k_354, List.forall_mem_cons.mpr ⟨Or.inl k_317, fun _ h => absurd h List.not_mem_nil⟩⟩⟩⟩⟩, List.forall_mem_append.mpr ⟨List.forall_mem_cons.mpr ⟨Or.inl k_384, List.forall_mem_cons.mpr ⟨Or.inl k_385, List.forall_mem_cons.mpr ⟨Or.inl k_386, List.forall_mem_cons.mpr ⟨Or.inl k_345, List.forall_mem_cons.mpr ⟨Or.inl k_303, fun _ h => absurd h List.not_mem_nil⟩⟩⟩⟩⟩, List.forall_mem_append.mpr ⟨List.forall_mem_cons.mpr ⟨Or.inl k_345, List.forall_mem_cons.mpr ⟨Or.inl k_346, List.forall_mem_cons.mpr ⟨Or.inl k_347, List.forall_mem_cons.mpr ⟨Or.inl k_348, List.forall_mem_cons.mpr ⟨Or.inl k_305, fun _ h => absurd h List.not_mem_nil⟩⟩⟩⟩⟩, List.forall_mem_cons.mpr ⟨Or.inl k_348, List.forall_mem_cons.mpr ⟨Or.inl k_349, List.forall_mem_cons.mpr ⟨Or.inl k_350, List.forall_mem_cons.mpr ⟨Or.inl k_351, List.forall_mem_cons.mpr ⟨Or.inl k_307, fun _ h => absurd h List.not_mem_nil⟩⟩⟩⟩⟩⟩⟩⟩, List.forall_mem_cons.mpr ⟨Or.inl k_383, List.forall_mem_cons.mpr ⟨Or.inl k_374, List.forall_mem_cons.mpr ⟨Or.inl k_375, List.forall_mem_cons.mpr ⟨Or.inl k_376, List.forall_mem_cons.mpr ⟨Or.inl k_332, List.forall_mem_cons.mpr ⟨Or.inl k_377, List.forall_mem_cons.mpr ⟨Or.inl k_378, List.forall_mem_cons.mpr ⟨Or.inl k_379, List.forall_mem_cons.mpr ⟨Or.inl k_380, List.forall_mem_cons.mpr ⟨Or.inr (List.mem_of_getElem? (i := 2) rfl), List.forall_mem_cons.mpr ⟨Or.inr (List.mem_of_getElem? (i := 3) rfl), List.forall_mem_cons.mpr ⟨Or.inl k_320, List.forall_mem_cons.mpr ⟨Or.inl k_319, List.forall_mem_cons.mpr ⟨Or.inl k_381, fun _ h => absurd h List.not_mem_nil⟩⟩⟩⟩⟩⟩⟩⟩⟩⟩⟩⟩⟩⟩⟩
set_option maxRecDepth 100000 in
theorem hat_UO : ∀ a ∈ Bundle.ownAtoms "RedactCheck" 125 "java/lang/UnsupportedOperationException" ["java/lang/RuntimeException", "java/lang/Exception"], a ∈ x_tbl ∨ a ∈ x_stw := List.forall_mem_append.mpr ⟨List.forall_mem_append.mpr ⟨List.forall_mem_append.mpr ⟨List.forall_mem_cons.mpr ⟨Or.inl k_14, List.forall_mem_cons.mpr ⟨Or.inl k_321, List.forall_mem_cons.mpr ⟨Or.inl k_330, List.forall_mem_cons.mpr ⟨Or.inl k_334, List.forall_mem_cons.mpr ⟨Or.inl k_337, List.forall_mem_cons.mpr ⟨Or.inl k_339, List.forall_mem_cons.mpr ⟨Or.inl k_322, List.forall_mem_cons.mpr ⟨Or.inl k_323, List.forall_mem_cons.mpr ⟨Or.inl k_33, List.forall_mem_cons.mpr ⟨Or.inl k_34, List.forall_mem_cons.mpr ⟨Or.inl k_324, List.forall_mem_cons.mpr ⟨Or.inl k_329, List.forall_mem_cons.mpr ⟨Or.inl k_335, List.forall_mem_cons.mpr ⟨Or.inl k_355, List.forall_mem_cons.mpr ⟨Or.inl k_311, List.forall_mem_cons.mpr ⟨Or.inl k_356, List.forall_mem_cons.mpr ⟨Or.inl k_313, List.forall_mem_cons.mpr ⟨Or.inl k_357, List.forall_mem_cons.mpr ⟨Or.inl k_315, List.forall_mem_cons.mpr ⟨Or.inl k_325, List.forall_mem_cons.mpr ⟨Or.inr (List.mem_of_getElem? (i := 0) rfl), List.forall_mem_cons.mpr ⟨Or.inl k_327, List.forall_mem_cons.mpr ⟨Or.inr (List.mem_of_getElem? (i := 1) rfl), List.forall_mem_cons.mpr ⟨Or.inl k_317, fun _ h => absurd h List.not_mem_nil⟩⟩⟩⟩⟩⟩⟩⟩⟩⟩⟩⟩⟩⟩⟩⟩⟩⟩⟩⟩⟩⟩⟩⟩, List.forall_mem_cons.mpr ⟨Or.inl k_351, List.forall_mem_cons.mpr ⟨Or.inl k_352, List.forall_mem_cons.mpr ⟨Or.inl k_354, List.forall_mem_cons.mpr ⟨Or.inl k_317, fun _ h => absurd h List.not_mem_nil⟩⟩⟩⟩⟩, List.forall_mem_append.mpr ⟨List.forall_mem_cons.mpr ⟨Or.inl k_403, List.forall_mem_cons.mpr ⟨Or.inl k_404, List.forall_mem_cons.mpr ⟨Or.inl k_405, List.forall_mem_cons.mpr ⟨Or.inl k_345, List.forall_mem_cons.mpr ⟨Or.inl k_303, fun _ h => absurd h List.not_mem_nil⟩⟩⟩⟩⟩, List.forall_mem_append.mpr ⟨List.forall_mem_cons.mpr ⟨Or.inl k_345, List.forall_mem_cons.mpr ⟨Or.inl k_346, List.forall_mem_cons.mpr ⟨Or.inl k_347, List.forall_mem_cons.mpr ⟨Or.inl k_348, List.forall_mem_cons.mpr ⟨Or.inl k_305, fun _ h => absurd h List.not_mem_nil⟩⟩⟩⟩⟩, List.forall_mem_cons.mpr ⟨Or.inl k_348, List.forall_mem_cons.mpr ⟨Or.inl k_349, List.forall_mem_cons.mpr ⟨Or.inl k_350, List.forall_mem_cons.mpr ⟨Or.inl k_351, List.forall_mem_cons.mpr ⟨Or.inl k_307, fun _ h => absurd h List.not_mem_nil⟩⟩⟩⟩⟩⟩⟩⟩, List.forall_mem_cons.mpr ⟨Or.inl k_402, List.forall_mem_cons.mpr ⟨Or.inl k_393, List.forall_mem_cons.mpr ⟨Or.inl k_394, List.forall_mem_cons.mpr ⟨Or.inl k_395, List.forall_mem_cons.mpr ⟨Or.inl k_333, List.forall_mem_cons.mpr ⟨Or.inl k_396, List.forall_mem_cons.mpr ⟨Or.inl k_397, List.forall_mem_cons.mpr ⟨Or.inl k_398, List.forall_mem_cons.mpr ⟨Or.inl k_399, List.forall_mem_cons.mpr ⟨Or.inr (List.mem_of_getElem? (i := 2) rfl), List.forall_mem_cons.mpr ⟨Or.inr (List.mem_of_getElem? (i := 3) rfl), List.forall_mem_cons.mpr ⟨Or.inl k_320, List.forall_mem_cons.mpr ⟨Or.inl k_319, List.forall_mem_cons.mpr ⟨Or.inl k_400, fun _ h => absurd h List.not_mem_nil⟩⟩⟩⟩⟩⟩⟩⟩⟩⟩⟩⟩⟩⟩⟩
/-! throwing, and catching -/
section XThrow
variable {p : Program} {l : Launch} {e : Env} {R : Room} {s : State} {m : MethodId} {args : Array Value} {below : List Frame} {meth : Method} {c : Code} {H : Heap} {locs : List Loc} {cells slots : Nat} {Q : State → Prop}
theorem x_notr (hfl : l.flags = flags0) (ha : l.admits e) : e.platform.stackTraces = false := by
  have h : e.platform.stackTraces = l.stackTraces := by rw [ha.platform]
  rw [h]
  unfold Launch.stackTraces
  rw [hfl]
  decide +kernel
/-- the walk as if its method had been called with the heap that it has now -/
theorem x_root {T : State} (X : Stand p l e R s m args below meth c T locs cells slots) (hc : cells ≤ R.cells) (hs : slots ≤ R.slots) : Stand p l e { R with cells := R.cells - cells, slots := R.slots - slots } { s with heap := T.heap, slotsUsed := T.slotsUsed } m args below meth c T [] 0 0 := by
  have hbook := X.book
  have hh := X.heapSize
  have hu := X.used
  have hroom := X.room
  obtain ⟨e1, -⟩ := id X.same
  refine ⟨X.admits, X.cas, X.clock, X.frames, ?_, X.hears, X.method, X.code, X.here, X.tail, X.warmed, X.limits, X.bytes, ?_⟩
  · simp only [State.hasRoom, Bool.and_eq_true, decide_eq_true_eq] at hroom ⊢
    obtain ⟨⟨⟨r1, r2⟩, r3⟩, r4⟩ := hroom
    exact ⟨⟨⟨r1, by omega⟩, by omega⟩, hbook⟩
  · have hd : T.heap.toList.drop T.heap.size = [] := List.drop_eq_nil_of_le (by simp)
    refine ⟨?_, Nat.le_refl _, Nat.le_refl _, ?_, ?_, fun a c h => ⟨c, h, rfl, rfl, fun _ _ => rfl⟩⟩
    · exact e1
    · show T.slotsUsed = T.slotsUsed + ((T.heap.toList.drop T.heap.size).map (·.slots.size)).sum
      rw [hd]
      rfl
    · show ((T.heap.toList.drop T.heap.size).map (·.slots.size)).sum ≤ 0
      rw [hd]
      exact Nat.le_refl _
variable {cc : ByteArray} {own : String} {nL : Nat} {G : xT} {pc : Nat} {ls : Array Slot} {rest : List Value} {M M0 : xMem} {sz mc ms : Nat} {rt : Option Value → xMem → Prop} {th : String → xMem → Prop}
theorem x_tab {w : Cond} (h : w ∈ x_tbl) {s U : State} (hvm : U.vm = s.vm) {args a' : Array Value} (hb : w.before args s = true) : w.before a' U = true := x_warm w h (by rw [hvm]; exact State.WarmedH.refl s) hb
theorem x_stAny {w : Cond} (h : w ∈ x_stw) {U : State} {args : Array Value} (hb : w.before #[] U = true) : w.before args U = true := by
  simp only [x_stw, List.mem_cons, List.not_mem_nil, or_false] at h
  rcases h with rfl | rfl | rfl | rfl <;> exact hb
theorem x_throw0 (hfl : l.flags = flags0) (hx : p.tables.exec = Jvm.exec) (hb : c.code = cc) (hown : s.vm.findClass "RedactCheck" = some m.cls) (hn : c.maxLocals = nL) (hlk : meth.locks = false) (hts : ∀ w ∈ x_tbl, w.before args s = true) (hst : ∀ w ∈ x_stw, w.before #[] s = true) (hno : c.exceptionTable.toList = []) (hH : s.heap.size ≤ H.size) {X tx : String} {ia ib ic q : Nat}
    (hcl : Cond.classLink "RedactCheck" ia X ∈ x_tbl) (hins : Cond.instantiable X 6 ∈ x_tbl) (hini : Cond.initialized X ∈ x_tbl) (hq : vk_R "RedactCheck" ib tx q s) (hX : Bundle.fit X = true) (hat : ∀ a ∈ Bundle.ownAtoms "RedactCheck" ic X ["java/lang/RuntimeException", "java/lang/Exception"], a ∈ x_tbl ∨ a ∈ x_stw)
    (hd0 : decode cc pc = .ok (.new ia, 3)) (hd3 : decode cc (pc + 3) = .ok (.dup, 1)) (hd4 : decode cc (pc + 3 + 1) = .ok (.ldc ib, 2)) (hd6 : decode cc (pc + 3 + 1 + 2) = .ok (.invokespecial ic, 3)) (hd9 : decode cc (pc + 3 + 1 + 2 + 3) = .ok (.athrow, 1))
    (hsz : ls.size = nL) (hRf : 5 < R.frames) (hRl : (rest.map fun v => v.category).sum + 82 ≤ R.locals) (hRc : 1 ≤ R.cells) (hRs : 6 ≤ R.slots) :
    W p l e R s m args below meth c H [] 0 0 (fun t => ∃ ce, t.status = .running ∧ Ended t below (.threw H.size) ∧ s.WarmedH t.vm ∧ s.sameButNew ({ t with vm := s.vm } : State) [] 1 6 ∧ t.heap[H.size]? = some ce ∧ ce.vm = .none ∧ s.vm.findClass X = some ce.cls) (F0 m pc ls rest) := by
  obtain ⟨cX, kX, hfX, hkX, -⟩ := Cond.instantiable_spec (hts _ hins)
  refine W.newcK hx hb hown (hts _ hcl) (hts _ hins) (hts _ hini) rfl hd0 (by omega) (by omega) hfX rfl fun H1 kC hkC e1 z1 o1 => ?_
  have hkk : kX = kC := Option.some.inj (hkX.symm.trans hkC)
  subst hkk
  refine lv_dup hx hb hd3 rfl ?_
  refine va_ldcS hx hb hown hq hd4 ?_
  intro T1 hT1 X1
  obtain ⟨U, h1, h2, h3, h4, h5, ce, h6, h7⟩ := X1.ctorThrowS hx (x_notr hfl X1.admits) hown hX (names := ["java/lang/RuntimeException", "java/lang/Exception"]) (by decide) (fun a ha => by
      rcases hat a ha with h | h
      · exact hts a h
      · exact x_stAny h (hst a h)) (fun x hx => by cases hx) hfX hkX (a := H.size) (by rw [hT1]; exact e1) hH (msg := .ref q) rfl
    (g := F0 m (pc + 3 + 1 + 2) ls (.ref q :: .ref H.size :: .ref H.size :: rest)) rfl (by show ls.size = _; rw [hn]; exact hsz) rfl rfl (rest := rest) rfl
    (by rw [hb]; exact hd6) (by rw [hb]; exact hd9) (fun y hy => by rw [hno] at hy; cases hy) (by show 2 + 3 < R.frames; omega) (by show 2 * 0 + (1 + (rest.map fun v => v.category).sum) + (13 * (2 + 1) + 42) ≤ R.locals; omega) hlk
  exact ⟨U, h1, ce, h2, h3, h4, h5, h6, h7.vm, h7.cls⟩
/-- 'throw new X("..")' -/
theorem x_throw (hfl : l.flags = flags0) (hC : xC p s m args meth c cc "RedactCheck" nL G (xA M0 sz)) (hno : c.exceptionTable.toList = []) (hw : xWd G (xA M0 sz) s.heap M H locs) {X tx : String} {ia ib ic : Nat}
    (hcl : Cond.classLink "RedactCheck" ia X ∈ x_tbl) (hins : Cond.instantiable X 6 ∈ x_tbl) (hini : Cond.initialized X ∈ x_tbl) (hstr : ("RedactCheck", ib, tx) ∈ x_strs) (hX : Bundle.fit X = true) (hat : ∀ a ∈ Bundle.ownAtoms "RedactCheck" ic X ["java/lang/RuntimeException", "java/lang/Exception"], a ∈ x_tbl ∨ a ∈ x_stw)
    (hd0 : decode cc pc = .ok (.new ia, 3)) (hd3 : decode cc (pc + 3) = .ok (.dup, 1)) (hd4 : decode cc (pc + 3 + 1) = .ok (.ldc ib, 2)) (hd6 : decode cc (pc + 3 + 1 + 2) = .ok (.invokespecial ic, 3)) (hd9 : decode cc (pc + 3 + 1 + 2 + 3) = .ok (.athrow, 1))
    (hsz : ls.size = nL) (hRf : 5 < R.frames) (hRl : (rest.map fun v => v.category).sum + 82 ≤ R.locals) (hRc : cells + 1 ≤ R.cells) (hRs : slots + 6 ≤ R.slots) (hp : th X M) (hc : cells + 1 ≤ mc) (hs : slots + 6 ≤ ms) :
    W p l e R s m args below meth c H locs cells slots (xMQ below G M0 sz rt th s mc ms) (F0 m pc ls rest) := by
  intro T hT X0
  have Xr := x_root X0 (by omega) (by omega)
  have hts : ∀ w ∈ x_tbl, w.before args ({ s with heap := T.heap, slotsUsed := T.slotsUsed } : State) = true := fun w h => x_tab (s := s) (U := { s with heap := T.heap, slotsUsed := T.slotsUsed }) h rfl (hC.w w h)
  have hfz := hC.z.next (U := { s with heap := T.heap, slotsUsed := T.slotsUsed }) (B := fun _ => False) (State.WarmedH.refl s) (fun q h1 h2 => by show T.heap[q]? = _; rw [hT]; exact hw.S.2.1 q h1 h2) (fun _ h => h.elim) (fun _ _ _ _ h => h)
  obtain ⟨q, hq⟩ := hfz.2.2.2.2.1 _ hstr
  have K := x_throw0 (p := p) (l := l) (e := e) (R := { R with cells := R.cells - cells, slots := R.slots - slots }) (s := { s with heap := T.heap, slotsUsed := T.slotsUsed }) (m := m) (args := args) (below := below) (meth := meth) (c := c) (H := H) (ls := ls) (rest := rest) hfl hC.x hC.b hC.o hC.n hC.lk hts hfz.2.2.2.1 hno (Nat.le_of_eq (congrArg Array.size hT)) hcl hins hini hq hX hat hd0 hd3 hd4 hd6 hd9 hsz hRf hRl (Nat.le_sub_of_add_le (by rw [Nat.add_comm]; exact hRc)) (Nat.le_sub_of_add_le (by rw [Nat.add_comm]; exact hRs))
  obtain ⟨t, st, ce, h2, h3, h4, h5, h6, h7, h8⟩ := K T hT Xr
  have hkeep : ∀ (a : Nat) (cell : Cell), H[a]? = some cell → t.heap[a]? = some cell := by
    intro a cell ha
    obtain ⟨c', g1, g2, g3, g4⟩ := h5.2.2.2.2.2 a cell (by show T.heap[a]? = _; rw [hT]; exact ha)
    have g5 : c'.slots = cell.slots := Array.ext_getElem? (fun i => g4 i (by simp))
    have g6 : c' = cell := by rw [g2, g5]
    rw [← g6]
    exact g1
  have hlt : H.size ≤ t.heap.size := by
    have := h5.2.1
    rw [← hT]
    exact this
  have hkeep2 : ∀ a : Nat, a < H.size → t.heap[a]? = H[a]? := by
    intro a ha
    rw [Array.getElem?_eq_getElem ha]
    exact hkeep a _ (Array.getElem?_eq_getElem ha)
  refine ⟨t, st, .threw H.size, h2, h3, ⟨Or.inr ⟨H.size, X, M, rfl, ⟨ce, h6, by rw [h7]; rfl, by rw [h4.alike.findClass]; exact h8⟩, hp, ?_, fun q h => hw.inA h⟩, ?_⟩, locs, ⟨h4, ?_⟩, hw.S.2.2⟩
  · obtain ⟨L, f, hM, hP, hD⟩ := hw.hp
    exact ⟨L, f, hM, hP.kept (fun k q hk => hkeep2 q.1 (hP k q hk).lt), hD⟩
  · exact ⟨Nat.le_trans hw.S.1 hlt, fun q h1 h2 => by rw [hkeep2 q (Nat.lt_of_lt_of_le h1 hw.S.1)]; exact hw.S.2.1 q h1 h2⟩
  · obtain ⟨e1, -⟩ := id X0.same
    have h9 : (T.setVm s.vm).sameButNew ({ t with vm := s.vm } : State) [] 1 6 := by
      refine ⟨?_, h5.2⟩
      rw [e1]
      show _ = ({ (s.setFrames T.frames).setFrames t.frames with heap := t.heap, slotsUsed := t.slotsUsed } : State)
      rw [State.setFrames_setFrames]
      exact h5.1
    have h10 := X0.same.trans h9
    rw [List.append_nil] at h10
    exact h10.mono hc hs
end XThrow
