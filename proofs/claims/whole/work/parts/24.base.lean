/-! catching: the rows of a table whose classes may not be linked yet; contracts of methods with handlers -/
section XCatch
/-- one row: its class is linked (or is being linked); it takes the object, or the search goes on -/
theorem x_row {Q : Handler → Pre} {E : CtlPost} {e : Env} {d : Bool} {acts : List Action} {S : State} {f : JFrame} {x : Addr} {h : ExceptionTableEntry} {t : List ExceptionTableEntry} {ct : ClassId} {cell : Cell} (hx : covers h f.pc = true) (h0 : h.catchType ≠ 0)
    (hl : S.vm.ClassLinks e.platform f.method.cls h.catchType ct) (hcell : S.heap[x]? = some cell) (hobj : ∀ k, cell.vm ≠ .statics k) (hk : ∃ k, S.vm.classes[cell.cls]? = some k) (hc : ∃ k, S.vm.classes[ct]? = some k) (b : Bool) (hb : S.vm.assignable cell.cls ct = b) :
    wp (findHandler.go f x (h :: t)) Q E e d acts S ↔ (if b = true then Q (.found h.handlerPc) d acts (S.setVm (S.vm.noted f.method.cls h.catchType (.cls ct))) else wp (findHandler.go f x t) Q E e d acts (S.setVm (S.vm.noted f.method.cls h.catchType (.cls ct)))) := by
  simp only [covers] at hx
  obtain ⟨ha, ht⟩ := (resolveClass_links e.toSetting hl).op (op := VmOp.resolveClass f.method.cls h.catchType) rfl
  have hal : S.vm.Alike (S.vm.noted f.method.cls h.catchType (.cls ct)) := (Vm.Alike.refl S.vm).noted _ _ _
  obtain ⟨k1, hk1⟩ := hk
  obtain ⟨k2, hk2⟩ := hc
  obtain ⟨k1', hk1', -⟩ := hal.2.2 _ _ hk1
  obtain ⟨k2', hk2', -⟩ := hal.2.2 _ _ hk2
  have hfit : (S.vm.noted f.method.cls h.catchType (.cls ct)).assignable cell.cls ct = b := by rw [hal.assignable]; exact hb
  cases b <;> simp [findHandler.go, hx, h0, ha, ht, hcell, hobj, hk1', hk2', hfit, VmOp.dirties, VmOp.acts]
/-- the search through rows that all cover the place: those ahead don't take the object, this one does -/
theorem x_search {e : Env} {s : State} {f : JFrame} {x : Addr} {cell : Cell} (hobj : ∀ k, cell.vm ≠ .statics k) (hk0 : ∃ k, s.vm.classes[cell.cls]? = some k) (h : ExceptionTableEntry) (t : List ExceptionTableEntry) (hx : covers h f.pc = true) (h0 : h.catchType ≠ 0) {ct : ClassId} (hl : s.vm.ClassLinks e.platform f.method.cls h.catchType ct) (hfit : s.vm.assignable cell.cls ct = true) :
    ∀ (pre : List ExceptionTableEntry) (S : State), s.WarmedH S.vm → S.heap[x]? = some cell → (∀ y ∈ pre, covers y f.pc = true ∧ y.catchType ≠ 0 ∧ ∃ cy, s.vm.ClassLinks e.platform f.method.cls y.catchType cy ∧ s.vm.assignable cell.cls cy = false) →
      ∃ vm', s.WarmedH vm' ∧ ∀ (Q : Handler → Pre) (E : CtlPost) (d : Bool) (acts : List Action), wp (findHandler.go f x (pre ++ h :: t)) Q E e d acts S ↔ Q (.found h.handlerPc) d acts (S.setVm vm') := by
  obtain ⟨k0, hk0⟩ := hk0
  intro pre
  induction pre with
  | nil =>
    intro S hW hcell _
    obtain ⟨k0', hk0', -⟩ := hW.alike.2.2 _ _ hk0
    obtain ⟨dk, _, _, kt, hd, _, _, _, _, hkt, _, hopen⟩ := hl.here
    obtain ⟨kt', hkt', -⟩ := hW.alike.2.2 _ _ hkt
    refine ⟨_, hW.noted hd hopen (State.rightAt_cls hl), fun Q E d acts => ?_⟩
    rw [List.nil_append, x_row hx h0 (hW.classLinks hl) hcell hobj ⟨k0', hk0'⟩ ⟨kt', hkt'⟩ true (by rw [hW.alike.assignable]; exact hfit), if_pos rfl]
  | cons y ys ih =>
    intro S hW hcell hpass
    obtain ⟨k0', hk0', -⟩ := hW.alike.2.2 _ _ hk0
    obtain ⟨hcy, hy0, cy, hly, hny⟩ := hpass y List.mem_cons_self
    obtain ⟨dk, _, _, kt, hd, _, _, _, _, hkt, _, hopen⟩ := hly.here
    obtain ⟨kt', hkt', -⟩ := hW.alike.2.2 _ _ hkt
    obtain ⟨vm', hW', hq⟩ := ih (S.setVm (S.vm.noted f.method.cls y.catchType (.cls cy))) (hW.noted hd hopen (State.rightAt_cls hly)) hcell (fun z hz => hpass z (List.mem_cons_of_mem _ hz))
    refine ⟨vm', hW', fun Q E d acts => ?_⟩
    rw [List.cons_append, x_row hcy hy0 (hW.classLinks hly) hcell hobj ⟨k0', hk0'⟩ ⟨kt', hkt'⟩ false (by rw [hW.alike.assignable]; exact hny), if_neg (by decide)]
    exact hq Q E d acts
variable {p : Program} {l : Launch} {e : Env} {R : Room} {s : State} {m : MethodId} {args : Array Value} {below : List Frame} {meth : Method} {c : Code} {H : Heap} {locs : List Loc} {cells slots : Nat} {Q : State → Prop}
variable {cc : ByteArray} {own : String} {nL : Nat} {G : xT} {pc : Nat} {ls : Array Slot} {st : List Value} {A : Nat → Prop} {M : xMem}
/-- caught: the walk goes on at the handler -/
theorem x_catch (hC : xC p s m args meth c cc own nL G A) {X Y : String} {x : Addr} (hx : xTh s H X x) (pre : List ExceptionTableEntry) (h : ExceptionTableEntry) (t : List ExceptionTableEntry) (htb : c.exceptionTable.toList = pre ++ h :: t) (hcov : covers h pc = true) (h0 : h.catchType ≠ 0) (hl : Cond.classLink own h.catchType Y ∈ x_tbl) (hfit : Cond.castable X Y ∈ x_tbl)
    (hpass : ∀ y ∈ pre, covers y pc = true ∧ y.catchType ≠ 0 ∧ ∃ Z, Cond.classLink own y.catchType Z ∈ x_tbl ∧ (X, Z) ∈ x_ncs) {hpc : Nat} (hh : h.handlerPc = hpc)
    (k : W p l e R s m args below meth c H locs cells slots Q (F0 m hpc ls [.ref x])) : xWT p l e R s m args below meth c H locs cells slots Q x (F0 m pc ls st) := by
  subst hh
  intro T hT X0
  obtain ⟨cell, q1, q2, q3⟩ := hx
  have hpl : e.platform.magicAccessors = ({} : Platform).magicAccessors := by rw [X0.admits.platform]
  obtain ⟨ct, hct, hclk⟩ := Cond.classLink_spec hC.o (hC.w _ hl) e.platform hpl
  obtain ⟨c0, t0, f1, f2, f3⟩ := Cond.castable_spec (hC.w _ hfit)
  cases q3.symm.trans f1
  cases hct.symm.trans f2
  obtain ⟨k0, hk0, -⟩ := Vm.findClass_spec q3
  obtain ⟨vm', hW', hq⟩ := x_search (e := e) (s := s) (f := F0 m pc ls st) (x := x) (cell := cell) (fun k z => by rw [z] at q2; cases q2) ⟨k0, hk0⟩ h t hcov h0 hclk f3 pre ((T.setTop (F0 m pc ls st)).pushFrame (.throwing x)) X0.warmed (by show T.heap[x]? = _; rw [hT]; exact q1) (fun y hy => by
    obtain ⟨g1, g2, Z, g3, g4⟩ := hpass y hy
    obtain ⟨cz, hcz, hcl⟩ := Cond.classLink_spec hC.o (hC.w _ g3) e.platform hpl
    obtain ⟨c1, t1, r1, r2, r3⟩ := hC.z.2.2.2.2.2.1 _ g4
    cases q3.symm.trans r1
    cases hcz.symm.trans r2
    exact ⟨g1, g2, cz, hcl, r3⟩)
  obtain ⟨t2, a1, b1⟩ := k (T.setVm vm') hT (X0.noted hW')
  refine ⟨t2, ?_, b1⟩
  have hat : At T (F0 m pc ls st).method c below := X0.here
  obtain ⟨hgo, hwi⟩ := hat.throwing x
  refine Steps.head hgo hwi ?_
  rw [stepThread_throwing (frames_entered hat.top _)]
  obtain ⟨g₀, hg0⟩ := Option.isSome_iff_exists.mp hat.top
  obtain ⟨r, hr⟩ := State.topJava?_eq_some.mp hg0
  have hf : ∀ (Q : Handler → Pre) (E : CtlPost) (d : Bool) (acts : List Action), wp (findHandler (F0 m pc ls st) x) Q E e d acts ((T.setTop (F0 m pc ls st)).pushFrame (.throwing x)) ↔ Q (.found h.handlerPc) d acts (((T.setTop (F0 m pc ls st)).pushFrame (.throwing x)).setVm vm') := by
    intro Q E d acts
    rw [W.findHandler_eq X0.method' X0.code, htb]
    exact hq Q E d acts
  have hstep : (stepThrowing e ((T.setTop (F0 m pc ls st)).pushFrame (.throwing x)) x (.java (F0 m pc ls st) :: T.frames.tail)).1 = (((T.setTop (F0 m pc ls st)).pushFrame (.throwing x)).setVm vm').setFrames (.java { F0 m pc ls st with pc := h.handlerPc, stack := [.ref x] } :: T.frames.tail) := by
    simp only [stepThrowing, searchFrame, vmDo]
    generalize hres : Sem.go _ e false [] ((T.setTop (F0 m pc ls st)).pushFrame (.throwing x)) = res
    obtain ⟨as, rfl, ha⟩ := Sem.eq_ok_of hres (a := Handler.found h.handlerPc) (s' := ((T.setTop (F0 m pc ls st)).pushFrame (.throwing x)).setVm vm') (acts' := []) (by simp [hf _ _ _ _])
    rfl
  rw [hstep]
  have he : (((T.setTop (F0 m pc ls st)).pushFrame (.throwing x)).setVm vm').setFrames (.java { F0 m pc ls st with pc := h.handlerPc, stack := [.ref x] } :: T.frames.tail) = (T.setVm vm').setTop (F0 m h.handlerPc ls [.ref x]) := by
    have hr' : (T.setVm vm').frames = .java g₀ :: r := hr
    rw [State.setTop_of_frames _ hr', hr]
    rw [State.pushFrame, State.setTop_of_frames _ hr, State.setFrames_setFrames]
    show ((T.setVm vm').setFrames _).setFrames _ = _
    rw [State.setFrames_setFrames]
    rfl
  rw [he]
  exact a1
end XCatch
section XMH
variable {l : Launch} {G : xT} {y : MethodName} {cc : ByteArray} {maxL : Nat} {ret : Option FieldType} {hh : List (Nat × Nat × Nat × Nat)} {rm : Room} {av : List Value} {M : xMem} {sz : Nat} {rt : Option Value → xMem → Prop} {th : String → xMem → Prop}
/-- a contract from a walk of the body of a method with handlers -/
theorem xMet.ofH (hy : plainName y.cls = true) (hlen : (lg_sl av).length ≤ maxL)
    (body : ∀ (p : Program) (e : Env) (s : State) (m : MethodId) (below : List Frame) (meth : Method) (c : Code) (ls : Array Slot), xC p s m av.toArray meth c cc y.cls maxL G (xA M sz) → meth.sig.returnType = ret → meth.name = y.name → c.exceptionTable.toList = tableOf hh → sz = s.heap.size → xWd G (xA M sz) s.heap M s.heap [] → lv_has ls maxL (lv_args 0 av) →
      W p l e rm s m av.toArray below meth c s.heap [] 0 0 (xMQ below G M sz rt th s rm.cells rm.slots) (F0 m 0 ls [])) : xMet l G y (Cond.codeWith y cc maxL ret hh :: x_tbl) rm av M sz rt th := by
  refine MetFree.of_bodyS (code := cc) (maxLocals := maxL) (ret := ret) hy ?_ ?_
  · intro args s m h hn
    obtain ⟨m9, meth, c, hn9, h1, h2, h3, h4, -, h5, h6, -⟩ := Cond.codeWith_spec (atoms_spec (ws := Cond.codeWith y cc maxL ret hh :: x_tbl) h _ List.mem_cons_self)
    cases hn.symm.trans hn9
    exact ⟨meth, c, h1, h2, h3, h4, h5, h6⟩
  · intro p e s m args below meth c s₁ B hml hP _
    obtain ⟨rfl, hsz, hH, hK, hfz⟩ := hP
    subst hsz
    have hh0 : s₁.heap = s.heap := by rw [B.state]; rfl
    have hts0 := atoms_spec (ws := Cond.codeWith y cc maxL ret hh :: x_tbl) B.pre
    have htb : c.exceptionTable.toList = tableOf hh := by
      obtain ⟨m9, meth9, c9, hn9, h1, h2, -, -, h5, -⟩ := Cond.codeWith_spec (hts0 _ List.mem_cons_self)
      cases B.named.symm.trans hn9
      cases B.method.symm.trans h1
      cases (Stand.of_body B).code.symm.trans h2
      rw [← h5, table_eq]
    have hw : xWd G (xA M s.heap.size) s.heap M s.heap [] := xWd.of hH (fun q h => Or.inl h) va_S.rf (fun q h => Or.inr h)
    have hl := lv_entry av (n := maxL) hlen
    have K := body p e s m below meth c _ ⟨B.exec, B.bytes, findClass_of_methodNamed B.named, fun w h => hts0 w (List.mem_cons_of_mem _ h), hK, hml, B.notSynchronized, hfz⟩ B.returns (name_of_methodNamed B.named B.method).1 htb rfl hw hl
    rw [← lg_entry_eq] at K
    obtain ⟨t, a1, o, b1, b2, b3⟩ := K s₁ hh0 (Stand.of_body B)
    exact ⟨t, o, a1, b1, b2, b3⟩
end XMH
