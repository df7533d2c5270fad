section XCall
variable {p : Program} {l : Launch} {e : Env} {R : Room} {s : State} {m : MethodId} {args : Array Value} {below : List Frame} {meth : Method} {c : Code} {H : Heap} {locs : List Loc} {cells slots : Nat} {Q : State → Prop}
variable {cc : ByteArray} {own : String} {nL : Nat} {G : xT} {pc : Nat} {ls : Array Slot} {rest st : List Value} {A : Nat → Prop} {M : xMem}
/-- a contract that is met, used from a frame g of a walk: the callee comes back, or throws over g -/
theorem x_run {y : MethodName} {ws : List Cond} {rm : Room} {Pc : Array Value → State → Prop} {Qc : State → Outcome → State → Prop} {free : Addr → Prop} {U : State} {Ls : List Loc} {c0 s0 : Nat} (X : Stand p l e R s m args below meth c U Ls c0 s0) {g : JFrame} (hg : g.method = m) (hsize : g.locals.size = c.maxLocals) {ig : Instr} {len : Nat} (hdg : decode c.code g.pc = .ok (ig, len)) (hW : 2 * g.monitorRoom + (g.stack.map fun v => v.category).sum ≤ 8) {mk : MethodId} (hn : U.methodNamed? y = some mk) {aa : Array Value}
    (hM : MetFree l y (headSpec ws rm) Pc (fun _ _ _ _ _ => True) (fun _ st o t => Qc st o t ∧ ∃ L, xFr st t L rm.cells rm.slots ∧ ∀ q ∈ L, free q.base)) {methY : Method} {cY : Code} {maxL : Nat} (hmY : U.vm.method? mk = some methY) (hcY : methY.code = some cY) (hlY : cY.maxLocals = maxL) {kY : Class} (hkY : U.vm.classes[mk.cls]? = some kY) (hini : kY.init = .initialized)
    (hws : ∀ w ∈ ws, w.before aa U = true) (hfr : rm.frames + 1 ≤ R.frames) (hlo : 8 + (maxL + 11) + rm.locals ≤ R.locals) (hce : c0 + rm.cells ≤ R.cells) (hsl : s0 + rm.slots ≤ R.slots) (hP : Pc aa (U.calling g mk aa)) :
    ∃ (o : Outcome) (t T' : State) (L : List Loc), Qc (U.calling g mk aa) o t ∧ (∀ q ∈ L, free q.base) ∧ Stand p l e R s m args below meth c T' (Ls ++ L) (c0 + rm.cells) (s0 + rm.slots) ∧ T'.heap = t.heap ∧ T'.vm = t.vm ∧
      (∀ v, o = .returned v → Steps p.tables e below (doInvoke e (U.setTop g) [] mk aa).1 (T'.setTop { g with pc := g.pc + len, stack := v.toList ++ g.stack })) ∧
      (∀ x, o = .threw x → Steps p.tables e below (doInvoke e (U.setTop g) [] mk aa).1 ((T'.setTop g).pushFrame (.throwing x))) := by
  have h : At U g.method c below := by rw [hg]; exact X.here
  have happ : (headSpec ws rm).appliesLoose y e.platform (U.calling g mk aa) = true :=
    Spec.appliesLoose_calling (g := g) h hdg hn hkY hini (X.room_calling (g := g) (R' := (headSpec ws rm).room) hsize hmY hcY hfr (by rw [hlY]; exact Nat.le_trans (by show 2 * g.monitorRoom + (g.stack.map fun v => v.category).sum + (maxL + 11) + rm.locals ≤ 8 + (maxL + 11) + rm.locals; omega) hlo) hce hsl) (atoms_intro hws)
  obtain ⟨mid, hmid⟩ := h.above
  have hfr2 : (U.setTop g).frames = (.java g :: mid) ++ below := by rw [State.frames_setTop' g h.top, hmid]; rfl
  obtain ⟨o, t, hsteps, -, hend, hq, L, ⟨hWt, hsame⟩, hL⟩ := Steps.callFree hM p X.admits X.cas X.clock (acts := []) hfr2 happ hP trivial
  rw [State.frames_setTop' g h.top] at hend
  have hsame : (U.calling g mk aa).sameButNew ({ t with vm := (U.calling g mk aa).vm } : State) L rm.cells rm.slots := hsame
  obtain ⟨e2, q2, q3, q4, q5, q6⟩ := id hsame
  have e3 : t = ({ (U.calling g mk aa).setFrames t.frames with heap := t.heap, slotsUsed := t.slotsUsed } : State).setVm t.vm := by
    have z : t = ({ t with vm := (U.calling g mk aa).vm } : State).setVm t.vm := rfl
    rw [e2] at z
    exact z
  have hW' : U.WarmedH t.vm := hWt
  obtain ⟨g₀, hg0⟩ := Option.isSome_iff_exists.mp h.top
  obtain ⟨r, hr⟩ := State.topJava?_eq_some.mp hg0
  have hr' : (({ U with heap := t.heap, slotsUsed := t.slotsUsed } : State).setVm t.vm).frames = .java g₀ :: r := hr
  have hsame2 : U.sameButNew ({ U with heap := t.heap, slotsUsed := t.slotsUsed } : State) L rm.cells rm.slots := by
    refine ⟨?_, q2, q3, q4, q5, q6⟩
    obtain ⟨th, hth, -⟩ := State.frames_cons hr
    show ({ U with heap := t.heap, slotsUsed := t.slotsUsed } : State) = { U.setFrames U.frames with heap := t.heap, slotsUsed := t.slotsUsed }
    rw [State.setFrames_self hth]
  refine ⟨o, t, ({ U with heap := t.heap, slotsUsed := t.slotsUsed } : State).setVm t.vm, L, hq, hL, ?_, rfl, rfl, fun v hv => ?_, fun x hx => ?_⟩
  · subst hg
    exact ⟨X.admits, X.cas, X.clock, X.frames, X.room, X.hears, X.method, X.code, (X.here.setHeapUsed t.heap t.slotsUsed).setVm hW'.alike, X.tail, State.WarmedH.trans X.warmed hW', X.limits, X.bytes, X.same.trans (hsame2.setVm s.vm)⟩
  · subst hv
    obtain ⟨c₂, i₂, len₂, hc₂, hd₂, hf₂⟩ := hend
    have hcc : c₂ = c := by
      have h1 : t.code? g.method = U.code? g.method := by
        rw [State.code?_eq, State.code?_eq, hW'.alike.method?]
      exact Option.some.inj (hc₂.symm.trans (h1.trans h.code))
    subst hcc
    have hlen : len₂ = len := by rw [hdg] at hd₂; cases hd₂; rfl
    subst hlen
    have hs₂ : t = (({ U with heap := t.heap, slotsUsed := t.slotsUsed } : State).setVm t.vm).setTop { g with pc := g.pc + len₂, stack := v.toList ++ g.stack } := by
      refine e3.trans ?_
      rw [hf₂, State.calling_eq h.top, State.setFrames_setFrames, State.setTop_of_frames _ hr', hr]
      rfl
    rw [← hs₂]
    exact hsteps
  · subst hx
    have hf₂ : t.frames = .throwing x :: .java g :: U.frames.tail := hend
    have hs₂ : t = ((({ U with heap := t.heap, slotsUsed := t.slotsUsed } : State).setVm t.vm).setTop g).pushFrame (.throwing x) := by
      refine e3.trans ?_
      rw [hf₂, State.calling_eq h.top, State.setFrames_setFrames, State.pushFrame, State.frames_setTop _ hr', State.setTop_of_frames _ hr', State.setFrames_setFrames, hr]
      rfl
    rw [← hs₂]
    exact hsteps
/-- an invoking instruction has come to the callee's entry -/
def xIv (p : Program) (l : Launch) (e : Env) (R : Room) (s : State) (m : MethodId) (args : Array Value) (below : List Frame) (meth : Method) (c : Code) (H : Heap) (locs : List Loc) (cells slots : Nat) (g : JFrame) (rest : List Value) (y : MethodName) (aa : Array Value) : Prop :=
  ∀ T : State, T.heap = H → Stand p l e R s m args below meth c T locs cells slots → ∃ (mk : MethodId) (vm₁ : Vm), s.methodNamed? y = some mk ∧ Stand p l e R s m args below meth c (T.setVm vm₁) locs cells slots ∧
    ∀ target, (∀ acts, Steps p.tables e below (doInvoke e ((T.setVm vm₁).setTop { g with stack := rest }) acts mk aa).1 target) → Steps p.tables e below (T.setTop g) target
theorem x_callK (hC : xC p s m args meth c cc own nL G A) {y : MethodName} {hd : Cond} {maxL : Nat} {rm : Room} {As : List Value} {rt : Option Value → xMem → Prop} {th : String → xMem → Prop} (hM : xMet l G y (hd :: x_tbl) rm As M H.size rt th) (hcw : hd ∈ x_tbl) (hsp : ∀ (U : State) (mk : MethodId), U.methodNamed? y = some mk → hd.before As.toArray U = true → ∃ (methY : Method) (cY : Code), U.vm.method? mk = some methY ∧ methY.code = some cY ∧ cY.maxLocals = maxL) (hin : Cond.initialized y.cls ∈ x_tbl) (hR : rm.frames + 1 ≤ R.frames ∧ 8 + (maxL + 11) + rm.locals ≤ R.locals) (hcs : cells + rm.cells ≤ R.cells ∧ slots + rm.slots ≤ R.slots) (hw : xWd G A s.heap M H locs) (hsz : ls.size = nL) (hwt : (rest.map fun v => v.category).sum ≤ 8) {ig : Instr} (hdg : decode cc pc = .ok (ig, 3))
    (hiv : xIv p l e R s m args below meth c H locs cells slots (F0 m pc ls st) rest y As.toArray)
    (kr : ∀ (v : Option Value) (M1 : xMem) (H1 : Heap) (locs1 : List Loc), rt v M1 → xWd G A s.heap M1 H1 locs1 → W p l e R s m args below meth c H1 locs1 (cells + rm.cells) (slots + rm.slots) Q (F0 m (pc + 3) ls (v.toList ++ rest)))
    (kt : ∀ (x : Addr) (X : String) (M1 : xMem) (H1 : Heap) (locs1 : List Loc), th X M1 → xTh s H1 X x → xWd G A s.heap M1 H1 locs1 → xWT p l e R s m args below meth c H1 locs1 (cells + rm.cells) (slots + rm.slots) Q x (F0 m pc ls rest)) : W p l e R s m args below meth c H locs cells slots Q (F0 m pc ls st) := by
  intro T hT X
  obtain ⟨mk, vm₁, hn, X₁, hst⟩ := hiv T hT X
  have hn1 : (T.setVm vm₁).methodNamed? y = some mk := X₁.named hn
  have hwarm : s.WarmedH (T.setVm vm₁).vm := X₁.warmed
  have hword : ∀ w ∈ x_tbl, w.before As.toArray (T.setVm vm₁) = true := fun w h => x_warm w h hwarm (hC.w w h)
  obtain ⟨methY, cY, hmY, hcY, hlY⟩ := hsp _ mk hn1 (hword _ hcw)
  obtain ⟨kY, hkY, -⟩ := className_of_methodNamed hn1
  have hini : kY.init = .initialized := Cond.initialized_spec (findClass_of_methodNamed hn1) hkY (hword _ hin)
  have hA1 : ∀ q, xA M H.size q → A q := fun q h => by
    rcases h with h | h
    · exact hw.inA h
    · exact hw.new q (Nat.le_trans hw.S.1 h)
  obtain ⟨o, t, T', L, hq, hL, X', e1, e2, hr, ht⟩ := x_run X₁ (g := F0 m pc ls rest) rfl (hsz.trans hC.n.symm) (by rw [hC.b]; exact hdg) (by show 2 * 0 + (rest.map fun v => v.category).sum ≤ 8; omega) hn1 (aa := As.toArray) hM hmY hcY hlY hkY hini
    (fun w h => by
      rcases List.mem_cons.mp h with h | h
      · rw [h]; exact hword _ hcw
      · exact hword w h) hR.1 hR.2 hcs.1 hcs.2
    ⟨rfl, by show T.heap.size = H.size; rw [hT], by show xH G.1 M T.heap; rw [hT]; exact hw.hp, va_K.moved (u := s) hwarm.alike hC.k, hC.z.next hwarm (fun q h1 h2 => by
      show T.heap[q]? = s.heap[q]?
      rw [hT]
      exact hw.S.2.1 q h1 h2) hA1 (fun b cell hb hs hz => by
      have hb' : H[b]? = some cell := by rw [← hT]; exact hb
      rcases hz with hz | hz
      · cases he : M b with
        | none => exact hz he
        | some ee =>
          have hv := x_plain (hw.at he) hb'
          rw [hv] at hs
          cases hs
      · have := (Array.getElem?_eq_some_iff.mp hb').1
        omega)⟩
  obtain ⟨hcase, hz, hk⟩ := hq
  have hheap0 : (T.setVm vm₁).heap = H := hT
  have hcall : ((T.setVm vm₁).calling (F0 m pc ls rest) mk As.toArray).heap = H := hT
  rw [hcall] at hz hk
  have hS1 : va_S A s.heap T'.heap (locs ++ L) := ⟨Nat.le_trans hw.S.1 (by rw [e1]; exact hz), fun q h1 h2 => by
      rw [e1, hk q (Nat.lt_of_lt_of_le h1 hw.S.1) (fun z => h2 (hA1 q z))]
      exact hw.S.2.1 q h1 h2, fun q h => by
      rcases List.mem_append.mp h with h | h
      · exact hw.S.2.2 q h
      · exact hA1 _ (hL q h)⟩
  rcases hcase with ⟨v, M1, ho, hv, hH1, hA2⟩ | ⟨x, X0, M1, ho, hx, hv, hH1, hA2⟩
  · obtain ⟨t2, a1, b1⟩ := kr v M1 T'.heap (locs ++ L) hv (xWd.of (by rw [e1]; exact hH1) (fun q h => hA1 q (hA2 q h)) hS1 hw.new) T' rfl X'
    exact ⟨t2, hst _ (fun acts => by rw [doInvoke_state]; exact (hr v ho).trans a1), b1⟩
  · obtain ⟨ce, q1, q2, q3⟩ := hx
    obtain ⟨t2, a1, b1⟩ := kt x X0 M1 T'.heap (locs ++ L) hv ⟨ce, by rw [e1]; exact q1, q2, by rw [← e2, X'.warmed.alike.findClass] at q3; exact q3⟩ (xWd.of (by rw [e1]; exact hH1) (fun q h => hA1 q (hA2 q h)) hS1 hw.new) T' rfl X'
    exact ⟨t2, hst _ (fun acts => by rw [doInvoke_state]; exact (ht x ho).trans a1), b1⟩
theorem x_callG (hC : xC p s m args meth c cc own nL G A) {y : MethodName} {bytes : ByteArray} {maxL : Nat} {ret : Option FieldType} {rm : Room} {As : List Value} {rt : Option Value → xMem → Prop} {th : String → xMem → Prop} (hM : xMet l G y (Cond.code y bytes maxL ret :: x_tbl) rm As M H.size rt th) (hcw : Cond.code y bytes maxL ret ∈ x_tbl) (hin : Cond.initialized y.cls ∈ x_tbl) (hR : rm.frames + 1 ≤ R.frames ∧ 8 + (maxL + 11) + rm.locals ≤ R.locals) (hcs : cells + rm.cells ≤ R.cells ∧ slots + rm.slots ≤ R.slots) (hw : xWd G A s.heap M H locs) (hsz : ls.size = nL) (hwt : (rest.map fun v => v.category).sum ≤ 8) {ig : Instr} (hdg : decode cc pc = .ok (ig, 3))
    (hiv : xIv p l e R s m args below meth c H locs cells slots (F0 m pc ls st) rest y As.toArray)
    (kr : ∀ (v : Option Value) (M1 : xMem) (H1 : Heap) (locs1 : List Loc), rt v M1 → xWd G A s.heap M1 H1 locs1 → W p l e R s m args below meth c H1 locs1 (cells + rm.cells) (slots + rm.slots) Q (F0 m (pc + 3) ls (v.toList ++ rest)))
    (kt : ∀ (x : Addr) (X : String) (M1 : xMem) (H1 : Heap) (locs1 : List Loc), th X M1 → xTh s H1 X x → xWd G A s.heap M1 H1 locs1 → xWT p l e R s m args below meth c H1 locs1 (cells + rm.cells) (slots + rm.slots) Q x (F0 m pc ls rest)) : W p l e R s m args below meth c H locs cells slots Q (F0 m pc ls st) := by
  refine x_callK hC hM hcw (fun U mk hn hb => ?_) hin hR hcs hw hsz hwt hdg hiv kr kt
  obtain ⟨methY, cY, hmY, hcY, -, hlY, -, -, -, -⟩ := Cond.code_spec hn hb
  exact ⟨methY, cY, hmY, hcY, hlY⟩
theorem x_callH (hC : xC p s m args meth c cc own nL G A) {y : MethodName} {bytes : ByteArray} {maxL : Nat} {ret : Option FieldType} {hh : List (Nat × Nat × Nat × Nat)} {rm : Room} {As : List Value} {rt : Option Value → xMem → Prop} {th : String → xMem → Prop} (hM : xMet l G y (Cond.codeWith y bytes maxL ret hh :: x_tbl) rm As M H.size rt th) (hcw : Cond.codeWith y bytes maxL ret hh ∈ x_tbl) (hin : Cond.initialized y.cls ∈ x_tbl) (hR : rm.frames + 1 ≤ R.frames ∧ 8 + (maxL + 11) + rm.locals ≤ R.locals) (hcs : cells + rm.cells ≤ R.cells ∧ slots + rm.slots ≤ R.slots) (hw : xWd G A s.heap M H locs) (hsz : ls.size = nL) (hwt : (rest.map fun v => v.category).sum ≤ 8) {ig : Instr} (hdg : decode cc pc = .ok (ig, 3))
    (hiv : xIv p l e R s m args below meth c H locs cells slots (F0 m pc ls st) rest y As.toArray)
    (kr : ∀ (v : Option Value) (M1 : xMem) (H1 : Heap) (locs1 : List Loc), rt v M1 → xWd G A s.heap M1 H1 locs1 → W p l e R s m args below meth c H1 locs1 (cells + rm.cells) (slots + rm.slots) Q (F0 m (pc + 3) ls (v.toList ++ rest)))
    (kt : ∀ (x : Addr) (X : String) (M1 : xMem) (H1 : Heap) (locs1 : List Loc), th X M1 → xTh s H1 X x → xWd G A s.heap M1 H1 locs1 → xWT p l e R s m args below meth c H1 locs1 (cells + rm.cells) (slots + rm.slots) Q x (F0 m pc ls rest)) : W p l e R s m args below meth c H locs cells slots Q (F0 m pc ls st) := by
  refine x_callK hC hM hcw (fun U mk hn hb => ?_) hin hR hcs hw hsz hwt hdg hiv kr kt
  obtain ⟨m9, methY, cY, hn9, hmY, hcY, -, hlY, -⟩ := Cond.codeWith_spec hb
  cases hn.symm.trans hn9
  exact ⟨methY, cY, hmY, hcY, hlY⟩
/-- the five ways to a callee -/
theorem x_ivS (hC : xC p s m args meth c cc own nL G A) {y : MethodName} {bytes : ByteArray} {maxL index : Nat} {ret : Option FieldType} {As : List Value} (hcw : Cond.code y bytes maxL ret ∈ x_tbl) (hl : Cond.methodLink own index y ∈ x_tbl) (hs : Cond.static y ∈ x_tbl) (hin : Cond.initialized y.cls ∈ x_tbl) (hd : y.cls ≠ "java/lang/invoke/MethodHandle" ∧ y.cls ≠ "java/lang/invoke/VarHandle" ∧ (parseMethodDescriptor y.desc).map (fun d => d.parameters.length) = some As.length)
    (hstk : st = As.reverse ++ rest) (hdg : decode cc pc = .ok (.invokestatic index, 3)) : xIv p l e R s m args below meth c H locs cells slots (F0 m pc ls st) rest y As.toArray := by
  intro T hT X
  obtain ⟨mk, hnamed⟩ := Cond.code_named (hC.w _ hcw)
  obtain ⟨methM, cM, hmethM, -, -, -, -, -, -, hsigM⟩ := Cond.code_spec hnamed (hC.w _ hcw)
  obtain ⟨kP, hkP, -⟩ := className_of_methodNamed hnamed
  have hlen : As.length = methM.sig.parameters.length := by
    have h2 := hd.2.2
    rw [hsigM] at h2
    exact (Option.some.inj h2).symm
  obtain ⟨vm₁, X₁, hstep⟩ := X.invokestatic hC.x hC.o (hC.w _ hl) hnamed hmethM (Cond.static_spec hnamed hmethM (hC.w _ hs)) hkP (Cond.initialized_spec (findClass_of_methodNamed hnamed) hkP (hC.w _ hin)) ⟨hd.1, hd.2.1⟩ (g := F0 m pc ls st) rfl (argsL := As) (rest := rest) hlen hstk (by rw [hC.b]; exact hdg)
  exact ⟨mk, vm₁, hnamed, X₁, hstep⟩
theorem x_ivSH (hC : xC p s m args meth c cc own nL G A) {y : MethodName} {bytes : ByteArray} {maxL index : Nat} {ret : Option FieldType} {hh : List (Nat × Nat × Nat × Nat)} {As : List Value} (hcw : Cond.codeWith y bytes maxL ret hh ∈ x_tbl) (hl : Cond.methodLink own index y ∈ x_tbl) (hs : Cond.static y ∈ x_tbl) (hin : Cond.initialized y.cls ∈ x_tbl) (hd : y.cls ≠ "java/lang/invoke/MethodHandle" ∧ y.cls ≠ "java/lang/invoke/VarHandle" ∧ (parseMethodDescriptor y.desc).map (fun d => d.parameters.length) = some As.length)
    (hstk : st = As.reverse ++ rest) (hdg : decode cc pc = .ok (.invokestatic index, 3)) : xIv p l e R s m args below meth c H locs cells slots (F0 m pc ls st) rest y As.toArray := by
  intro T hT X
  obtain ⟨mk, methM, cM, hnamed, hmethM, -, -, -, -, -, -, hsigM⟩ := Cond.codeWith_spec (hC.w _ hcw)
  obtain ⟨kP, hkP, -⟩ := className_of_methodNamed hnamed
  have hlen : As.length = methM.sig.parameters.length := by
    have h2 := hd.2.2
    rw [hsigM] at h2
    exact (Option.some.inj h2).symm
  obtain ⟨vm₁, X₁, hstep⟩ := X.invokestatic hC.x hC.o (hC.w _ hl) hnamed hmethM (Cond.static_spec hnamed hmethM (hC.w _ hs)) hkP (Cond.initialized_spec (findClass_of_methodNamed hnamed) hkP (hC.w _ hin)) ⟨hd.1, hd.2.1⟩ (g := F0 m pc ls st) rfl (argsL := As) (rest := rest) hlen hstk (by rw [hC.b]; exact hdg)
  exact ⟨mk, vm₁, hnamed, X₁, hstep⟩
theorem x_ivV (hC : xC p s m args meth c cc own nL G A) {y : MethodName} {bytes : ByteArray} {maxL index : Nat} {ret : Option FieldType} {As : List Value} {b : Nat} (hcw : Cond.code y bytes maxL ret ∈ x_tbl) (hl : Cond.methodLink own index y ∈ x_tbl) (hi : Cond.instanceMethod y ∈ x_tbl) (hse : Cond.selects y.cls y y ∈ x_tbl) (hd : y.cls ≠ "java/lang/invoke/MethodHandle" ∧ y.cls ≠ "java/lang/invoke/VarHandle" ∧ (parseMethodDescriptor y.desc).map (fun d => d.parameters.length) = some As.length)
    (hrc : ∃ cell : Cell, H[b]? = some cell ∧ cell.vm.isStatics = false ∧ s.vm.findClass y.cls = some cell.cls) (hstk : st = As.reverse ++ .ref b :: rest) (hdg : decode cc pc = .ok (.invokevirtual index, 3)) : xIv p l e R s m args below meth c H locs cells slots (F0 m pc ls st) rest y (Value.ref b :: As).toArray := by
  intro T hT X
  obtain ⟨cellB, hcB, hoB, hclB⟩ := hrc
  obtain ⟨mk, methM, hnamed, hmethM, hstM, habM⟩ := Cond.instanceMethod_spec (hC.w _ hi)
  obtain ⟨methM', cM, hmethM', -, -, -, -, -, -, hsigM⟩ := Cond.code_spec hnamed (hC.w _ hcw)
  cases hmethM.symm.trans hmethM'
  obtain ⟨c2, r2, m2, q1, q2, q3, q4, kP, hkP, hkPi⟩ := Cond.selects_spec (hC.w _ hse)
  cases hclB.symm.trans q1
  cases (State.methodFound?_of_named hnamed ⟨hd.1, hd.2.1⟩).symm.trans q2
  cases hnamed.symm.trans q3
  have hselP : selectMethod e.platform s.vm cellB.cls mk = .method mk := by rw [Launch.admits_selectMethod X.admits]; exact q4
  have hlen : As.length = methM.sig.parameters.length := by
    have h2 := hd.2.2
    rw [hsigM] at h2
    exact (Option.some.inj h2).symm
  obtain ⟨vm₁, X₁, hstep⟩ := X.invokevirtual hC.x hC.o (hC.w _ hl) hnamed hmethM hstM hkP hkPi ⟨hd.1, hd.2.1⟩ (a := b) (cell := cellB) (by rw [hT]; exact hcB) (fun z h => by rw [h] at hoB; cases hoB) hselP hmethM habM hkP hkPi (g := F0 m pc ls st) rfl (argsL := As) (rest := rest) hlen hstk (by rw [hC.b]; exact hdg)
  exact ⟨mk, vm₁, hnamed, X₁, hstep⟩
/-- x: what the instruction names; y: what is run on an object of class C -/
theorem x_ivU (hC : xC p s m args meth c cc own nL G A) {C owner : String} {x y : MethodName} {b0 : ByteArray} {m0 index : Nat} {r0 : Option FieldType} {As : List Value} {b : Nat} (hcx : Cond.code ⟨owner, x.name, x.desc⟩ b0 m0 r0 ∈ x_tbl) (hix : Cond.instanceMethod ⟨owner, x.name, x.desc⟩ ∈ x_tbl) (hl : Cond.methodLink own index x ∈ x_tbl) (hsm : Cond.sameMethod x.cls owner x.name x.desc ∈ x_tbl) (hi : Cond.instanceMethod y ∈ x_tbl) (hse : Cond.selects C x y ∈ x_tbl) (hd : owner ≠ "java/lang/invoke/MethodHandle" ∧ owner ≠ "java/lang/invoke/VarHandle" ∧ (parseMethodDescriptor x.desc).map (fun d => d.parameters.length) = some As.length)
    (hrc : ∃ cell : Cell, H[b]? = some cell ∧ cell.vm.isStatics = false ∧ s.vm.findClass C = some cell.cls) (hstk : st = As.reverse ++ .ref b :: rest) (hdg : decode cc pc = .ok (.invokevirtual index, 3)) : xIv p l e R s m args below meth c H locs cells slots (F0 m pc ls st) rest y (Value.ref b :: As).toArray := by
  intro T hT X
  obtain ⟨cellB, hcB, hoB, hclB⟩ := hrc
  obtain ⟨r1, r, hn, hrm, hstR, hsigR⟩ := va_Decl.of (hC.w _ hix) (hC.w _ hcx)
  obtain ⟨cn, ck, r2, hcn, hck, hni, hf, hn1⟩ := Cond.sameMethod_found (hC.w _ hsm)
  cases hn.symm.trans hn1
  obtain ⟨mk, methM, hnamed, hmethM, -, habM⟩ := Cond.instanceMethod_spec (hC.w _ hi)
  obtain ⟨c2, r3, m2, q1, q2, q3, q4, kP, hkP, hkPi⟩ := Cond.selects_spec (hC.w _ hse)
  cases hclB.symm.trans q1
  cases hf.symm.trans q2
  cases hnamed.symm.trans q3
  have hselP : selectMethod e.platform s.vm cellB.cls r1 = .method mk := by rw [Launch.admits_selectMethod X.admits]; exact q4
  have hlen : As.length = r.sig.parameters.length := by
    have h2 := hd.2.2
    rw [show parseMethodDescriptor x.desc = some r.sig from hsigR] at h2
    exact (Option.some.inj h2).symm
  obtain ⟨vm₁, X₁, hstep⟩ := X.invokevirtualUp hC.x hC.o (hC.w _ hl) (hC.w _ hsm) ⟨hd.1, hd.2.1⟩ hn hrm hstR (a := b) (cell := cellB) (by rw [hT]; exact hcB) (fun z h => by rw [h] at hoB; cases hoB) hselP hmethM habM hkP hkPi (g := F0 m pc ls st) rfl (argsL := As) (rest := rest) hlen hstk (by rw [hC.b]; exact hdg)
  exact ⟨mk, vm₁, hnamed, X₁, hstep⟩
theorem x_ivI (hC : xC p s m args meth c cc own nL G A) {y : MethodName} {bytes : ByteArray} {maxL index : Nat} {As : List Value} {b : Nat} (hcw : Cond.code y bytes maxL none ∈ x_tbl) (hl : Cond.methodLink own index y ∈ x_tbl) (hi : Cond.instanceMethod y ∈ x_tbl) (hy1 : y.name = "<init>") (hd : y.cls ≠ "java/lang/invoke/MethodHandle" ∧ y.cls ≠ "java/lang/invoke/VarHandle" ∧ (parseMethodDescriptor y.desc).map (fun d => d.parameters.length) = some As.length)
    (hstk : st = As.reverse ++ .ref b :: rest) (hdg : decode cc pc = .ok (.invokespecial index, 3)) : xIv p l e R s m args below meth c H locs cells slots (F0 m pc ls st) rest y (Value.ref b :: As).toArray := by
  intro T hT X
  have hpl : e.platform.magicAccessors = ({} : Platform).magicAccessors := by rw [X.admits.platform]
  obtain ⟨mk, methM, cM, kP, vm₁, hnamed, -, -, -, -, -, -, -, hW₁, hstep⟩ := Steps.initColdArgs (e := e) X.here hC.x X.warmed hpl hC.o hy1 ⟨hd.1, hd.2.1⟩ (hC.w _ hl) (hC.w _ hi) (hC.w _ hcw) (f := F0 m pc ls st) rfl (argsL := As) (rest := rest) (a := b) (fun sig h => by
    have h2 := hd.2.2
    rw [h] at h2
    exact (Option.some.inj h2).symm) hstk (by rw [hC.b]; exact hdg)
  exact ⟨mk, vm₁, hnamed, X.noted hW₁, hstep⟩
theorem x_ivN (hC : xC p s m args meth c cc own nL G A) {y : MethodName} {host : String} {bytes : ByteArray} {maxL index : Nat} {As : List Value} {b : Nat} (hcw : Cond.code y bytes maxL none ∈ x_tbl) (hl : Cond.methodLinkNest own index y host ∈ x_tbl) (hi : Cond.instanceMethod y ∈ x_tbl) (hy1 : y.name = "<init>") (hd : y.cls ≠ "java/lang/invoke/MethodHandle" ∧ y.cls ≠ "java/lang/invoke/VarHandle" ∧ (parseMethodDescriptor y.desc).map (fun d => d.parameters.length) = some As.length)
    (hstk : st = As.reverse ++ .ref b :: rest) (hdg : decode cc pc = .ok (.invokespecial index, 3)) : xIv p l e R s m args below meth c H locs cells slots (F0 m pc ls st) rest y (Value.ref b :: As).toArray := by
  intro T hT X
  have hpl : e.platform.magicAccessors = ({} : Platform).magicAccessors := by rw [X.admits.platform]
  obtain ⟨mk, methM, cM, kP, vm₁, hnamed, -, -, -, -, -, -, -, hW₁, hstep⟩ := Steps.initColdArgsNest (e := e) X.here hC.x X.warmed hpl hC.o hy1 ⟨hd.1, hd.2.1⟩ (hC.w _ hl) (hC.w _ hi) (hC.w _ hcw) (f := F0 m pc ls st) rfl (argsL := As) (rest := rest) (a := b) (fun sig h => by
    have h2 := hd.2.2
    rw [h] at h2
    exact (Option.some.inj h2).symm) hstk (by rw [hC.b]; exact hdg)
  exact ⟨mk, vm₁, hnamed, X.noted hW₁, hstep⟩
end XCall
