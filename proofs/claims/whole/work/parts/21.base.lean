section XN
variable {p : Program} {l : Launch} {e : Env} {R : Room} {s : State} {m : MethodId} {args : Array Value} {below : List Frame} {meth : Method} {c : Code} {H : Heap} {locs : List Loc} {cells slots : Nat} {Q : State → Prop}
variable {cc : ByteArray} {own : String} {nL : Nat} {G : xT} {pc : Nat} {ls : Array Slot} {rest : List Value} {A : Nat → Prop} {a : Nat} {M : xMem} {H0 : Heap}
/-- new objects, new arrays -/
theorem x_new (hC : xC p s m args meth c cc own nL G A) (hw : xWd G A H0 M H locs) {C : String} {T : u_T} {N ci index : Nat} {fs : List Value} (hc : classes[ci]? = some (C, T, N)) (hcl : (Cond.classLink own index C).before args s = true) (hinst : (Cond.instantiable C N).before args s = true) (hini : (Cond.initialized C).before args s = true) (hfs : ∀ j, j < N → defaultValue (x_ty ci j) = vp_V fs j) (hcells : cells + 1 ≤ R.cells) (hslots : slots + N ≤ R.slots) (hdg : decode cc pc = .ok (.new index, 3))
    (kk : ∀ (q : Nat) (M1 : xMem) (H1 : Heap), M q = none → M1 q = some (.inr (ci, fs)) → (∀ b, b ≠ q → M1 b = M b) → xWd G A H0 M1 H1 locs → W p l e R s m args below meth c H1 locs (cells + 1) (slots + N) Q (F0 m (pc + 3) ls (.ref q :: rest))) : W p l e R s m args below meth c H locs cells slots Q (F0 m pc ls rest) := by
  obtain ⟨L, f, rfl, hP, hD, hS, hA⟩ := hw
  refine va_new hC.x hC.b hC.w (x_allin ci _ hc) (x_ty ci) (x_tyok ci _ hc) hC.o hcl hinst hini hC.k hP hD hS hA hc hfs hcells hslots hdg (fun q H1 hP1 hD1 hS1 => ?_)
  obtain ⟨h1, h2⟩ := xWd.push hP1 hD1 hS1 hA
  exact kk q _ H1 h1 (xup_self _ _ _) (fun b hb => xup_ne _ _ hb) h2
theorem x_newa (hC : xC p s m args meth c cc own nL G A) (hw : xWd G A H0 M H locs) {atype : ArrayType} (harr : (Cond.arrayClass (newarray.typeOf atype)).before args s = true) {ty : FieldType} (hty : newarray.typeOf atype = ty) (t0 : Nat) {cA : ClassId} (ht : (xtys G.2.1)[t0]? = some (cA, ty)) (hpr : ∀ C, ty ≠ .object C)
    {n : Int32} {N' : Nat} {a0 : vp_A} (ha : ∀ cA : ClassId, vp_cell cA a0 = arrV cA N' (fun _ => defaultValue ty)) (hn : ¬ n < 0) (hN : n.toNatClampNeg = N') (hbytes : N' * componentBytes ty ≤ 536870912) (hcells : cells + 1 ≤ R.cells) (hslots : slots + N' ≤ R.slots) (hdg : decode cc pc = .ok (.newarray atype, 2))
    (kk : ∀ (q : Nat) (M1 : xMem) (H1 : Heap), M q = none → M1 q = some (.inl (cA, a0)) → (∀ b, b ≠ q → M1 b = M b) → xWd G A H0 M1 H1 locs → W p l e R s m args below meth c H1 locs (cells + 1) (slots + N') Q (F0 m (pc + 2) ls (.ref q :: rest))) : W p l e R s m args below meth c H locs cells slots Q (F0 m pc ls (.int n :: rest)) := by
  obtain ⟨L, f, rfl, hP, hD, hS, hA⟩ := hw
  refine va_newa hC.x hC.b harr hty hC.k hP hD hS hA ha hn hN hbytes hcells hslots hdg (fun q cB H1 hK1 hP1 hD1 hS1 => ?_)
  have e1 := (hC.k.2 t0 _ ht).2
  have e2 := (hK1.2 (xtys G.2.1).length (cB, ty) (by rw [List.getElem?_append_right (Nat.le_refl _), Nat.sub_self]; rfl)).2
  have e3 : cB = cA := by
    cases ty with
    | object C => exact absurd rfl (hpr C)
    | _ => exact Option.some.inj (Eq.trans (Eq.symm e2) e1)
  subst e3
  obtain ⟨h1, h2⟩ := xWd.push hP1 hD1 hS1 hA
  exact kk q _ H1 h1 (xup_self _ _ _) (fun b hb => xup_ne _ _ hb) h2
theorem x_newq (hC : xC p s m args meth c cc own nL G A) (hw : xWd G A H0 M H locs) {C : String} {index : Nat} (hclink : (Cond.classLink own index C).before args s = true) (hover : (Cond.arrayOver (.object C)).before args s = true) (t0 : Nat) {cA : ClassId} (ht : (xtys G.2.1)[t0]? = some (cA, .object C))
    {n : Int32} {N' : Nat} (hn : ¬ n < 0) (hN : n.toNatClampNeg = N') (hbytes : N' * 4 ≤ 536870912) (hcells : cells + 1 ≤ R.cells) (hslots : slots + N' ≤ R.slots) (hdg : decode cc pc = .ok (.anewarray index, 3))
    (kk : ∀ (q : Nat) (M1 : xMem) (H1 : Heap), M q = none → M1 q = some (.inl (cA, N', .inr (.inr (.inr (.inr (fun _ => none)))))) → (∀ b, b ≠ q → M1 b = M b) → xWd G A H0 M1 H1 locs → W p l e R s m args below meth c H1 locs (cells + 1) (slots + N') Q (F0 m (pc + 3) ls (.ref q :: rest))) : W p l e R s m args below meth c H locs cells slots Q (F0 m pc ls (.int n :: rest)) := by
  obtain ⟨L, f, rfl, hP, hD, hS, hA⟩ := hw
  refine va_newq hC.x hC.b hC.o hclink (va_AO.of hover) hC.k hP hD hS hA hn hN hbytes hcells hslots hdg (fun q cB H1 hK1 hP1 hD1 hS1 => ?_)
  obtain ⟨kA, comp, -, -, -, e1⟩ := (hC.k.2 t0 _ ht).2
  obtain ⟨kB, comB, -, -, -, e2⟩ := (hK1.2 (xtys G.2.1).length (cB, .object C) (by rw [List.getElem?_append_right (Nat.le_refl _), Nat.sub_self]; rfl)).2
  have e3 : cB = cA := Option.some.inj (e2.symm.trans e1)
  subst e3
  obtain ⟨h1, h2⟩ := xWd.push hP1 hD1 hS1 hA
  exact kk q _ H1 h1 (xup_self _ _ _) (fun b hb => xup_ne _ _ hb) h2
/-- an object's class, for casts and calls -/
theorem x_recv (hC : xC p s m args meth c cc own nL G A) (hw : xWd G A H0 M H locs) {C : String} {T : u_T} {N ci : Nat} {fs : List Value} (ha : M a = some (.inr (ci, fs))) (hc : classes[ci]? = some (C, T, N)) : ∃ cell : Cell, H[a]? = some cell ∧ cell.vm.isStatics = false ∧ s.vm.findClass C = some cell.cls := by
  obtain ⟨q', h1, cell, g1, g2, g3, -⟩ := hw.at ha
  exact ⟨cell, g1, by rw [g3]; rfl, by rw [g2]; exact (hC.k.1 ci _ hc).2.1⟩
theorem x_cast (hC : xC p s m args meth c cc own nL G A) (hw : xWd G A H0 M H locs) {C : String} {T : u_T} {N ci index : Nat} {fs : List Value} (ha : M a = some (.inr (ci, fs))) (hc : classes[ci]? = some (C, T, N)) (hlink : (Cond.classLink own index C).before args s = true) (hdg : decode cc pc = .ok (.checkcast index, 3))
    (k : W p l e R s m args below meth c H locs cells slots Q (F0 m (pc + 3) ls (.ref a :: rest))) : W p l e R s m args below meth c H locs cells slots Q (F0 m pc ls (.ref a :: rest)) :=
  va_castS hC.x hC.b hC.o hlink (hC.k.1 ci _ hc).2 (x_recv hC hw ha hc) hdg k
end XN
section XE
variable {p : Program} {l : Launch} {e : Env} {R : Room} {s : State} {m : MethodId} {args : Array Value} {below : List Frame} {meth : Method} {c : Code} {H : Heap} {locs : List Loc} {cells slots : Nat} {Q : State → Prop}
variable {cc : ByteArray} {own : String} {nL : Nat} {G : xT} {pc : Nat} {ls : Array Slot} {rest : List Value} {A : Nat → Prop} {a : Nat} {M : xMem} {H0 : Heap}
variable {M0 : xMem} {sz mc ms : Nat} {rt : Option Value → xMem → Prop} {th : String → xMem → Prop}
theorem x_endR {G : xT} {M0 M : xMem} {sz : Nat} {H : Heap} {locs : List Loc} {rt : Option Value → xMem → Prop} {th : String → xMem → Prop} {v : Option Value} (hw : xWd G (xA M0 sz) s.heap M H locs) (hp : rt v M) (t : State) (ht : t.heap = H) : xQ G M0 sz rt th s (.returned v) t :=
  ⟨Or.inl ⟨v, M, rfl, hp, by rw [ht]; exact hw.hp, fun q h => hw.inA h⟩, hw.S.F ht⟩
theorem x_ofMQ {k n : Nat} {t : State} (h : MQ below (fun _ st o t => xQ G M0 sz rt th st o t) args s k n (xA M0 sz) t) : xMQ below G M0 sz rt th s k n t := by
  obtain ⟨o, h1, h2, h3, L, ⟨-, h5, h6⟩, h7⟩ := h
  exact ⟨o, h1, h2, h3, L, ⟨h5, h6⟩, h7⟩
theorem x_iret (hC : xC p s m args meth c cc own nL G (xA M0 sz)) (hr : meth.sig.returnType = some .int) (hw : xWd G (xA M0 sz) s.heap M H locs) {v : Int32} (hp : rt (some (.int v)) M) (hc : cells ≤ mc) (hs : slots ≤ ms) (hdg : decode cc pc = .ok (.ireturn, 1)) : W p l e R s m args below meth c H locs cells slots (xMQ below G M0 sz rt th s mc ms) (F0 m pc ls [.int v]) := by
  have hlocks := hC.lk
  refine W.widen hc hs (x_mono (fun t h => x_ofMQ (args := args) h) ?_)
  exact W.iret hC.x hC.b hr (fun t ht _ => x_endR hw hp t ht) hw.S.2.2 hdg
theorem x_zret (hC : xC p s m args meth c cc own nL G (xA M0 sz)) {ty : FieldType} (hr : meth.sig.returnType = some ty) (hw : xWd G (xA M0 sz) s.heap M H locs) {v : Int32} (hn : narrow ty (.int v) = .int v) (hp : rt (some (.int v)) M) (hc : cells ≤ mc) (hs : slots ≤ ms) (hdg : decode cc pc = .ok (.ireturn, 1)) : W p l e R s m args below meth c H locs cells slots (xMQ below G M0 sz rt th s mc ms) (F0 m pc ls [.int v]) := by
  have hlocks := hC.lk
  refine W.widen hc hs (x_mono (fun t h => x_ofMQ (args := args) h) ?_)
  exact W.zret hC.x hC.b hr hn (fun t ht _ => x_endR hw hp t ht) hw.S.2.2 hdg
theorem x_lret (hC : xC p s m args meth c cc own nL G (xA M0 sz)) (hr : meth.sig.returnType = some .long) (hw : xWd G (xA M0 sz) s.heap M H locs) {v : Int64} (hp : rt (some (.long v)) M) (hc : cells ≤ mc) (hs : slots ≤ ms) (hdg : decode cc pc = .ok (.lreturn, 1)) : W p l e R s m args below meth c H locs cells slots (xMQ below G M0 sz rt th s mc ms) (F0 m pc ls [.long v]) := by
  have hlocks := hC.lk
  refine W.widen hc hs (x_mono (fun t h => x_ofMQ (args := args) h) ?_)
  exact W.lret hC.x hC.b hr (fun t ht _ => x_endR hw hp t ht) hw.S.2.2 hdg
theorem x_vret (hC : xC p s m args meth c cc own nL G (xA M0 sz)) (hr : meth.sig.returnType = none) (hw : xWd G (xA M0 sz) s.heap M H locs) (hp : rt none M) (hc : cells ≤ mc) (hs : slots ≤ ms) (hdg : decode cc pc = .ok (.return_, 1)) : W p l e R s m args below meth c H locs cells slots (xMQ below G M0 sz rt th s mc ms) (F0 m pc ls []) := by
  have hlocks := hC.lk
  refine W.widen hc hs (x_mono (fun t h => x_ofMQ (args := args) h) ?_)
  exact W.vret hC.x hC.b hr (fun t ht _ => x_endR hw hp t ht) hw.S.2.2 hdg
theorem x_aret (hC : xC p s m args meth c cc own nL G (xA M0 sz)) {ty : FieldType} (hr : meth.sig.returnType = some ty) (hty : (∃ n, ty = .object n) ∨ ∃ t, ty = .array t) (hw : xWd G (xA M0 sz) s.heap M H locs) {v : Value} (hv : v = .null ∨ ∃ a, v = .ref a) (hp : rt (some v) M) (hc : cells ≤ mc) (hs : slots ≤ ms) (hdg : decode cc pc = .ok (.areturn, 1)) : W p l e R s m args below meth c H locs cells slots (xMQ below G M0 sz rt th s mc ms) (F0 m pc ls [v]) := by
  have hlocks := hC.lk
  refine W.widen hc hs (x_mono (fun t h => x_ofMQ (args := args) h) ?_)
  exact W.aret hC.x hC.b hr hty hv (fun t ht _ => x_endR hw hp t ht) hw.S.2.2 hdg
/-- an exception is on its way, over the frame g -/
def xWT (p : Program) (l : Launch) (e : Env) (R : Room) (s : State) (m : MethodId) (args : Array Value) (below : List Frame) (meth : Method) (c : Code) (H : Heap) (locs : List Loc) (cells slots : Nat) (Q : State → Prop) (x : Addr) (g : JFrame) : Prop :=
  ∀ T : State, T.heap = H → Stand p l e R s m args below meth c T locs cells slots → ∃ t, Steps p.tables e below ((T.setTop g).pushFrame (.throwing x)) t ∧ Q t
/-- what is known of a thrown object -/
def xTh (s : State) (H : Heap) (X : String) (x : Addr) : Prop := ∃ ce : Cell, H[x]? = some ce ∧ ce.vm.isStatics = false ∧ s.vm.findClass X = some ce.cls
theorem x_out (hC : xC p s m args meth c cc own nL G (xA M0 sz)) (hno : c.exceptionTable.toList = []) (hw : xWd G (xA M0 sz) s.heap M H locs) {X : String} {x : Addr} (hx : xTh s H X x) (hp : th X M) (hc : cells ≤ mc) (hs : slots ≤ ms) {st : List Value} : xWT p l e R s m args below meth c H locs cells slots (xMQ below G M0 sz rt th s mc ms) x (F0 m pc ls st) := by
  intro T hT X0
  obtain ⟨h1, h2, h3, h4, h5⟩ := (stand_widen X0 hc hs).leaveThrown x (g := F0 m pc ls st) rfl rfl rfl (fun y hy => by rw [hno] at hy; cases hy) hC.lk
  obtain ⟨ce, q1, q2, q3⟩ := hx
  have hh : (T.setFrames (.throwing x :: below)).heap = H := hT
  refine ⟨_, h1, .threw x, h2, h3, ⟨Or.inr ⟨x, X, M, rfl, ⟨ce, by rw [hh]; exact q1, q2, by rw [h4.alike.findClass]; exact q3⟩, hp, by rw [hh]; exact hw.hp, fun q h => hw.inA h⟩, hw.S.F hh⟩, locs, ⟨h4, h5⟩, hw.S.2.2⟩
end XE
section XM
variable {l : Launch} {G : xT} {y : MethodName} {cc : ByteArray} {maxL : Nat} {ret : Option FieldType} {rm : Room} {av : List Value} {M : xMem} {sz : Nat} {rt : Option Value → xMem → Prop} {th : String → xMem → Prop}
/-- a contract from a walk of the method's body -/
theorem xMet.of (hy : plainName y.cls = true) (hlen : (lg_sl av).length ≤ maxL)
    (body : ∀ (p : Program) (e : Env) (s : State) (m : MethodId) (below : List Frame) (meth : Method) (c : Code) (ls : Array Slot), xC p s m av.toArray meth c cc y.cls maxL G (xA M sz) → meth.sig.returnType = ret → meth.name = y.name → c.exceptionTable.toList = [] → sz = s.heap.size → xWd G (xA M sz) s.heap M s.heap [] → lv_has ls maxL (lv_args 0 av) →
      W p l e rm s m av.toArray below meth c s.heap [] 0 0 (xMQ below G M sz rt th s rm.cells rm.slots) (F0 m 0 ls [])) : xMet l G y (Cond.code y cc maxL ret :: x_tbl) rm av M sz rt th := by
  refine MetFree.of_bodyS (code := cc) (maxLocals := maxL) (ret := ret) hy ?_ ?_
  · intro args s m h hn
    obtain ⟨meth, c, h1, h2, h3, h4, h5, h6, -, -⟩ := Cond.code_spec hn (atoms_spec (ws := Cond.code y cc maxL ret :: x_tbl) h _ List.mem_cons_self)
    exact ⟨meth, c, h1, h2, h3, h4, h5, h6⟩
  · intro p e s m args below meth c s₁ B hml hP _
    obtain ⟨rfl, hsz, hH, hK, hfz⟩ := hP
    subst hsz
    have hh0 : s₁.heap = s.heap := by rw [B.state]; rfl
    have hts0 := atoms_spec (ws := Cond.code y cc maxL ret :: x_tbl) B.pre
    have hno : c.exceptionTable.toList = [] := by
      have h := BodyLoose.noHandlers B (hts0 _ List.mem_cons_self)
      have h0 : c.exceptionTable.size = 0 := by simpa [Array.isEmpty] using h
      exact List.eq_nil_of_length_eq_zero (by simpa using h0)
    have hw : xWd G (xA M s.heap.size) s.heap M s.heap [] := xWd.of hH (fun q h => Or.inl h) va_S.rf (fun q h => Or.inr h)
    have hl := lv_entry av (n := maxL) hlen
    have K := body p e s m below meth c _ ⟨B.exec, B.bytes, findClass_of_methodNamed B.named, fun w h => hts0 w (List.mem_cons_of_mem _ h), hK, hml, B.notSynchronized, hfz⟩ B.returns (name_of_methodNamed B.named B.method).1 hno rfl hw hl
    rw [← lg_entry_eq] at K
    obtain ⟨t, a1, o, b1, b2, b3⟩ := K s₁ hh0 (Stand.of_body B)
    exact ⟨t, o, a1, b1, b2, b3⟩
end XM
