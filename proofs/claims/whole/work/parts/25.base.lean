/-! calls of what is abstract; Object's constructor; lists' rows -/
section XMore
variable {p : Program} {l : Launch} {e : Env} {R : Room} {s : State} {m : MethodId} {args : Array Value} {below : List Frame} {meth : Method} {c : Code} {H : Heap} {locs : List Loc} {cells slots : Nat} {Q : State → Prop}
variable {cc : ByteArray} {own : String} {nL : Nat} {G : xT} {pc : Nat} {ls : Array Slot} {rest st : List Value} {A : Nat → Prop} {a : Nat} {M : xMem}
/-- x: what the instruction names, declared by owner (abstract, perhaps); y: what is run on an object of class C -/
theorem x_ivA (hC : xC p s m args meth c cc own nL G A) {C owner : String} {x y : MethodName} {index : Nat} {As : List Value} {b : Nat} (hcx : Cond.declares ⟨owner, x.name, x.desc⟩ ∈ x_tbl) (hl : Cond.methodLink own index x ∈ x_tbl) (hsm : Cond.sameMethod x.cls owner x.name x.desc ∈ x_tbl) (hi : Cond.instanceMethod y ∈ x_tbl) (hse : Cond.selects C x y ∈ x_tbl) (hd : owner ≠ "java/lang/invoke/MethodHandle" ∧ owner ≠ "java/lang/invoke/VarHandle" ∧ (parseMethodDescriptor x.desc).map (fun d => d.parameters.length) = some As.length)
    (hrc : ∃ cell : Cell, H[b]? = some cell ∧ cell.vm.isStatics = false ∧ s.vm.findClass C = some cell.cls) (hstk : st = As.reverse ++ .ref b :: rest) (hdg : decode cc pc = .ok (.invokevirtual index, 3)) : xIv p l e R s m args below meth c H locs cells slots (F0 m pc ls st) rest y (Value.ref b :: As).toArray := by
  intro T hT X
  obtain ⟨cellB, hcB, hoB, hclB⟩ := hrc
  obtain ⟨r1, r, hn, hrm, hstR, hsigR⟩ := va_Decl.abs (va_Nw.of rfl (hC.w _ hcx))
  obtain ⟨cn, ck, r2, hcn, hck, hni, hf, hn1⟩ := Cond.sameMethod_found (hC.w _ hsm)
  cases hn.symm.trans hn1
  obtain ⟨mk, methM, hnamed, hmethM, -, habM⟩ := Cond.instanceMethod_spec (hC.w _ hi)
  obtain ⟨c2, r3, m2, q1, q2, q3, q4, kP, hkP, hkPi⟩ := Cond.selects_spec (hC.w _ hse)
  cases hclB.symm.trans q1
  cases hf.symm.trans q2
  cases hnamed.symm.trans q3
  have hselP : selectMethod e.platform s.vm cellB.cls r1 = .method mk := by rw [Launch.admits_selectMethod X.admits]; exact q4
  have hlen : As.length = r.sig.parameters.length := by
    have h2 := hd.2.2
    rw [show parseMethodDescriptor x.desc = some r.sig from hsigR] at h2
    exact (Option.some.inj h2).symm
  obtain ⟨vm₁, X₁, hstep⟩ := X.invokevirtualUp hC.x hC.o (hC.w _ hl) (hC.w _ hsm) ⟨hd.1, hd.2.1⟩ hn hrm hstR (a := b) (cell := cellB) (by rw [hT]; exact hcB) (fun z h => by rw [h] at hoB; cases hoB) hselP hmethM habM hkP hkPi (g := F0 m pc ls st) rfl (argsL := As) (rest := rest) hlen hstk (by rw [hC.b]; exact hdg)
  exact ⟨mk, vm₁, hnamed, X₁, hstep⟩
theorem x_objInit (hC : xC p s m args meth c cc own nL G A) {idx : Nat} (hlink : Cond.methodLink own idx Lib.objectInit ∈ x_tbl) (hsz : ls.size = nL) (hframes : 1 ≤ R.frames) (hlocals : (rest.map fun v => v.category).sum + 12 ≤ R.locals) (hdg : decode cc pc = .ok (.invokespecial idx, 3))
    (kk : W p l e R s m args below meth c H locs cells slots Q (F0 m (pc + 3) ls rest)) : W p l e R s m args below meth c H locs cells slots Q (F0 m pc ls (.ref a :: rest)) :=
  W.objInit hC.x hC.b hC.o (hC.w _ hlink) (hC.w _ k_33) (hC.w _ k_34) (g := F0 m pc ls (.ref a :: rest)) rfl (by show ls.size = _; rw [hC.n]; exact hsz) rfl hdg hframes (by show 2 * 0 + _ + 12 ≤ _; omega) kk
theorem x_gets (hC : xC p s m args meth c cc own nL G A) {H0 : Heap} (hw : xWd G A s.heap M H locs) {C n d ref : String} {v : Value} {index : Nat} (hz : (C, n, d, v) ∈ G.2.2.2) (hlink : (Cond.fieldLink own index ref n d).before args s = true) (hsame : ∀ x, s.fieldFound? C n d = some x → s.fieldFound? ref n d = some x) (hdg : decode cc pc = .ok (.getstatic index, 3))
    (kk : W p l e R s m args below meth c H locs cells slots Q (F0 m (pc + 3) ls (v :: rest))) : W p l e R s m args below meth c H locs cells slots Q (F0 m pc ls rest) :=
  va_gets hC.x hC.b (hC.z.2.1 _ hz) hw.S hC.o hlink hsame hdg kk
/-- an object into an array of objects -/
theorem x_aast (hC : xC p s m args meth c cc own nL G A) {H0 : Heap} (hw : xWd G A H0 M H locs) {cA : ClassId} {n j v ci N : Nat} {f : Nat → Option Nat} {C : String} {T : u_T} {fs : List Value} (ha : M a = some (.inl (cA, n, .inr (.inr (.inr (.inr f)))))) (ht : cA = G.2.1 3) (hv : M v = some (.inr (ci, fs))) (hc : classes[ci]? = some (C, T, N)) (hca : Cond.castable C "java/lang/Object" ∈ x_tbl) {i : Int32} (hi : i = nI j) (hj : j < n) (hn : n < 2 ^ 31) (hdg : decode cc pc = .ok (.aastore, 1))
    (kk : ∀ (M1 : xMem) (H1 : Heap) (locs1 : List Loc), M1 a = some (.inl (cA, n, .inr (.inr (.inr (.inr (va_up f j (some v))))))) → (∀ b, b ≠ a → M1 b = M b) → xWd G A H0 M1 H1 locs1 → W p l e R s m args below meth c H1 locs1 cells slots Q (F0 m (pc + 1) ls rest)) : W p l e R s m args below meth c H locs cells slots Q (F0 m pc ls (.ref v :: .int i :: .ref a :: rest)) := by
  obtain ⟨L, f0, rfl, hP, hD, hS, hA⟩ := hw
  obtain ⟨hm, he⟩ := xof_some ha
  obtain ⟨hm2, he2⟩ := xof_some hv
  obtain ⟨q, hq⟩ := va_pl_get (X := []) (f := f0) hm
  obtain ⟨q2, hq2⟩ := va_pl_get (X := []) (f := f0) hm2
  have hq' := hq
  rw [he] at hq'
  rw [he2] at hq2
  refine va_astqO hC.x hC.b hC.k hP hD hS q 3 q2 ci (E := "java/lang/Object") (r := (C, T, N)) hq' (by rw [ht]; rfl) (va_Nw.of rfl (hC.w _ hca)) hq2 hc (x_inr hi hj hn) hdg (fun H1 locs1 hP1 hD1 hS1 => kk _ H1 locs1 ?_ (fun b hb => xup_ne _ _ hb) (xWd.put hm hq hD hP1 hD1 hS1 hA))
  rw [xup_self, x_clamp hi hj hn]
/-- copying from one array of objects to another -/
theorem x_copyq (hC : xC p s m args meth c cc own nL G A) {H0 : Heap} (hw : xWd G A H0 M H locs) {index a0 n0 n1 k ci N : Nat} {f g : Nat → Option Nat} {C : String} {T : u_T} (hlink : Cond.methodLink own index arraycopyName ∈ x_tbl) (ha0 : M a0 = some (.inl (G.2.1 3, n0, .inr (.inr (.inr (.inr f)))))) (ha : M a = some (.inl (G.2.1 3, n1, .inr (.inr (.inr (.inr g)))))) (h0 : k ≤ n0) (h1 : k ≤ n1) (hk : k < 2 ^ 31) (hc : classes[ci]? = some (C, T, N)) (hca : Cond.castable C "java/lang/Object" ∈ x_tbl) (hel : ∀ i, i < k → ∃ y fs, f i = some y ∧ M y = some (.inr (ci, fs))) (hsz : ls.size = nL) (hframes : 1 ≤ R.frames) (hlocals : (rest.map fun v => v.category).sum + (nativeFrameWords "java/lang/System" "arraycopy" 5 + 11) ≤ R.locals) (hdg : decode cc pc = .ok (.invokestatic index, 3))
    (kk : ∀ (M1 : xMem) (H1 : Heap) (locs1 : List Loc) (g1 : Nat → Option Nat), (∀ i, i < k → g1 i = f i) → M1 a = some (.inl (G.2.1 3, n1, .inr (.inr (.inr (.inr g1))))) → (∀ b, b ≠ a → M1 b = M b) → xWd G A H0 M1 H1 locs1 → W p l e R s m args below meth c H1 locs1 cells slots Q (F0 m (pc + 3) ls rest)) : W p l e R s m args below meth c H locs cells slots Q (F0 m pc ls (.int (nI k) :: .int (nI 0) :: .ref a :: .int (nI 0) :: .ref a0 :: rest)) := by
  have hat : ∀ (i : Nat), i < k → ∀ y : Nat, f i = some y → ∃ cellV : Cell, H[y]? = some cellV ∧ cellV.vm.isStatics = false ∧ s.vm.findClass C = some cellV.cls := by
    intro i hi y hy
    obtain ⟨y', fs, e1, e2⟩ := hel i hi
    cases e1.symm.trans hy
    exact x_recv hC hw e2 hc
  obtain ⟨L, f0, rfl, hP, hD, hS, hA⟩ := hw
  obtain ⟨hm, he⟩ := xof_some ha
  obtain ⟨hm2, he2⟩ := xof_some ha0
  obtain ⟨q, hq⟩ := va_pl_get (X := []) (f := f0) hm
  obtain ⟨q2, hq2⟩ := va_pl_get (X := []) (f := f0) hm2
  have hq' := hq
  rw [he] at hq'
  rw [he2] at hq2
  have z0 : (nI 0).toNatClampNeg = 0 := by decide +kernel
  have zk : (nI k).toNatClampNeg = k := nI_clamp hk
  refine va_copyq hC.x hC.b (by rw [hC.n, hsz]) hC.o (hC.w _ hlink) (hC.w _ k_173) (hC.w _ k_172) (hC.w _ k_12) hC.k hP hD hS q2 q 3 3 (E0 := "java/lang/Object") (E1 := "java/lang/Object") (C := C) hq2 hq' rfl rfl (sp := nI 0) (dp := nI 0) (n := nI k) (by decide +kernel) (by decide +kernel) (nI_pos hk) (by rw [z0, zk]; omega) (by rw [z0, zk]; omega) ?_ ?_ hframes hlocals hdg (fun H1 locs1 hP1 hD1 hS1 => kk _ H1 locs1 (va_cpy f g (nI 0).toNatClampNeg (nI 0).toNatClampNeg (nI k).toNatClampNeg) ?_ (xup_self _ _ _) (fun b hb => xup_ne _ _ hb) (xWd.put hm hq hD hP1 hD1 hS1 hA))
  · rw [z0, zk]
    intro i hi y hy
    rw [Nat.zero_add] at hy
    exact hat i hi y hy
  · intro comp c0 h2 h3
    obtain ⟨c1, t1, r1, r2, r3⟩ := Cond.castable_spec (hC.w _ hca)
    cases h3.symm.trans r1
    cases h2.symm.trans r2
    exact r3
  · rw [z0, zk]
    intro i hi
    unfold va_cpy
    rw [if_pos (by omega)]
    congr 1
    omega
theorem x_aloadQ_n {v : Value} {n : Nat} (hx : p.tables.exec = Jvm.exec) (hb : c.code = cc) (r : Option Nat) (hr : v = va_rf r) (k1 : r = none → W p l e R s m args below meth c H locs cells slots Q (F0 m pc ls (.null :: rest))) (k2 : ∀ y, r = some y → W p l e R s m args below meth c H locs cells slots Q (F0 m pc ls (.ref y :: rest))) : W p l e R s m args below meth c H locs cells slots Q (F0 m pc ls (v :: rest)) := by
  subst hr
  cases r with
  | none => exact k1 rfl
  | some y => exact k2 y rfl
end XMore
