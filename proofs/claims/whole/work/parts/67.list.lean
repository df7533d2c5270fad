def elP (M : xMem) (ci n : Nat) (f : Nat → Option Nat) : Prop := ∀ i, i < n → ∃ y fs, f i = some y ∧ M y = some (.inr (ci, fs))
theorem elP.new {M M1 : xMem} {ci n q : Nat} {f : Nat → Option Nat} (h : elP M ci n f) (hn : M q = none) (fr : ∀ b, b ≠ q → M1 b = M b) : elP M1 ci n f := by
  intro i hi
  obtain ⟨y, fs, h1, h2⟩ := h i hi
  exact ⟨y, fs, h1, (fr y (x_neN h2 hn)).trans h2⟩
theorem elP.put {M M1 : xMem} {ci n a : Nat} {f : Nat → Option Nat} {e : va_E} (h : elP M ci n f) (ha : M a = some e) (hne : ∀ fs, (Sum.inr (ci, fs) : va_E) ≠ e) (fr : ∀ b, b ≠ a → M1 b = M b) : elP M1 ci n f := by
  intro i hi
  obtain ⟨y, fs, h1, h2⟩ := h i hi
  exact ⟨y, fs, h1, (fr y (x_ne h2 ha (hne fs))).trans h2⟩
theorem x_ne8 {ci : Nat} (h : ci ≠ 8) {gs : List Value} : ∀ fs, (Sum.inr (ci, fs) : va_E) ≠ .inr (8, gs) := by
  intro fs z
  injection z with z
  injection z with z1 z2
  exact h z1
def fzP (G : xT) (fz : Nat) : Prop := ∃ cz : Cell, (fz, cz) ∈ G.2.2.1 ∧ cz.cls = G.2.1 3 ∧ cz.slots.size = 0 ∧ cz.vm.isStatics = false
def capP (fz el cap : Nat) : Prop := (cap = 0 ∧ el = fz) ∨ cap = 10 ∨ cap = 15 ∨ cap = 22
theorem xMet.wk {l : Launch} {G : xT} {y : MethodName} {ws : List Cond} {rm : Room} {av : List Value} {M : xMem} {sz : Nat} {rt rt' : Option Value → xMem → Prop} {th th' : String → xMem → Prop} (h : xMet l G y ws rm av M sz rt th) (hr : ∀ v M', rt v M' → rt' v M') (ht : ∀ X M', th X M' → th' X M') : xMet l G y ws rm av M sz rt' th' := by
  intro p e ha hf hc s m args below h1 h2 h3 h4
  obtain ⟨n, o, w1, w2, w3, ⟨w4, w5⟩, w6⟩ := h p e ha hf hc s m args below h1 h2 h3 h4
  refine ⟨n, o, w1, w2, w3, ⟨?_, w5⟩, w6⟩
  rcases w4 with ⟨v, M', a, b, c⟩ | ⟨x, X, M', a, b, c, d⟩
  · exact Or.inl ⟨v, M', a, hr v M' b, c⟩
  · exact Or.inr ⟨x, X, M', a, b, ht X M' c, d⟩
section XMF
variable {l : Launch} {G : xT} {y : MethodName} {cc : ByteArray} {maxL : Nat} {ret : Option FieldType} {rm : Room} {av : List Value} {M : xMem} {sz : Nat} {rt : Option Value → xMem → Prop} {th : String → xMem → Prop}
/-- a contract from a walk of the method's body -/
theorem xMet.ofF (hy : plainFor y = true) (hlen : (lg_sl av).length ≤ maxL)
    (body : ∀ (p : Program) (e : Env) (s : State) (m : MethodId) (below : List Frame) (meth : Method) (c : Code) (ls : Array Slot), xC p s m av.toArray meth c cc y.cls maxL G (xA M sz) → meth.sig.returnType = ret → meth.name = y.name → c.exceptionTable.toList = [] → sz = s.heap.size → xWd G (xA M sz) s.heap M s.heap [] → lv_has ls maxL (lv_args 0 av) →
      W p l e rm s m av.toArray below meth c s.heap [] 0 0 (xMQ below G M sz rt th s rm.cells rm.slots) (F0 m 0 ls [])) : xMet l G y (Cond.code y cc maxL ret :: x_tbl) rm av M sz rt th := by
  refine MetFree.of_bodySF (code := cc) (maxLocals := maxL) (ret := ret) hy ?_ ?_
  · intro args s m h hn
    obtain ⟨meth, c, h1, h2, h3, h4, h5, h6, -, -⟩ := Cond.code_spec hn (atoms_spec (ws := Cond.code y cc maxL ret :: x_tbl) h _ List.mem_cons_self)
    exact ⟨meth, c, h1, h2, h3, h4, h5, h6⟩
  · intro p e s m args below meth c s₁ B hml hP _
    obtain ⟨rfl, hsz, hH, hK, hfz⟩ := hP
    subst hsz
    have hh0 : s₁.heap = s.heap := by rw [B.state]; rfl
    have hts0 := atoms_spec (ws := Cond.code y cc maxL ret :: x_tbl) B.pre
    have hno : c.exceptionTable.toList = [] := by
      have h := BodyLoose.noHandlers B (hts0 _ List.mem_cons_self)
      have h0 : c.exceptionTable.size = 0 := by simpa [Array.isEmpty] using h
      exact List.eq_nil_of_length_eq_zero (by simpa using h0)
    have hw : xWd G (xA M s.heap.size) s.heap M s.heap [] := xWd.of hH (fun q h => Or.inl h) va_S.rf (fun q h => Or.inr h)
    have hl := lv_entry av (n := maxL) hlen
    have K := body p e s m below meth c _ ⟨B.exec, B.bytes, findClass_of_methodNamed B.named, fun w h => hts0 w (List.mem_cons_of_mem _ h), hK, hml, B.notSynchronized, hfz⟩ B.returns (name_of_methodNamed B.named B.method).1 hno rfl hw hl
    rw [← lg_entry_eq] at K
    obtain ⟨t, a1, o, b1, b2, b3⟩ := K s₁ hh0 (Stand.of_body B)
    exact ⟨t, o, a1, b1, b2, b3⟩
end XMF
section XRA
variable {p : Program} {s : State} {m : MethodId} {args : Array Value} {meth : Method} {c : Code} {H : Heap} {locs : List Loc} {cc : ByteArray} {own : String} {nL : Nat} {G : xT} {A : Nat → Prop} {a : Nat} {M : xMem} {H0 : Heap}
theorem x_recvA (hC : xC p s m args meth c cc own nL G A) (hw : xWd G A H0 M H locs) {n : Nat} {f : Nat → Option Nat} (ha : M a = some (.inl (G.2.1 3, n, .inr (.inr (.inr (.inr f)))))) : ∃ cell : Cell, H[a]? = some cell ∧ cell.vm.isStatics = false ∧ s.vm.findClass "[Ljava/lang/Object;" = some cell.cls := by
  have h1 : H[a]? = some (vp_cell (G.2.1 3) (n, .inr (.inr (.inr (.inr f))))) := hw.at ha
  exact ⟨_, h1, rfl, hC.z.2.2.2.2.2.2.2⟩
theorem x_fz0 (hC : xC p s m args meth c cc own nL G A) (hw : xWd G A H0 M H locs) {fz : Nat} (h : fzP G fz) : M fz = none := by
  obtain ⟨cz, h1, -⟩ := h
  cases he : M fz with
  | none => rfl
  | some e => exact absurd (hw.inA (x_nn he)) (hC.z.1 _ h1).1
theorem x_flen {l : Launch} {e : Env} {R : Room} {below : List Frame} {cells slots : Nat} {Q : State → Prop} {pc : Nat} {ls : Array Slot} {rest : List Value} (hC : xC p s m args meth c cc own nL G A) (hw : xWd G A s.heap M H locs) {fz : Nat} (h : fzP G fz) (hdg : decode cc pc = .ok (.arraylength, 1))
    (kk : W p l e R s m args below meth c H locs cells slots Q (F0 m (pc + 1) ls (.int (nI 0) :: rest))) : W p l e R s m args below meth c H locs cells slots Q (F0 m pc ls (.ref fz :: rest)) := by
  obtain ⟨cz, h1, h2, h3, h4⟩ := h
  obtain ⟨hnA, hh⟩ := hC.z.1 _ h1
  have hcell : H[fz]? = some cz := by
    rw [hw.S.2.1 fz (Array.getElem?_eq_some_iff.mp hh).1 hnA]
    exact hh
  have hA := (hC.k.2 3 (G.2.1 3, .object "java/lang/Object") rfl).1 0 (fun _ => .null)
  have hArr : s.isArrayOf cz (.object "java/lang/Object") := by
    obtain ⟨-, k, hk, comp, hkind⟩ := hA
    exact ⟨fun z hz => (by rw [hz] at h4; cases h4), k, by rw [h2]; exact hk, comp, hkind⟩
  exact W.alen (n := nI 0) hC.x hC.b hcell hArr (by rw [h3]; rfl) rfl rfl hdg kk
end XRA
set_option maxHeartbeats 400000 in
set_option maxRecDepth 100000 in
/-- size -/
theorem c_AL_size (l : Launch) (G : xT) (M : xMem) (sz : Nat) (la el n : Nat) (mc : Int32) (h_la : M la = some (.inr (8, [.ref el, .int (nI n), .int mc]))) : xMet l G y_AL_size (Cond.code y_AL_size b_AL_size 1 (Option.some Jvm.ClassFile.FieldType.int) :: x_tbl) { frames := 0, cells := 0, slots := 0, locals := 0 } [.ref la] M sz (fun u M' => u = some (.int (nI n)) ∧ M' = M) (fun _ _ => False) := by
  refine xMet.of (by decide) (Nat.le_of_ble_eq_true rfl) ?_
  intro p e s m below meth c ls hC hr hnm hno hsz hw hl
  obtain ⟨hx, hb, hown, hts, hK, hml, hlk, hz⟩ := id hC
  have hl : lv_has ls 1 [(0, .ref la)] := hl
  refine lv_aload_n hx hb d_AL_size_0 rfl (lv_at hl 0 rfl) ?_
  refine x_get hC hw h_la rfl 1 (by decide) (hts _ k_50) (fun _ h9 => h9) rfl d_AL_size_1 ?_
  exact x_iret hC hr hw (⟨rfl, rfl⟩) (Nat.le_of_ble_eq_true rfl) (Nat.le_of_ble_eq_true rfl) d_AL_size_4

set_option maxHeartbeats 400000 in
set_option maxRecDepth 100000 in
/-- checkIndex -/
theorem c_PRE_checkIndex (l : Launch) (G : xT) (M : xMem) (sz : Nat) (i n : Nat) (hi : i < n) (hn : n < 2 ^ 31) : xMet l G y_PRE_checkIndex (Cond.code y_PRE_checkIndex b_PRE_checkIndex 3 (Option.some Jvm.ClassFile.FieldType.int) :: x_tbl) { frames := 0, cells := 0, slots := 0, locals := 0 } [.int (nI i), .int (nI n), .null] M sz (fun u M' => u = some (.int (nI i)) ∧ M' = M) (fun _ _ => False) := by
  refine xMet.of (by decide) (Nat.le_of_ble_eq_true rfl) ?_
  intro p e s m below meth c ls hC hr hnm hno hsz hw hl
  obtain ⟨hx, hb, hown, hts, hK, hml, hlk, hz⟩ := id hC
  have hl : lv_has ls 3 [(0, .int (nI i)), (1, .int (nI n)), (2, .null)] := hl
  refine lv_iload_n hx hb d_PRE_checkIndex_0 rfl (lv_at hl 0 rfl) ?_
  refine lv_if_lt (tgt := 9) hx hb d_PRE_checkIndex_1 (by decide) (fun c_1 => ?_) (fun c_1 => ?_)
  · exact absurd c_1 (nI_pos (by omega))
  · refine lv_iload_n hx hb d_PRE_checkIndex_4 rfl (lv_at hl 0 rfl) ?_
    refine lv_iload_n hx hb d_PRE_checkIndex_5 rfl (lv_at hl 1 rfl) ?_
    refine lv_icmp_lt (tgt := 16) hx hb d_PRE_checkIndex_6 (by decide) (fun c_6 => ?_) (fun c_6 => ?_)
    · have c_6 := (nI_ltI (by omega) (by omega)).mp c_6
      refine lv_iload_n hx hb d_PRE_checkIndex_16 rfl (lv_at hl 0 rfl) ?_
      exact x_iret hC hr hw (⟨rfl, rfl⟩) (Nat.le_of_ble_eq_true rfl) (Nat.le_of_ble_eq_true rfl) d_PRE_checkIndex_17
    · have c_6 := Nat.not_lt.mp ((not_congr (nI_ltI (by omega) (by omega))).mp c_6)
      omega

set_option maxHeartbeats 400000 in
set_option maxRecDepth 100000 in
/-- checkIndex -/
theorem c_OBJ_checkIndex (l : Launch) (G : xT) (M : xMem) (sz : Nat) (i n : Nat) (hi : i < n) (hn : n < 2 ^ 31) : xMet l G y_OBJ_checkIndex (Cond.code y_OBJ_checkIndex b_OBJ_checkIndex 2 (Option.some Jvm.ClassFile.FieldType.int) :: x_tbl) { frames := 1, cells := 0, slots := 0, locals := 22 } [.int (nI i), .int (nI n)] M sz (fun u M' => u = some (.int (nI i)) ∧ M' = M) (fun _ _ => False) := by
  refine xMet.of (by decide) (Nat.le_of_ble_eq_true rfl) ?_
  intro p e s m below meth c ls hC hr hnm hno hsz hw hl
  obtain ⟨hx, hb, hown, hts, hK, hml, hlk, hz⟩ := id hC
  have hl : lv_has ls 2 [(0, .int (nI i)), (1, .int (nI n))] := hl
  refine lv_iload_n hx hb d_OBJ_checkIndex_0 rfl (lv_at hl 0 rfl) ?_
  refine lv_iload_n hx hb d_OBJ_checkIndex_1 rfl (lv_at hl 1 rfl) ?_
  refine lv_null hx hb d_OBJ_checkIndex_2 ?_
  refine x_callG hC (c_PRE_checkIndex l G M (Array.size s.heap) i n hi hn) k_222 k_19 ⟨Nat.le_of_ble_eq_true rfl, Nat.le_of_ble_eq_true rfl⟩ ⟨Nat.le_of_ble_eq_true rfl, Nat.le_of_ble_eq_true rfl⟩ hw hl.1 (Nat.le_of_ble_eq_true rfl) d_OBJ_checkIndex_3 (x_ivS hC k_222 k_220 k_221 k_19 (show _ ∧ _ ∧ _ = some 3 from by decide +kernel) rfl d_OBJ_checkIndex_3) (fun rv M1 H locs hq hw => ?_) (fun _ _ _ _ _ h _ _ => h.elim)
  obtain ⟨rfl, hM⟩ := hq
  subst M1
  refine W.eq (g2 := F0 m 6 ls [.int (nI i)]) rfl ?_
  exact x_iret hC hr hw (⟨rfl, rfl⟩) (Nat.le_of_ble_eq_true rfl) (Nat.le_of_ble_eq_true rfl) d_OBJ_checkIndex_6

set_option maxHeartbeats 400000 in
set_option maxRecDepth 100000 in
/-- elementData -/
theorem c_AL_elementData (l : Launch) (G : xT) (M : xMem) (sz : Nat) (la el n cap i y : Nat) (mc : Int32) (f : Nat → Option Nat) (hi : i < cap) (hcap : cap < 2 ^ 31) (hf : f i = some y) (h_la : M la = some (.inr (8, [.ref el, .int (nI n), .int mc]))) (h_el : M el = some (.inl (G.2.1 3, cap, .inr (.inr (.inr (.inr f)))))) : xMet l G y_AL_elementData (Cond.code y_AL_elementData b_AL_elementData 2 (Option.some (Jvm.ClassFile.FieldType.object "java/lang/Object")) :: x_tbl) { frames := 0, cells := 0, slots := 0, locals := 0 } [.ref la, .int (nI i)] M sz (fun u M' => u = some (.ref y) ∧ M' = M) (fun _ _ => False) := by
  refine xMet.of (by decide) (Nat.le_of_ble_eq_true rfl) ?_
  intro p e s m below meth c ls hC hr hnm hno hsz hw hl
  obtain ⟨hx, hb, hown, hts, hK, hml, hlk, hz⟩ := id hC
  have hl : lv_has ls 2 [(0, .ref la), (1, .int (nI i))] := hl
  refine lv_aload_n hx hb d_AL_elementData_0 rfl (lv_at hl 0 rfl) ?_
  refine x_get hC hw h_la rfl 0 (by decide) (hts _ k_49) (fun _ h9 => h9) rfl d_AL_elementData_1 ?_
  refine lv_iload_n hx hb d_AL_elementData_4 rfl (lv_at hl 1 rfl) ?_
  refine x_aald (j := i) hC hw h_el rfl (rfl) (by omega) (by omega) d_AL_elementData_5 ?_
  refine x_vq (x := va_rf (f i)) (y := .ref y) (by rw [hf]; rfl) ?_
  exact x_aret hC hr (Or.inl ⟨_, rfl⟩) hw (Or.inr ⟨_, rfl⟩) (⟨rfl, rfl⟩) (Nat.le_of_ble_eq_true rfl) (Nat.le_of_ble_eq_true rfl) d_AL_elementData_6

set_option maxHeartbeats 400000 in
set_option maxRecDepth 100000 in
/-- get -/
theorem c_AL_get (l : Launch) (G : xT) (M : xMem) (sz : Nat) (la el n cap i y : Nat) (mc : Int32) (f : Nat → Option Nat) (hi : i < n) (hn : n ≤ cap) (hcap : cap < 2 ^ 31) (hf : f i = some y) (h_la : M la = some (.inr (8, [.ref el, .int (nI n), .int mc]))) (h_el : M el = some (.inl (G.2.1 3, cap, .inr (.inr (.inr (.inr f)))))) : xMet l G y_AL_get (Cond.code y_AL_get b_AL_get 2 (Option.some (Jvm.ClassFile.FieldType.object "java/lang/Object")) :: x_tbl) { frames := 2, cells := 0, slots := 0, locals := 43 } [.ref la, .int (nI i)] M sz (fun u M' => u = some (.ref y) ∧ M' = M) (fun _ _ => False) := by
  refine xMet.of (by decide) (Nat.le_of_ble_eq_true rfl) ?_
  intro p e s m below meth c ls hC hr hnm hno hsz hw hl
  obtain ⟨hx, hb, hown, hts, hK, hml, hlk, hz⟩ := id hC
  have hl : lv_has ls 2 [(0, .ref la), (1, .int (nI i))] := hl
  refine lv_iload_n hx hb d_AL_get_0 rfl (lv_at hl 1 rfl) ?_
  refine lv_aload_n hx hb d_AL_get_1 rfl (lv_at hl 0 rfl) ?_
  refine x_get hC hw h_la rfl 1 (by decide) (hts _ k_50) (fun _ h9 => h9) rfl d_AL_get_2 ?_
  refine x_callG hC (c_OBJ_checkIndex l G M (Array.size s.heap) i n hi (by omega)) k_219 k_18 ⟨Nat.le_of_ble_eq_true rfl, Nat.le_of_ble_eq_true rfl⟩ ⟨Nat.le_of_ble_eq_true rfl, Nat.le_of_ble_eq_true rfl⟩ hw hl.1 (Nat.le_of_ble_eq_true rfl) d_AL_get_5 (x_ivS hC k_219 k_217 k_218 k_18 (show _ ∧ _ ∧ _ = some 2 from by decide +kernel) rfl d_AL_get_5) (fun rv M1 H locs hq hw => ?_) (fun _ _ _ _ _ h _ _ => h.elim)
  obtain ⟨rfl, hM⟩ := hq
  subst M1
  refine W.eq (g2 := F0 m 8 ls [.int (nI i)]) rfl ?_
  refine lv_pop hx hb d_AL_get_8 rfl ?_
  refine lv_aload_n hx hb d_AL_get_9 rfl (lv_at hl 0 rfl) ?_
  refine lv_iload_n hx hb d_AL_get_10 rfl (lv_at hl 1 rfl) ?_
  refine x_callG hC (c_AL_elementData l G M (Array.size H) la el n cap i y mc f (by omega) hcap hf h_la h_el) k_226 k_4 ⟨Nat.le_of_ble_eq_true rfl, Nat.le_of_ble_eq_true rfl⟩ ⟨Nat.le_of_ble_eq_true rfl, Nat.le_of_ble_eq_true rfl⟩ hw hl.1 (Nat.le_of_ble_eq_true rfl) d_AL_get_11 (x_ivV hC k_226 k_223 k_224 k_225 (show _ ∧ _ ∧ _ = some 1 from by decide +kernel) (x_recv hC hw h_la rfl) rfl d_AL_get_11) (fun rv M2 H locs hq hw => ?_) (fun _ _ _ _ _ h _ _ => h.elim)
  obtain ⟨rfl, hM⟩ := hq
  subst M2
  refine W.eq (g2 := F0 m 14 ls [.ref y]) rfl ?_
  exact x_aret hC hr (Or.inl ⟨_, rfl⟩) hw (Or.inr ⟨_, rfl⟩) (⟨rfl, rfl⟩) (Nat.le_of_ble_eq_true rfl) (Nat.le_of_ble_eq_true rfl) d_AL_get_14

set_option maxHeartbeats 400000 in
set_option maxRecDepth 100000 in
/-- AbstractCollection -/
theorem c_ABC_init (l : Launch) (G : xT) (M : xMem) (sz : Nat) (la : Nat) : xMet l G y_ABC_init (Cond.code y_ABC_init b_ABC_init 1 none :: x_tbl) { frames := 1, cells := 0, slots := 0, locals := 12 } [.ref la] M sz (fun u M' => u = none ∧ M' = M) (fun _ _ => False) := by
  refine xMet.of (by decide) (Nat.le_of_ble_eq_true rfl) ?_
  intro p e s m below meth c ls hC hr hnm hno hsz hw hl
  obtain ⟨hx, hb, hown, hts, hK, hml, hlk, hz⟩ := id hC
  have hl : lv_has ls 1 [(0, .ref la)] := hl
  have hin : meth.name = "<init>" := hnm
  refine lv_aload_n hx hb d_ABC_init_0 rfl (lv_at hl 0 rfl) ?_
  refine x_objInit hC k_46 hl.1 (Nat.le_of_ble_eq_true rfl) (Nat.le_of_ble_eq_true rfl) d_ABC_init_1 ?_
  exact x_vret hC hr hw (⟨rfl, rfl⟩) (Nat.le_of_ble_eq_true rfl) (Nat.le_of_ble_eq_true rfl) d_ABC_init_4

set_option maxHeartbeats 400000 in
set_option maxRecDepth 100000 in
/-- AbstractList -/
theorem c_ABL_init (l : Launch) (G : xT) (M : xMem) (sz : Nat) (la : Nat) (h_la : M la = some (.inr (8, [.null, .int (nI 0), .int (nI 0)]))) : xMet l G y_ABL_init (Cond.code y_ABL_init b_ABL_init 1 none :: x_tbl) { frames := 2, cells := 0, slots := 0, locals := 32 } [.ref la] M sz (fun u M' => u = none ∧ M' la = some (.inr (8, [.null, .int (nI 0), .int (nI 0)])) ∧ xfr M M' [la]) (fun _ _ => False) := by
  refine xMet.of (by decide) (Nat.le_of_ble_eq_true rfl) ?_
  intro p e s m below meth c ls hC hr hnm hno hsz hw hl
  obtain ⟨hx, hb, hown, hts, hK, hml, hlk, hz⟩ := id hC
  have hl : lv_has ls 1 [(0, .ref la)] := hl
  have hin : meth.name = "<init>" := hnm
  have hF : xfr M M [la] := xfr.rf
  refine lv_aload_n hx hb d_ABL_init_0 rfl (lv_at hl 0 rfl) ?_
  refine x_callG hC (c_ABC_init l G M (Array.size s.heap) la) k_45 k_2 ⟨Nat.le_of_ble_eq_true rfl, Nat.le_of_ble_eq_true rfl⟩ ⟨Nat.le_of_ble_eq_true rfl, Nat.le_of_ble_eq_true rfl⟩ hw hl.1 (Nat.le_of_ble_eq_true rfl) d_ABL_init_1 (x_ivI hC k_45 k_43 k_44 rfl (show _ ∧ _ ∧ _ = some 0 from by decide +kernel) rfl d_ABL_init_1) (fun rv M1 H locs hq hw => ?_) (fun _ _ _ _ _ h _ _ => h.elim)
  obtain ⟨rfl, hM⟩ := hq
  subst M1
  refine W.eq (g2 := F0 m 4 ls []) rfl ?_
  refine lv_aload_n hx hb d_ABL_init_4 rfl (lv_at hl 0 rfl) ?_
  refine lv_iconst (v := nI 0) hx hb d_ABL_init_5 (by decide) ?_
  refine x_put (ty := .int) hC hw h_la rfl 2 (by decide) (hts _ k_51) (fun _ h9 => h9) rfl (by decide +kernel) rfl rfl (Nat.le_of_ble_eq_true rfl) d_ABL_init_6 (fun M2 H locs em fr hw => ?_)
  have em : M2 la = some (.inr (8, [.null, .int (nI 0), .int (nI 0)])) := em
  have h_la := em
  have hF := hF.put em fr (Or.inl (by simp))
  exact x_vret hC hr hw (⟨rfl, h_la, hF⟩) (Nat.le_of_ble_eq_true rfl) (Nat.le_of_ble_eq_true rfl) d_ABL_init_9

set_option maxHeartbeats 400000 in
set_option maxRecDepth 100000 in
/-- ArrayList -/
theorem c_AL_init (l : Launch) (G : xT) (M : xMem) (sz : Nat) (la fz : Nat) (hfz : ("java/util/ArrayList", "DEFAULTCAPACITY_EMPTY_ELEMENTDATA", "[Ljava/lang/Object;", .ref fz) ∈ G.2.2.2) (h_la : M la = some (.inr (8, [.null, .int (nI 0), .int (nI 0)]))) : xMet l G y_AL_init (Cond.code y_AL_init b_AL_init 1 none :: x_tbl) { frames := 3, cells := 0, slots := 0, locals := 52 } [.ref la] M sz (fun u M' => u = none ∧ M' la = some (.inr (8, [.ref fz, .int (nI 0), .int (nI 0)])) ∧ xfr M M' [la]) (fun _ _ => False) := by
  refine xMet.of (by decide) (Nat.le_of_ble_eq_true rfl) ?_
  intro p e s m below meth c ls hC hr hnm hno hsz hw hl
  obtain ⟨hx, hb, hown, hts, hK, hml, hlk, hz⟩ := id hC
  have hl : lv_has ls 1 [(0, .ref la)] := hl
  have hin : meth.name = "<init>" := hnm
  have hF : xfr M M [la] := xfr.rf
  refine lv_aload_n hx hb d_AL_init_0 rfl (lv_at hl 0 rfl) ?_
  refine x_callG hC (c_ABL_init l G M (Array.size s.heap) la h_la) k_42 k_3 ⟨Nat.le_of_ble_eq_true rfl, Nat.le_of_ble_eq_true rfl⟩ ⟨Nat.le_of_ble_eq_true rfl, Nat.le_of_ble_eq_true rfl⟩ hw hl.1 (Nat.le_of_ble_eq_true rfl) d_AL_init_1 (x_ivI hC k_42 k_40 k_41 rfl (show _ ∧ _ ∧ _ = some 0 from by decide +kernel) rfl d_AL_init_1) (fun rv M1 H locs hq hw => ?_) (fun _ _ _ _ _ h _ _ => h.elim)
  obtain ⟨rfl, h_la, fr⟩ := hq
  have hF := fr
  refine W.eq (g2 := F0 m 4 ls []) rfl ?_
  refine lv_aload_n hx hb d_AL_init_4 rfl (lv_at hl 0 rfl) ?_
  refine x_gets (H0 := s.heap) hC hw hfz (hts _ k_47) (fun _ h9 => h9) d_AL_init_5 ?_
  refine x_put (ty := .array (.object "java/lang/Object")) hC hw h_la rfl 0 (by decide) (hts _ k_49) (fun _ h9 => h9) rfl (by decide +kernel) rfl rfl (Nat.le_of_ble_eq_true rfl) d_AL_init_8 (fun M2 H locs em fr hw => ?_)
  have em : M2 la = some (.inr (8, [.ref fz, .int (nI 0), .int (nI 0)])) := em
  have h_la := em
  have hF := hF.put em fr (Or.inl (by simp))
  exact x_vret hC hr hw (⟨rfl, h_la, hF⟩) (Nat.le_of_ble_eq_true rfl) (Nat.le_of_ble_eq_true rfl) d_AL_init_11

set_option maxHeartbeats 400000 in
set_option maxRecDepth 100000 in
/-- c_max_10_1 -/
theorem c_max_10_1 (l : Launch) (G : xT) (M : xMem) (sz : Nat)  : xMet l G y_MTH_max (Cond.code y_MTH_max b_MTH_max 2 (Option.some Jvm.ClassFile.FieldType.int) :: x_tbl) { frames := 0, cells := 0, slots := 0, locals := 0 } [.int (nI 10), .int (nI 1)] M sz (fun u M' => u = some (.int (nI 10)) ∧ M' = M) (fun _ _ => False) := by
  refine xMet.ofF (by decide +kernel) (Nat.le_of_ble_eq_true rfl) ?_
  intro p e s m below meth c ls hC hr hnm hno hsz hw hl
  obtain ⟨hx, hb, hown, hts, hK, hml, hlk, hz⟩ := id hC
  have hl : lv_has ls 2 [(0, .int (nI 10)), (1, .int (nI 1))] := hl
  refine lv_iload_n hx hb d_MTH_max_0 rfl (lv_at hl 0 rfl) ?_
  refine lv_iload_n hx hb d_MTH_max_1 rfl (lv_at hl 1 rfl) ?_
  refine lv_icmp_lt (tgt := 9) hx hb d_MTH_max_2 (by decide) (fun c_2 => ?_) (fun c_2 => ?_)
  · exact absurd c_2 (by decide +kernel)
  · refine lv_iload_n hx hb d_MTH_max_5 rfl (lv_at hl 0 rfl) ?_
    refine lv_goto (tgt := 10) hx hb d_MTH_max_6 (by decide) ?_
    exact x_iret hC hr hw (⟨rfl, rfl⟩) (Nat.le_of_ble_eq_true rfl) (Nat.le_of_ble_eq_true rfl) d_MTH_max_10

set_option maxHeartbeats 400000 in
set_option maxRecDepth 100000 in
/-- c_max_1_5 -/
theorem c_max_1_5 (l : Launch) (G : xT) (M : xMem) (sz : Nat)  : xMet l G y_MTH_max (Cond.code y_MTH_max b_MTH_max 2 (Option.some Jvm.ClassFile.FieldType.int) :: x_tbl) { frames := 0, cells := 0, slots := 0, locals := 0 } [.int (nI 1), .int (nI 5)] M sz (fun u M' => u = some (.int (nI 5)) ∧ M' = M) (fun _ _ => False) := by
  refine xMet.ofF (by decide +kernel) (Nat.le_of_ble_eq_true rfl) ?_
  intro p e s m below meth c ls hC hr hnm hno hsz hw hl
  obtain ⟨hx, hb, hown, hts, hK, hml, hlk, hz⟩ := id hC
  have hl : lv_has ls 2 [(0, .int (nI 1)), (1, .int (nI 5))] := hl
  refine lv_iload_n hx hb d_MTH_max_0 rfl (lv_at hl 0 rfl) ?_
  refine lv_iload_n hx hb d_MTH_max_1 rfl (lv_at hl 1 rfl) ?_
  refine lv_icmp_lt (tgt := 9) hx hb d_MTH_max_2 (by decide) (fun c_2 => ?_) (fun c_2 => ?_)
  · refine lv_iload_n hx hb d_MTH_max_9 rfl (lv_at hl 1 rfl) ?_
    exact x_iret hC hr hw (⟨rfl, rfl⟩) (Nat.le_of_ble_eq_true rfl) (Nat.le_of_ble_eq_true rfl) d_MTH_max_10
  · exact absurd c_2 (by decide +kernel)

set_option maxHeartbeats 400000 in
set_option maxRecDepth 100000 in
/-- c_max_1_7 -/
theorem c_max_1_7 (l : Launch) (G : xT) (M : xMem) (sz : Nat)  : xMet l G y_MTH_max (Cond.code y_MTH_max b_MTH_max 2 (Option.some Jvm.ClassFile.FieldType.int) :: x_tbl) { frames := 0, cells := 0, slots := 0, locals := 0 } [.int (nI 1), .int (nI 7)] M sz (fun u M' => u = some (.int (nI 7)) ∧ M' = M) (fun _ _ => False) := by
  refine xMet.ofF (by decide +kernel) (Nat.le_of_ble_eq_true rfl) ?_
  intro p e s m below meth c ls hC hr hnm hno hsz hw hl
  obtain ⟨hx, hb, hown, hts, hK, hml, hlk, hz⟩ := id hC
  have hl : lv_has ls 2 [(0, .int (nI 1)), (1, .int (nI 7))] := hl
  refine lv_iload_n hx hb d_MTH_max_0 rfl (lv_at hl 0 rfl) ?_
  refine lv_iload_n hx hb d_MTH_max_1 rfl (lv_at hl 1 rfl) ?_
  refine lv_icmp_lt (tgt := 9) hx hb d_MTH_max_2 (by decide) (fun c_2 => ?_) (fun c_2 => ?_)
  · refine lv_iload_n hx hb d_MTH_max_9 rfl (lv_at hl 1 rfl) ?_
    exact x_iret hC hr hw (⟨rfl, rfl⟩) (Nat.le_of_ble_eq_true rfl) (Nat.le_of_ble_eq_true rfl) d_MTH_max_10
  · exact absurd c_2 (by decide +kernel)

set_option maxHeartbeats 400000 in
set_option maxRecDepth 100000 in
/-- c_min_10_15 -/
theorem c_min_10_15 (l : Launch) (G : xT) (M : xMem) (sz : Nat)  : xMet l G y_MTH_min (Cond.code y_MTH_min b_MTH_min 2 (Option.some Jvm.ClassFile.FieldType.int) :: x_tbl) { frames := 0, cells := 0, slots := 0, locals := 0 } [.int (nI 10), .int (nI 15)] M sz (fun u M' => u = some (.int (nI 10)) ∧ M' = M) (fun _ _ => False) := by
  refine xMet.ofF (by decide +kernel) (Nat.le_of_ble_eq_true rfl) ?_
  intro p e s m below meth c ls hC hr hnm hno hsz hw hl
  obtain ⟨hx, hb, hown, hts, hK, hml, hlk, hz⟩ := id hC
  have hl : lv_has ls 2 [(0, .int (nI 10)), (1, .int (nI 15))] := hl
  refine lv_iload_n hx hb d_MTH_min_0 rfl (lv_at hl 0 rfl) ?_
  refine lv_iload_n hx hb d_MTH_min_1 rfl (lv_at hl 1 rfl) ?_
  refine lv_icmp_gt (tgt := 9) hx hb d_MTH_min_2 (by decide) (fun c_2 => ?_) (fun c_2 => ?_)
  · exact absurd c_2 (by decide +kernel)
  · refine lv_iload_n hx hb d_MTH_min_5 rfl (lv_at hl 0 rfl) ?_
    refine lv_goto (tgt := 10) hx hb d_MTH_min_6 (by decide) ?_
    exact x_iret hC hr hw (⟨rfl, rfl⟩) (Nat.le_of_ble_eq_true rfl) (Nat.le_of_ble_eq_true rfl) d_MTH_min_10

set_option maxHeartbeats 400000 in
set_option maxRecDepth 100000 in
/-- c_min_15_22 -/
theorem c_min_15_22 (l : Launch) (G : xT) (M : xMem) (sz : Nat)  : xMet l G y_MTH_min (Cond.code y_MTH_min b_MTH_min 2 (Option.some Jvm.ClassFile.FieldType.int) :: x_tbl) { frames := 0, cells := 0, slots := 0, locals := 0 } [.int (nI 15), .int (nI 22)] M sz (fun u M' => u = some (.int (nI 15)) ∧ M' = M) (fun _ _ => False) := by
  refine xMet.ofF (by decide +kernel) (Nat.le_of_ble_eq_true rfl) ?_
  intro p e s m below meth c ls hC hr hnm hno hsz hw hl
  obtain ⟨hx, hb, hown, hts, hK, hml, hlk, hz⟩ := id hC
  have hl : lv_has ls 2 [(0, .int (nI 15)), (1, .int (nI 22))] := hl
  refine lv_iload_n hx hb d_MTH_min_0 rfl (lv_at hl 0 rfl) ?_
  refine lv_iload_n hx hb d_MTH_min_1 rfl (lv_at hl 1 rfl) ?_
  refine lv_icmp_gt (tgt := 9) hx hb d_MTH_min_2 (by decide) (fun c_2 => ?_) (fun c_2 => ?_)
  · exact absurd c_2 (by decide +kernel)
  · refine lv_iload_n hx hb d_MTH_min_5 rfl (lv_at hl 0 rfl) ?_
    refine lv_goto (tgt := 10) hx hb d_MTH_min_6 (by decide) ?_
    exact x_iret hC hr hw (⟨rfl, rfl⟩) (Nat.le_of_ble_eq_true rfl) (Nat.le_of_ble_eq_true rfl) d_MTH_min_10

set_option maxHeartbeats 400000 in
set_option maxRecDepth 100000 in
/-- newLength 10 -/
theorem c_ASP_newLength_10 (l : Launch) (G : xT) (M : xMem) (sz : Nat)  : xMet l G y_ASP_newLength (Cond.code y_ASP_newLength b_ASP_newLength 4 (Option.some Jvm.ClassFile.FieldType.int) :: x_tbl) { frames := 1, cells := 0, slots := 0, locals := 21 } [.int (nI 10), .int (nI 1), .int (nI 5)] M sz (fun u M' => u = some (.int (nI 15)) ∧ M' = M) (fun _ _ => False) := by
  refine xMet.of (by decide) (Nat.le_of_ble_eq_true rfl) ?_
  intro p e s m below meth c ls hC hr hnm hno hsz hw hl
  obtain ⟨hx, hb, hown, hts, hK, hml, hlk, hz⟩ := id hC
  have hl : lv_has ls 4 [(0, .int (nI 10)), (1, .int (nI 1)), (2, .int (nI 5))] := hl
  refine lv_iload_n hx hb d_ASP_newLength_0 rfl (lv_at hl 0 rfl) ?_
  refine lv_iload_n hx hb d_ASP_newLength_1 rfl (lv_at hl 1 rfl) ?_
  refine lv_iload_n hx hb d_ASP_newLength_2 rfl (lv_at hl 2 rfl) ?_
  refine x_callG hC (c_max_1_5 l G M (Array.size s.heap) ) k_137 k_10 ⟨Nat.le_of_ble_eq_true rfl, Nat.le_of_ble_eq_true rfl⟩ ⟨Nat.le_of_ble_eq_true rfl, Nat.le_of_ble_eq_true rfl⟩ hw hl.1 (Nat.le_of_ble_eq_true rfl) d_ASP_newLength_3 (x_ivS hC k_137 k_135 k_136 k_10 (show _ ∧ _ ∧ _ = some 2 from by decide +kernel) rfl d_ASP_newLength_3) (fun rv M1 H locs hq hw => ?_) (fun _ _ _ _ _ h _ _ => h.elim)
  obtain ⟨rfl, hM⟩ := hq
  subst M1
  refine W.eq (g2 := F0 m 6 ls [.int (nI 5), .int (nI 10)]) rfl ?_
  refine lv_iadd hx hb d_ASP_newLength_6 ?_
  refine x_vi (y := nI 15) (by decide +kernel) ?_
  refine lv_istore_n (lv' := [(3, .int (nI 15)), (0, .int (nI 10)), (1, .int (nI 1)), (2, .int (nI 5))]) hx hb d_ASP_newLength_7 rfl hl (by decide) rfl (fun ls hl => ?_)
  refine lv_iconst (v := nI 0) hx hb d_ASP_newLength_8 (by decide) ?_
  refine lv_iload_n hx hb d_ASP_newLength_9 rfl (lv_at hl 0 rfl) ?_
  refine lv_icmp_ge (tgt := 21) hx hb d_ASP_newLength_10 (by decide) (fun c_10 => ?_) (fun c_10 => ?_)
  · exact absurd c_10 (by decide +kernel)
  · refine lv_iload_n hx hb d_ASP_newLength_13 rfl (lv_at hl 0 rfl) ?_
    refine lv_ldc hx hb hown (hts _ k_138) d_ASP_newLength_14 ?_
    refine x_vi (y := nI 2147483639) (by decide +kernel) ?_
    refine lv_icmp_gt (tgt := 21) hx hb d_ASP_newLength_16 (by decide) (fun c_16 => ?_) (fun c_16 => ?_)
    · exact absurd c_16 (by decide +kernel)
    · refine lv_iload_n hx hb d_ASP_newLength_19 rfl (lv_at hl 0 rfl) ?_
      exact x_iret hC hr hw (⟨rfl, rfl⟩) (Nat.le_of_ble_eq_true rfl) (Nat.le_of_ble_eq_true rfl) d_ASP_newLength_20

set_option maxHeartbeats 400000 in
set_option maxRecDepth 100000 in
/-- copyOf 10 -/
theorem c_ARS_copyOf2_10 (l : Launch) (G : xT) (M : xMem) (sz : Nat) (el : Nat) (f : Nat → Option Nat) (ci N : Nat) (C : String) (T : u_T) (hc : classes[ci]? = some (C, T, N)) (hca : Cond.castable C "java/lang/Object" ∈ x_tbl) (hci : ci ≠ 8) (hel : elP M ci 10 f) (h_el : M el = some (.inl (G.2.1 3, 10, .inr (.inr (.inr (.inr f)))))) : xMet l G y_ARS_copyOf2 (Cond.code y_ARS_copyOf2 b_ARS_copyOf2 4 (Option.some (Jvm.ClassFile.FieldType.array (Jvm.ClassFile.FieldType.object "java/lang/Object"))) :: x_tbl) { frames := 1, cells := 1, slots := 15, locals := 40 } [.ref el, .int (nI 15), .ref (G.2.1 9)] M sz (fun u M' => ∃ q, ∃ g : Nat → Option Nat, u = some (.ref q) ∧ M q = none ∧ M' q = some (.inl (G.2.1 3, 15, .inr (.inr (.inr (.inr g))))) ∧ (∀ i, i < 10 → g i = f i) ∧ xfr M M' []) (fun _ _ => False) := by
  refine xMet.of (by decide) (Nat.le_of_ble_eq_true rfl) ?_
  intro p e s m below meth c ls hC hr hnm hno hsz hw hl
  obtain ⟨hx, hb, hown, hts, hK, hml, hlk, hz⟩ := id hC
  have hl : lv_has ls 4 [(0, .ref el), (1, .int (nI 15)), (2, .ref (G.2.1 9))] := hl
  have hF : xfr M M [] := xfr.rf
  refine lv_aload_n hx hb d_ARS_copyOf2_0 rfl (lv_at hl 2 rfl) ?_
  refine va_ldcM hx hb hown (hts _ k_165) hz.2.2.2.2.2.2.1 d_ARS_copyOf2_1 ?_
  refine lv_acmp_ne (rx := some (G.2.1 9)) (ry := some (G.2.1 9)) (tgt := 13) hx hb d_ARS_copyOf2_3 (by decide) (fun c => absurd rfl c) (fun _ => ?_)
  refine lv_iload_n hx hb d_ARS_copyOf2_6 rfl (lv_at hl 1 rfl) ?_
  have hel0 := hel
  refine x_newq (N' := 15) hC hw (hts _ k_167) (hts _ k_166) 3 rfl (by decide +kernel) (by decide +kernel) (by decide +kernel) (Nat.le_of_ble_eq_true rfl) (Nat.le_of_ble_eq_true rfl) d_ARS_copyOf2_7 (fun q1 M2 H hn em fr hw => ?_)
  have ne_h_el_q1 : el ≠ q1 := x_neN h_el hn
  have h_el := (fr _ ne_h_el_q1).trans h_el
  have h_q1 := em
  have hn_q1 := hF.none hn
  have hF := hF.put em fr (Or.inr hn)
  have hel1 := hel0.new hn fr
  refine lv_goto (tgt := 24) hx hb d_ARS_copyOf2_10 (by decide) ?_
  refine lv_astore_n (lv' := [(3, .ref q1), (0, .ref el), (1, .int (nI 15)), (2, .ref (G.2.1 9))]) hx hb d_ARS_copyOf2_24 rfl hl (by decide) rfl (fun ls hl => ?_)
  refine lv_aload_n hx hb d_ARS_copyOf2_25 rfl (lv_at hl 1 rfl) ?_
  refine lv_iconst (v := nI 0) hx hb d_ARS_copyOf2_26 (by decide) ?_
  refine lv_aload_n hx hb d_ARS_copyOf2_27 rfl (lv_at hl 0 rfl) ?_
  refine lv_iconst (v := nI 0) hx hb d_ARS_copyOf2_28 (by decide) ?_
  refine lv_aload_n hx hb d_ARS_copyOf2_29 rfl (lv_at hl 1 rfl) ?_
  refine x_alen (v := nI 10) hC hw h_el (t0 := 3) rfl rfl d_ARS_copyOf2_30 ?_
  refine lv_iload_n hx hb d_ARS_copyOf2_31 rfl (lv_at hl 2 rfl) ?_
  refine x_callG hC (c_min_10_15 l G M2 (Array.size H) ) k_170 k_10 ⟨Nat.le_of_ble_eq_true rfl, Nat.le_of_ble_eq_true rfl⟩ ⟨Nat.le_of_ble_eq_true rfl, Nat.le_of_ble_eq_true rfl⟩ hw hl.1 (Nat.le_of_ble_eq_true rfl) d_ARS_copyOf2_32 (x_ivS hC k_170 k_168 k_169 k_10 (show _ ∧ _ ∧ _ = some 2 from by decide +kernel) rfl d_ARS_copyOf2_32) (fun rv M3 H locs hq hw => ?_) (fun _ _ _ _ _ h _ _ => h.elim)
  obtain ⟨rfl, hM⟩ := hq
  subst M3
  refine W.eq (g2 := F0 m 35 ls [.int (nI 10), .int (nI 0), .ref q1, .int (nI 0), .ref el]) rfl ?_
  have hel := hel1
  refine x_copyq hC hw k_171 h_el h_q1 (k := 10) (by decide) (by decide) (by decide) hc hca hel hl.1 (Nat.le_of_ble_eq_true rfl) (Nat.le_of_ble_eq_true rfl) d_ARS_copyOf2_35 (fun M4 H locs g1 hg1 em fr hw => ?_)
  have h_el := (fr _ ne_h_el_q1).trans h_el
  have h_q1 := em
  have hF := hF.trans (xfr.rf.put em fr (Or.inl (List.mem_singleton.mpr rfl)) : xfr _ _ [q1]) (by intro z hz; rw [List.mem_singleton.mp hz]; exact Or.inr hn_q1)
  refine lv_aload_n hx hb d_ARS_copyOf2_38 rfl (lv_at hl 0 rfl) ?_
  exact x_aret hC hr (Or.inr ⟨_, rfl⟩) hw (Or.inr ⟨_, rfl⟩) (⟨_, g1, rfl, hn_q1, h_q1, hg1, hF⟩) (Nat.le_of_ble_eq_true rfl) (Nat.le_of_ble_eq_true rfl) d_ARS_copyOf2_39

set_option maxHeartbeats 400000 in
set_option maxRecDepth 100000 in
/-- copyOf 10 -/
theorem c_ARS_copyOf_10 (l : Launch) (G : xT) (M : xMem) (sz : Nat) (el : Nat) (f : Nat → Option Nat) (ci N : Nat) (C : String) (T : u_T) (hc : classes[ci]? = some (C, T, N)) (hca : Cond.castable C "java/lang/Object" ∈ x_tbl) (hci : ci ≠ 8) (hel : elP M ci 10 f) (h_el : M el = some (.inl (G.2.1 3, 10, .inr (.inr (.inr (.inr f)))))) : xMet l G y_ARS_copyOf (Cond.code y_ARS_copyOf b_ARS_copyOf 2 (Option.some (Jvm.ClassFile.FieldType.array (Jvm.ClassFile.FieldType.object "java/lang/Object"))) :: x_tbl) { frames := 2, cells := 1, slots := 15, locals := 63 } [.ref el, .int (nI 15)] M sz (fun u M' => ∃ q, ∃ g : Nat → Option Nat, u = some (.ref q) ∧ M q = none ∧ M' q = some (.inl (G.2.1 3, 15, .inr (.inr (.inr (.inr g))))) ∧ (∀ i, i < 10 → g i = f i) ∧ xfr M M' []) (fun _ _ => False) := by
  refine xMet.of (by decide) (Nat.le_of_ble_eq_true rfl) ?_
  intro p e s m below meth c ls hC hr hnm hno hsz hw hl
  obtain ⟨hx, hb, hown, hts, hK, hml, hlk, hz⟩ := id hC
  have hl : lv_has ls 2 [(0, .ref el), (1, .int (nI 15))] := hl
  have hF : xfr M M [] := xfr.rf
  refine lv_aload_n hx hb d_ARS_copyOf_0 rfl (lv_at hl 0 rfl) ?_
  refine lv_iload_n hx hb d_ARS_copyOf_1 rfl (lv_at hl 1 rfl) ?_
  refine lv_aload_n hx hb d_ARS_copyOf_2 rfl (lv_at hl 0 rfl) ?_
  refine va_getC hx hb (by rw [hml, hl.1]) hown (hts _ k_145) (hts _ k_981) (hts _ k_980) (hts _ k_146) (hts _ k_161) hz.2.2.2.2.2.2.1 (x_recvA hC hw h_el) (Nat.le_of_ble_eq_true rfl) (Nat.le_of_ble_eq_true rfl) d_ARS_copyOf_3 ?_
  refine x_callG hC (c_ARS_copyOf2_10 l G M (Array.size s.heap) el f ci N C T hc hca hci hel h_el) k_164 k_11 ⟨Nat.le_of_ble_eq_true rfl, Nat.le_of_ble_eq_true rfl⟩ ⟨Nat.le_of_ble_eq_true rfl, Nat.le_of_ble_eq_true rfl⟩ hw hl.1 (Nat.le_of_ble_eq_true rfl) d_ARS_copyOf_6 (x_ivS hC k_164 k_162 k_163 k_11 (show _ ∧ _ ∧ _ = some 3 from by decide +kernel) rfl d_ARS_copyOf_6) (fun rv M1 H locs hq hw => ?_) (fun _ _ _ _ _ h _ _ => h.elim)
  obtain ⟨q, g1, rfl, hn_q, h_q, hg1, fr⟩ := hq
  have hF := hF.trans fr (by intro z hz; cases hz)
  have h_el := fr.get h_el (by simp [])
  refine W.eq (g2 := F0 m 9 ls [.ref q]) rfl ?_
  exact x_aret hC hr (Or.inr ⟨_, rfl⟩) hw (Or.inr ⟨_, rfl⟩) (⟨_, g1, rfl, hn_q, h_q, hg1, hF⟩) (Nat.le_of_ble_eq_true rfl) (Nat.le_of_ble_eq_true rfl) d_ARS_copyOf_9

set_option maxHeartbeats 400000 in
set_option maxRecDepth 100000 in
/-- newLength 15 -/
theorem c_ASP_newLength_15 (l : Launch) (G : xT) (M : xMem) (sz : Nat)  : xMet l G y_ASP_newLength (Cond.code y_ASP_newLength b_ASP_newLength 4 (Option.some Jvm.ClassFile.FieldType.int) :: x_tbl) { frames := 1, cells := 0, slots := 0, locals := 21 } [.int (nI 15), .int (nI 1), .int (nI 7)] M sz (fun u M' => u = some (.int (nI 22)) ∧ M' = M) (fun _ _ => False) := by
  refine xMet.of (by decide) (Nat.le_of_ble_eq_true rfl) ?_
  intro p e s m below meth c ls hC hr hnm hno hsz hw hl
  obtain ⟨hx, hb, hown, hts, hK, hml, hlk, hz⟩ := id hC
  have hl : lv_has ls 4 [(0, .int (nI 15)), (1, .int (nI 1)), (2, .int (nI 7))] := hl
  refine lv_iload_n hx hb d_ASP_newLength_0 rfl (lv_at hl 0 rfl) ?_
  refine lv_iload_n hx hb d_ASP_newLength_1 rfl (lv_at hl 1 rfl) ?_
  refine lv_iload_n hx hb d_ASP_newLength_2 rfl (lv_at hl 2 rfl) ?_
  refine x_callG hC (c_max_1_7 l G M (Array.size s.heap) ) k_137 k_10 ⟨Nat.le_of_ble_eq_true rfl, Nat.le_of_ble_eq_true rfl⟩ ⟨Nat.le_of_ble_eq_true rfl, Nat.le_of_ble_eq_true rfl⟩ hw hl.1 (Nat.le_of_ble_eq_true rfl) d_ASP_newLength_3 (x_ivS hC k_137 k_135 k_136 k_10 (show _ ∧ _ ∧ _ = some 2 from by decide +kernel) rfl d_ASP_newLength_3) (fun rv M1 H locs hq hw => ?_) (fun _ _ _ _ _ h _ _ => h.elim)
  obtain ⟨rfl, hM⟩ := hq
  subst M1
  refine W.eq (g2 := F0 m 6 ls [.int (nI 7), .int (nI 15)]) rfl ?_
  refine lv_iadd hx hb d_ASP_newLength_6 ?_
  refine x_vi (y := nI 22) (by decide +kernel) ?_
  refine lv_istore_n (lv' := [(3, .int (nI 22)), (0, .int (nI 15)), (1, .int (nI 1)), (2, .int (nI 7))]) hx hb d_ASP_newLength_7 rfl hl (by decide) rfl (fun ls hl => ?_)
  refine lv_iconst (v := nI 0) hx hb d_ASP_newLength_8 (by decide) ?_
  refine lv_iload_n hx hb d_ASP_newLength_9 rfl (lv_at hl 0 rfl) ?_
  refine lv_icmp_ge (tgt := 21) hx hb d_ASP_newLength_10 (by decide) (fun c_10 => ?_) (fun c_10 => ?_)
  · exact absurd c_10 (by decide +kernel)
  · refine lv_iload_n hx hb d_ASP_newLength_13 rfl (lv_at hl 0 rfl) ?_
    refine lv_ldc hx hb hown (hts _ k_138) d_ASP_newLength_14 ?_
    refine x_vi (y := nI 2147483639) (by decide +kernel) ?_
    refine lv_icmp_gt (tgt := 21) hx hb d_ASP_newLength_16 (by decide) (fun c_16 => ?_) (fun c_16 => ?_)
    · exact absurd c_16 (by decide +kernel)
    · refine lv_iload_n hx hb d_ASP_newLength_19 rfl (lv_at hl 0 rfl) ?_
      exact x_iret hC hr hw (⟨rfl, rfl⟩) (Nat.le_of_ble_eq_true rfl) (Nat.le_of_ble_eq_true rfl) d_ASP_newLength_20

set_option maxHeartbeats 400000 in
set_option maxRecDepth 100000 in
/-- copyOf 15 -/
theorem c_ARS_copyOf2_15 (l : Launch) (G : xT) (M : xMem) (sz : Nat) (el : Nat) (f : Nat → Option Nat) (ci N : Nat) (C : String) (T : u_T) (hc : classes[ci]? = some (C, T, N)) (hca : Cond.castable C "java/lang/Object" ∈ x_tbl) (hci : ci ≠ 8) (hel : elP M ci 15 f) (h_el : M el = some (.inl (G.2.1 3, 15, .inr (.inr (.inr (.inr f)))))) : xMet l G y_ARS_copyOf2 (Cond.code y_ARS_copyOf2 b_ARS_copyOf2 4 (Option.some (Jvm.ClassFile.FieldType.array (Jvm.ClassFile.FieldType.object "java/lang/Object"))) :: x_tbl) { frames := 1, cells := 1, slots := 22, locals := 40 } [.ref el, .int (nI 22), .ref (G.2.1 9)] M sz (fun u M' => ∃ q, ∃ g : Nat → Option Nat, u = some (.ref q) ∧ M q = none ∧ M' q = some (.inl (G.2.1 3, 22, .inr (.inr (.inr (.inr g))))) ∧ (∀ i, i < 15 → g i = f i) ∧ xfr M M' []) (fun _ _ => False) := by
  refine xMet.of (by decide) (Nat.le_of_ble_eq_true rfl) ?_
  intro p e s m below meth c ls hC hr hnm hno hsz hw hl
  obtain ⟨hx, hb, hown, hts, hK, hml, hlk, hz⟩ := id hC
  have hl : lv_has ls 4 [(0, .ref el), (1, .int (nI 22)), (2, .ref (G.2.1 9))] := hl
  have hF : xfr M M [] := xfr.rf
  refine lv_aload_n hx hb d_ARS_copyOf2_0 rfl (lv_at hl 2 rfl) ?_
  refine va_ldcM hx hb hown (hts _ k_165) hz.2.2.2.2.2.2.1 d_ARS_copyOf2_1 ?_
  refine lv_acmp_ne (rx := some (G.2.1 9)) (ry := some (G.2.1 9)) (tgt := 13) hx hb d_ARS_copyOf2_3 (by decide) (fun c => absurd rfl c) (fun _ => ?_)
  refine lv_iload_n hx hb d_ARS_copyOf2_6 rfl (lv_at hl 1 rfl) ?_
  have hel0 := hel
  refine x_newq (N' := 22) hC hw (hts _ k_167) (hts _ k_166) 3 rfl (by decide +kernel) (by decide +kernel) (by decide +kernel) (Nat.le_of_ble_eq_true rfl) (Nat.le_of_ble_eq_true rfl) d_ARS_copyOf2_7 (fun q1 M2 H hn em fr hw => ?_)
  have ne_h_el_q1 : el ≠ q1 := x_neN h_el hn
  have h_el := (fr _ ne_h_el_q1).trans h_el
  have h_q1 := em
  have hn_q1 := hF.none hn
  have hF := hF.put em fr (Or.inr hn)
  have hel1 := hel0.new hn fr
  refine lv_goto (tgt := 24) hx hb d_ARS_copyOf2_10 (by decide) ?_
  refine lv_astore_n (lv' := [(3, .ref q1), (0, .ref el), (1, .int (nI 22)), (2, .ref (G.2.1 9))]) hx hb d_ARS_copyOf2_24 rfl hl (by decide) rfl (fun ls hl => ?_)
  refine lv_aload_n hx hb d_ARS_copyOf2_25 rfl (lv_at hl 1 rfl) ?_
  refine lv_iconst (v := nI 0) hx hb d_ARS_copyOf2_26 (by decide) ?_
  refine lv_aload_n hx hb d_ARS_copyOf2_27 rfl (lv_at hl 0 rfl) ?_
  refine lv_iconst (v := nI 0) hx hb d_ARS_copyOf2_28 (by decide) ?_
  refine lv_aload_n hx hb d_ARS_copyOf2_29 rfl (lv_at hl 1 rfl) ?_
  refine x_alen (v := nI 15) hC hw h_el (t0 := 3) rfl rfl d_ARS_copyOf2_30 ?_
  refine lv_iload_n hx hb d_ARS_copyOf2_31 rfl (lv_at hl 2 rfl) ?_
  refine x_callG hC (c_min_15_22 l G M2 (Array.size H) ) k_170 k_10 ⟨Nat.le_of_ble_eq_true rfl, Nat.le_of_ble_eq_true rfl⟩ ⟨Nat.le_of_ble_eq_true rfl, Nat.le_of_ble_eq_true rfl⟩ hw hl.1 (Nat.le_of_ble_eq_true rfl) d_ARS_copyOf2_32 (x_ivS hC k_170 k_168 k_169 k_10 (show _ ∧ _ ∧ _ = some 2 from by decide +kernel) rfl d_ARS_copyOf2_32) (fun rv M3 H locs hq hw => ?_) (fun _ _ _ _ _ h _ _ => h.elim)
  obtain ⟨rfl, hM⟩ := hq
  subst M3
  refine W.eq (g2 := F0 m 35 ls [.int (nI 15), .int (nI 0), .ref q1, .int (nI 0), .ref el]) rfl ?_
  have hel := hel1
  refine x_copyq hC hw k_171 h_el h_q1 (k := 15) (by decide) (by decide) (by decide) hc hca hel hl.1 (Nat.le_of_ble_eq_true rfl) (Nat.le_of_ble_eq_true rfl) d_ARS_copyOf2_35 (fun M4 H locs g1 hg1 em fr hw => ?_)
  have h_el := (fr _ ne_h_el_q1).trans h_el
  have h_q1 := em
  have hF := hF.trans (xfr.rf.put em fr (Or.inl (List.mem_singleton.mpr rfl)) : xfr _ _ [q1]) (by intro z hz; rw [List.mem_singleton.mp hz]; exact Or.inr hn_q1)
  refine lv_aload_n hx hb d_ARS_copyOf2_38 rfl (lv_at hl 0 rfl) ?_
  exact x_aret hC hr (Or.inr ⟨_, rfl⟩) hw (Or.inr ⟨_, rfl⟩) (⟨_, g1, rfl, hn_q1, h_q1, hg1, hF⟩) (Nat.le_of_ble_eq_true rfl) (Nat.le_of_ble_eq_true rfl) d_ARS_copyOf2_39

set_option maxHeartbeats 400000 in
set_option maxRecDepth 100000 in
/-- copyOf 15 -/
theorem c_ARS_copyOf_15 (l : Launch) (G : xT) (M : xMem) (sz : Nat) (el : Nat) (f : Nat → Option Nat) (ci N : Nat) (C : String) (T : u_T) (hc : classes[ci]? = some (C, T, N)) (hca : Cond.castable C "java/lang/Object" ∈ x_tbl) (hci : ci ≠ 8) (hel : elP M ci 15 f) (h_el : M el = some (.inl (G.2.1 3, 15, .inr (.inr (.inr (.inr f)))))) : xMet l G y_ARS_copyOf (Cond.code y_ARS_copyOf b_ARS_copyOf 2 (Option.some (Jvm.ClassFile.FieldType.array (Jvm.ClassFile.FieldType.object "java/lang/Object"))) :: x_tbl) { frames := 2, cells := 1, slots := 22, locals := 63 } [.ref el, .int (nI 22)] M sz (fun u M' => ∃ q, ∃ g : Nat → Option Nat, u = some (.ref q) ∧ M q = none ∧ M' q = some (.inl (G.2.1 3, 22, .inr (.inr (.inr (.inr g))))) ∧ (∀ i, i < 15 → g i = f i) ∧ xfr M M' []) (fun _ _ => False) := by
  refine xMet.of (by decide) (Nat.le_of_ble_eq_true rfl) ?_
  intro p e s m below meth c ls hC hr hnm hno hsz hw hl
  obtain ⟨hx, hb, hown, hts, hK, hml, hlk, hz⟩ := id hC
  have hl : lv_has ls 2 [(0, .ref el), (1, .int (nI 22))] := hl
  have hF : xfr M M [] := xfr.rf
  refine lv_aload_n hx hb d_ARS_copyOf_0 rfl (lv_at hl 0 rfl) ?_
  refine lv_iload_n hx hb d_ARS_copyOf_1 rfl (lv_at hl 1 rfl) ?_
  refine lv_aload_n hx hb d_ARS_copyOf_2 rfl (lv_at hl 0 rfl) ?_
  refine va_getC hx hb (by rw [hml, hl.1]) hown (hts _ k_145) (hts _ k_981) (hts _ k_980) (hts _ k_146) (hts _ k_161) hz.2.2.2.2.2.2.1 (x_recvA hC hw h_el) (Nat.le_of_ble_eq_true rfl) (Nat.le_of_ble_eq_true rfl) d_ARS_copyOf_3 ?_
  refine x_callG hC (c_ARS_copyOf2_15 l G M (Array.size s.heap) el f ci N C T hc hca hci hel h_el) k_164 k_11 ⟨Nat.le_of_ble_eq_true rfl, Nat.le_of_ble_eq_true rfl⟩ ⟨Nat.le_of_ble_eq_true rfl, Nat.le_of_ble_eq_true rfl⟩ hw hl.1 (Nat.le_of_ble_eq_true rfl) d_ARS_copyOf_6 (x_ivS hC k_164 k_162 k_163 k_11 (show _ ∧ _ ∧ _ = some 3 from by decide +kernel) rfl d_ARS_copyOf_6) (fun rv M1 H locs hq hw => ?_) (fun _ _ _ _ _ h _ _ => h.elim)
  obtain ⟨q, g1, rfl, hn_q, h_q, hg1, fr⟩ := hq
  have hF := hF.trans fr (by intro z hz; cases hz)
  have h_el := fr.get h_el (by simp [])
  refine W.eq (g2 := F0 m 9 ls [.ref q]) rfl ?_
  exact x_aret hC hr (Or.inr ⟨_, rfl⟩) hw (Or.inr ⟨_, rfl⟩) (⟨_, g1, rfl, hn_q, h_q, hg1, hF⟩) (Nat.le_of_ble_eq_true rfl) (Nat.le_of_ble_eq_true rfl) d_ARS_copyOf_9

set_option maxHeartbeats 400000 in
set_option maxRecDepth 100000 in
/-- grow 0 -/
theorem c_AL_grow2_0 (l : Launch) (G : xT) (M : xMem) (sz : Nat) (la fz : Nat) (hfz : ("java/util/ArrayList", "DEFAULTCAPACITY_EMPTY_ELEMENTDATA", "[Ljava/lang/Object;", .ref fz) ∈ G.2.2.2) (hzP : fzP G fz) (mc : Int32) (f : Nat → Option Nat) (ci N : Nat) (C : String) (T : u_T) (hc : classes[ci]? = some (C, T, N)) (hca : Cond.castable C "java/lang/Object" ∈ x_tbl) (hci : ci ≠ 8) (hel : elP M ci 0 f) (h_la : M la = some (.inr (8, [.ref fz, .int (nI 0), .int mc]))) : xMet l G y_AL_grow2 (Cond.code y_AL_grow2 b_AL_grow2 4 (Option.some (Jvm.ClassFile.FieldType.array (Jvm.ClassFile.FieldType.object "java/lang/Object"))) :: x_tbl) { frames := 1, cells := 1, slots := 10, locals := 21 } [.ref la, .int (nI 1)] M sz (fun u M' => ∃ q, ∃ g : Nat → Option Nat, u = some (.ref q) ∧ M q = none ∧ M' la = some (.inr (8, [.ref q, .int (nI 0), .int mc])) ∧ M' q = some (.inl (G.2.1 3, 10, .inr (.inr (.inr (.inr g))))) ∧ (∀ i, i < 0 → g i = f i) ∧ xfr M M' [la]) (fun _ _ => False) := by
  refine xMet.of (by decide) (Nat.le_of_ble_eq_true rfl) ?_
  intro p e s m below meth c ls hC hr hnm hno hsz hw hl
  obtain ⟨hx, hb, hown, hts, hK, hml, hlk, hz⟩ := id hC
  have hl : lv_has ls 4 [(0, .ref la), (1, .int (nI 1))] := hl
  have hF : xfr M M [la] := xfr.rf
  refine lv_aload_n hx hb d_AL_grow2_0 rfl (lv_at hl 0 rfl) ?_
  refine x_get hC hw h_la rfl 0 (by decide) (hts _ k_49) (fun _ h9 => h9) rfl d_AL_grow2_1 ?_
  refine x_flen hC hw hzP d_AL_grow2_4 ?_
  refine lv_istore_n (lv' := [(2, .int (nI 0)), (0, .ref la), (1, .int (nI 1))]) hx hb d_AL_grow2_5 rfl hl (by decide) rfl (fun ls hl => ?_)
  refine lv_iload_n hx hb d_AL_grow2_6 rfl (lv_at hl 0 rfl) ?_
  refine lv_if_gt (tgt := 20) hx hb d_AL_grow2_7 (by decide) (fun c_7 => ?_) (fun c_7 => ?_)
  · exact absurd c_7 (by decide +kernel)
  · refine lv_aload_n hx hb d_AL_grow2_10 rfl (lv_at hl 1 rfl) ?_
    refine x_get hC hw h_la rfl 0 (by decide) (hts _ k_49) (fun _ h9 => h9) rfl d_AL_grow2_11 ?_
    refine x_gets (H0 := s.heap) hC hw hfz (hts _ k_47) (fun _ h9 => h9) d_AL_grow2_14 ?_
    refine lv_acmp_eq (rx := some fz) (ry := some fz) (tgt := 45) hx hb d_AL_grow2_17 (by decide) (fun _ => ?_) (fun c => absurd rfl c)
    refine lv_aload_n hx hb d_AL_grow2_45 rfl (lv_at hl 1 rfl) ?_
    refine lv_bipush (v := nI 10) hx hb d_AL_grow2_46 (by decide) ?_
    refine lv_iload_n hx hb d_AL_grow2_48 rfl (lv_at hl 2 rfl) ?_
    refine x_callG hC (c_max_10_1 l G M (Array.size s.heap) ) k_137 k_10 ⟨Nat.le_of_ble_eq_true rfl, Nat.le_of_ble_eq_true rfl⟩ ⟨Nat.le_of_ble_eq_true rfl, Nat.le_of_ble_eq_true rfl⟩ hw hl.1 (Nat.le_of_ble_eq_true rfl) d_AL_grow2_49 (x_ivS hC k_137 k_174 k_136 k_10 (show _ ∧ _ ∧ _ = some 2 from by decide +kernel) rfl d_AL_grow2_49) (fun rv M1 H locs hq hw => ?_) (fun _ _ _ _ _ h _ _ => h.elim)
    obtain ⟨rfl, hM⟩ := hq
    subst M1
    refine W.eq (g2 := F0 m 52 ls [.int (nI 10), .ref la]) rfl ?_
    refine x_newq (N' := 10) hC hw (hts _ k_175) (hts _ k_166) 3 rfl (by decide +kernel) (by decide +kernel) (by decide +kernel) (Nat.le_of_ble_eq_true rfl) (Nat.le_of_ble_eq_true rfl) d_AL_grow2_52 (fun q2 M3 H hn em fr hw => ?_)
    have ne_h_la_q2 : la ≠ q2 := x_neN h_la hn
    have h_la := (fr _ ne_h_la_q2).trans h_la
    have h_q2 := em
    have hn_q2 := hF.none hn
    have hF := hF.put em fr (Or.inr hn)
    refine lv_dup_x1 hx hb d_AL_grow2_55 rfl rfl ?_
    refine x_put (ty := .array (.object "java/lang/Object")) hC hw h_la rfl 0 (by decide) (hts _ k_49) (fun _ h9 => h9) rfl (by decide +kernel) rfl rfl (Nat.le_of_ble_eq_true rfl) d_AL_grow2_56 (fun M4 H locs em fr hw => ?_)
    have em : M4 la = some (.inr (8, [.ref q2, .int (nI 0), .int mc])) := em
    have h_q2 := (fr _ (Ne.symm ne_h_la_q2)).trans h_q2
    have h_la := em
    have hF := hF.put em fr (Or.inl (by simp))
    exact x_aret hC hr (Or.inr ⟨_, rfl⟩) hw (Or.inr ⟨_, rfl⟩) (⟨_, _, rfl, hn_q2, h_la, h_q2, fun i hi => absurd hi (Nat.not_lt_zero i), hF⟩) (Nat.le_of_ble_eq_true rfl) (Nat.le_of_ble_eq_true rfl) d_AL_grow2_59

set_option maxHeartbeats 400000 in
set_option maxRecDepth 100000 in
/-- grow 0 -/
theorem c_AL_grow_0 (l : Launch) (G : xT) (M : xMem) (sz : Nat) (la fz : Nat) (hfz : ("java/util/ArrayList", "DEFAULTCAPACITY_EMPTY_ELEMENTDATA", "[Ljava/lang/Object;", .ref fz) ∈ G.2.2.2) (hzP : fzP G fz) (mc : Int32) (f : Nat → Option Nat) (ci N : Nat) (C : String) (T : u_T) (hc : classes[ci]? = some (C, T, N)) (hca : Cond.castable C "java/lang/Object" ∈ x_tbl) (hci : ci ≠ 8) (hel : elP M ci 0 f) (h_la : M la = some (.inr (8, [.ref fz, .int (nI 0), .int mc]))) : xMet l G y_AL_grow (Cond.code y_AL_grow b_AL_grow 1 (Option.some (Jvm.ClassFile.FieldType.array (Jvm.ClassFile.FieldType.object "java/lang/Object"))) :: x_tbl) { frames := 2, cells := 1, slots := 10, locals := 44 } [.ref la] M sz (fun u M' => ∃ q, ∃ g : Nat → Option Nat, u = some (.ref q) ∧ M q = none ∧ M' la = some (.inr (8, [.ref q, .int (nI 0), .int mc])) ∧ M' q = some (.inl (G.2.1 3, 10, .inr (.inr (.inr (.inr g))))) ∧ (∀ i, i < 0 → g i = f i) ∧ xfr M M' [la]) (fun _ _ => False) := by
  refine xMet.of (by decide) (Nat.le_of_ble_eq_true rfl) ?_
  intro p e s m below meth c ls hC hr hnm hno hsz hw hl
  obtain ⟨hx, hb, hown, hts, hK, hml, hlk, hz⟩ := id hC
  have hl : lv_has ls 1 [(0, .ref la)] := hl
  have hF : xfr M M [la] := xfr.rf
  refine lv_aload_n hx hb d_AL_grow_0 rfl (lv_at hl 0 rfl) ?_
  refine lv_aload_n hx hb d_AL_grow_1 rfl (lv_at hl 0 rfl) ?_
  refine x_get hC hw h_la rfl 1 (by decide) (hts _ k_50) (fun _ h9 => h9) rfl d_AL_grow_2 ?_
  refine lv_iconst (v := nI 1) hx hb d_AL_grow_5 (by decide) ?_
  refine lv_iadd hx hb d_AL_grow_6 ?_
  refine x_vi (y := nI 1) (by decide +kernel) ?_
  refine x_callG hC (c_AL_grow2_0 l G M (Array.size s.heap) la fz hfz hzP mc f ci N C T hc hca hci hel h_la) k_131 k_4 ⟨Nat.le_of_ble_eq_true rfl, Nat.le_of_ble_eq_true rfl⟩ ⟨Nat.le_of_ble_eq_true rfl, Nat.le_of_ble_eq_true rfl⟩ hw hl.1 (Nat.le_of_ble_eq_true rfl) d_AL_grow_7 (x_ivV hC k_131 k_128 k_130 kp_2 (show _ ∧ _ ∧ _ = some 1 from by decide +kernel) (x_recv hC hw h_la rfl) rfl d_AL_grow_7) (fun rv M1 H locs hq hw => ?_) (fun _ _ _ _ _ h _ _ => h.elim)
  obtain ⟨q, g1, rfl, hn_q, h_la, h_q, hg1, fr⟩ := hq
  have hF := hF.trans fr (by intro z hz; exact Or.inl hz)
  refine W.eq (g2 := F0 m 10 ls [.ref q]) rfl ?_
  exact x_aret hC hr (Or.inr ⟨_, rfl⟩) hw (Or.inr ⟨_, rfl⟩) (⟨_, g1, rfl, hn_q, h_la, h_q, hg1, hF⟩) (Nat.le_of_ble_eq_true rfl) (Nat.le_of_ble_eq_true rfl) d_AL_grow_10

set_option maxHeartbeats 400000 in
set_option maxRecDepth 100000 in
/-- add 0 -/
theorem c_AL_add2_0 (l : Launch) (G : xT) (M : xMem) (sz : Nat) (la fz : Nat) (hfz : ("java/util/ArrayList", "DEFAULTCAPACITY_EMPTY_ELEMENTDATA", "[Ljava/lang/Object;", .ref fz) ∈ G.2.2.2) (hzP : fzP G fz) (mc : Int32) (f : Nat → Option Nat) (ci N : Nat) (C : String) (T : u_T) (hc : classes[ci]? = some (C, T, N)) (hca : Cond.castable C "java/lang/Object" ∈ x_tbl) (hci : ci ≠ 8) (hel : elP M ci 0 f) (h_la : M la = some (.inr (8, [.ref fz, .int (nI 0), .int mc]))) (v : Nat) (fsv : List Value) (hvl : v ≠ la) (h_v : M v = some (.inr (ci, fsv)))  : xMet l G y_AL_add2 (Cond.code y_AL_add2 b_AL_add2 4 none :: x_tbl) { frames := 3, cells := 1, slots := 10, locals := 64 } [.ref la, .ref v, .ref fz, .int (nI 0)] M sz (fun u M' => u = none ∧ ∃ q, ∃ g : Nat → Option Nat, M q = none ∧ M' la = some (.inr (8, [.ref q, .int (nI 1), .int mc])) ∧ M' q = some (.inl (G.2.1 3, 10, .inr (.inr (.inr (.inr g))))) ∧ (∀ i, i < 0 → g i = f i) ∧ g 0 = some v ∧ xfr M M' [la]) (fun _ _ => False) := by
  refine xMet.of (by decide) (Nat.le_of_ble_eq_true rfl) ?_
  intro p e s m below meth c ls hC hr hnm hno hsz hw hl
  obtain ⟨hx, hb, hown, hts, hK, hml, hlk, hz⟩ := id hC
  have hl : lv_has ls 4 [(0, .ref la), (1, .ref v), (2, .ref fz), (3, .int (nI 0))] := hl
  have hF : xfr M M [la] := xfr.rf
  have h_v0 := h_v
  have h_la0 := h_la
  refine lv_iload_n hx hb d_AL_add2_0 rfl (lv_at hl 3 rfl) ?_
  refine lv_aload_n hx hb d_AL_add2_1 rfl (lv_at hl 2 rfl) ?_
  refine x_flen hC hw hzP d_AL_add2_2 ?_
  refine lv_icmp_ne (tgt := 11) hx hb d_AL_add2_3 (by decide) (fun c_3 => ?_) (fun c_3 => ?_)
  · exact absurd c_3 (by decide +kernel)
  · refine lv_aload_n hx hb d_AL_add2_6 rfl (lv_at hl 0 rfl) ?_
    refine x_callG hC (c_AL_grow_0 l G M (Array.size s.heap) la fz hfz hzP mc f ci N C T hc hca hci hel h_la) k_127 k_4 ⟨Nat.le_of_ble_eq_true rfl, Nat.le_of_ble_eq_true rfl⟩ ⟨Nat.le_of_ble_eq_true rfl, Nat.le_of_ble_eq_true rfl⟩ hw hl.1 (Nat.le_of_ble_eq_true rfl) d_AL_add2_7 (x_ivV hC k_127 k_124 k_126 kp_1 (show _ ∧ _ ∧ _ = some 0 from by decide +kernel) (x_recv hC hw h_la rfl) rfl d_AL_add2_7) (fun rv M1 H locs hq hw => ?_) (fun _ _ _ _ _ h _ _ => h.elim)
    obtain ⟨q, g1, rfl, hn_q, h_la, h_q, hg1, fr⟩ := hq
    have hF := hF.trans fr (by intro z hz; exact Or.inl hz)
    have ne_vq : v ≠ q := x_neN h_v0 (hn_q)
    have ne_laq : la ≠ q := x_neN h_la0 hn_q
    have h_v := fr.get h_v (by simp [hvl])
    refine W.eq (g2 := F0 m 10 ls [.ref q]) rfl ?_
    refine lv_astore_n (lv' := [(2, .ref q), (0, .ref la), (1, .ref v), (3, .int (nI 0))]) hx hb d_AL_add2_10 rfl hl (by decide) rfl (fun ls hl => ?_)
    refine lv_aload_n hx hb d_AL_add2_11 rfl (lv_at hl 0 rfl) ?_
    refine lv_iload_n hx hb d_AL_add2_12 rfl (lv_at hl 3 rfl) ?_
    refine lv_aload_n hx hb d_AL_add2_13 rfl (lv_at hl 2 rfl) ?_
    refine x_aast (j := 0) hC hw h_q rfl h_v hc hca rfl (by omega) (by omega) d_AL_add2_14 (fun M2 H locs em fr hw => ?_)
    have h_la := (fr _ ne_laq).trans h_la
    have h_v := (fr _ ne_vq).trans h_v
    have h_q := em
    have hF := hF.trans (xfr.rf.put em fr (Or.inl (List.mem_singleton.mpr rfl)) : xfr _ _ [q]) (by intro z hz; rw [List.mem_singleton.mp hz]; exact Or.inr hn_q)
    refine lv_aload_n hx hb d_AL_add2_15 rfl (lv_at hl 1 rfl) ?_
    refine lv_iload_n hx hb d_AL_add2_16 rfl (lv_at hl 3 rfl) ?_
    refine lv_iconst (v := nI 1) hx hb d_AL_add2_17 (by decide) ?_
    refine lv_iadd hx hb d_AL_add2_18 ?_
    refine x_vi (y := nI 1) (by decide +kernel) ?_
    refine x_put (ty := .int) hC hw h_la rfl 1 (by decide) (hts _ k_50) (fun _ h9 => h9) rfl (by decide +kernel) rfl rfl (Nat.le_of_ble_eq_true rfl) d_AL_add2_19 (fun M3 H locs em fr hw => ?_)
    have em : M3 la = some (.inr (8, [.ref q, .int (nI 1), .int mc])) := em
    have h_v := (fr _ hvl).trans h_v
    have h_q := (fr _ (Ne.symm ne_laq)).trans h_q
    have h_la := em
    have hF := hF.put em fr (Or.inl (by simp))
    exact x_vret hC hr hw (⟨rfl, q, _, hn_q, h_la, h_q, (fun i hi => by rw [va_up_ne _ _ (by omega)]; exact hg1 i hi), va_up_self _ _ _, hF⟩) (Nat.le_of_ble_eq_true rfl) (Nat.le_of_ble_eq_true rfl) d_AL_add2_22

set_option maxHeartbeats 400000 in
set_option maxRecDepth 100000 in
/-- add 0 -/
theorem c_AL_add_0 (l : Launch) (G : xT) (M : xMem) (sz : Nat) (la fz : Nat) (hfz : ("java/util/ArrayList", "DEFAULTCAPACITY_EMPTY_ELEMENTDATA", "[Ljava/lang/Object;", .ref fz) ∈ G.2.2.2) (hzP : fzP G fz) (mc : Int32) (f : Nat → Option Nat) (ci N : Nat) (C : String) (T : u_T) (hc : classes[ci]? = some (C, T, N)) (hca : Cond.castable C "java/lang/Object" ∈ x_tbl) (hci : ci ≠ 8) (hel : elP M ci 0 f) (h_la : M la = some (.inr (8, [.ref fz, .int (nI 0), .int mc]))) (v : Nat) (fsv : List Value) (hvl : v ≠ la) (h_v : M v = some (.inr (ci, fsv)))  : xMet l G y_AL_add (Cond.code y_AL_add b_AL_add 2 (Option.some Jvm.ClassFile.FieldType.boolean) :: x_tbl) { frames := 6, cells := 1, slots := 22, locals := 151 } [.ref la, .ref v] M sz (fun u M' => u = some (.int (nI 1)) ∧ ∃ q, ∃ g : Nat → Option Nat, M q = none ∧ M' la = some (.inr (8, [.ref q, .int (nI 1), .int (mc + nI 1)])) ∧ M' q = some (.inl (G.2.1 3, 10, .inr (.inr (.inr (.inr g))))) ∧ (∀ i, i < 0 → g i = f i) ∧ g 0 = some v ∧ q ≠ fz ∧ xfr M M' [la]) (fun _ _ => False) := by
  refine xMet.of (by decide) (Nat.le_of_ble_eq_true rfl) ?_
  intro p e s m below meth c ls hC hr hnm hno hsz hw hl
  obtain ⟨hx, hb, hown, hts, hK, hml, hlk, hz⟩ := id hC
  have hl : lv_has ls 2 [(0, .ref la), (1, .ref v)] := hl
  have hF : xfr M M [la] := xfr.rf
  have h_la0 := h_la
  refine lv_aload_n hx hb d_AL_add_0 rfl (lv_at hl 0 rfl) ?_
  refine lv_dup hx hb d_AL_add_1 rfl ?_
  refine x_get hC hw h_la rfl 2 (by decide) (hts _ k_52) (u_same (hts _ k_53)) rfl d_AL_add_2 ?_
  refine lv_iconst (v := nI 1) hx hb d_AL_add_5 (by decide) ?_
  refine lv_iadd hx hb d_AL_add_6 ?_
  refine x_put (ty := .int) hC hw h_la rfl 2 (by decide) (hts _ k_52) (u_same (hts _ k_53)) rfl (by decide +kernel) rfl rfl (Nat.le_of_ble_eq_true rfl) d_AL_add_7 (fun M1 H locs em fr hw => ?_)
  have em : M1 la = some (.inr (8, [.ref fz, .int (nI 0), .int (mc + nI 1)])) := em
  have h_v := (fr _ hvl).trans h_v
  have h_la := em
  have hF := hF.put em fr (Or.inl (by simp))
  have frm := fr
  refine lv_aload_n hx hb d_AL_add_10 rfl (lv_at hl 0 rfl) ?_
  refine lv_aload_n hx hb d_AL_add_11 rfl (lv_at hl 1 rfl) ?_
  refine lv_aload_n hx hb d_AL_add_12 rfl (lv_at hl 0 rfl) ?_
  refine x_get hC hw h_la rfl 0 (by decide) (hts _ k_49) (fun _ h9 => h9) rfl d_AL_add_13 ?_
  refine lv_aload_n hx hb d_AL_add_16 rfl (lv_at hl 0 rfl) ?_
  refine x_get hC hw h_la rfl 1 (by decide) (hts _ k_50) (fun _ h9 => h9) rfl d_AL_add_17 ?_
  have hel := hel.put h_la0 (x_ne8 hci) frm
  refine x_callG hC (c_AL_add2_0 l G M1 (Array.size H) la fz hfz hzP ((mc + nI 1)) f ci N C T hc hca hci hel h_la v fsv hvl h_v) k_123 k_4 ⟨Nat.le_of_ble_eq_true rfl, Nat.le_of_ble_eq_true rfl⟩ ⟨Nat.le_of_ble_eq_true rfl, Nat.le_of_ble_eq_true rfl⟩ hw hl.1 (Nat.le_of_ble_eq_true rfl) d_AL_add_20 (x_ivV hC k_123 k_120 k_122 kp_0 (show _ ∧ _ ∧ _ = some 3 from by decide +kernel) (x_recv hC hw h_la rfl) rfl d_AL_add_20) (fun rv M2 H locs hq hw => ?_) (fun _ _ _ _ _ h _ _ => h.elim)
  obtain ⟨rfl, q, g1, hn_q, h_la, h_q, hg1, hgv, fr⟩ := hq
  have hn_q := hF.none hn_q
  have hF := hF.trans fr (by intro z hz; exact Or.inl hz)
  have h_v := fr.get h_v (by simp [hvl])
  refine W.eq (g2 := F0 m 23 ls []) rfl ?_
  refine lv_iconst (v := nI 1) hx hb d_AL_add_23 (by decide) ?_
  exact x_zret hC hr hw (by decide +kernel) (⟨rfl, q, _, hn_q, h_la, h_q, hg1, hgv, x_neN h_q (x_fz0 hC hw hzP), hF⟩) (Nat.le_of_ble_eq_true rfl) (Nat.le_of_ble_eq_true rfl) d_AL_add_24

set_option maxHeartbeats 400000 in
set_option maxRecDepth 100000 in
/-- grow 10 -/
theorem c_AL_grow2_10 (l : Launch) (G : xT) (M : xMem) (sz : Nat) (la el : Nat) (mc : Int32) (f : Nat → Option Nat) (ci N : Nat) (C : String) (T : u_T) (hc : classes[ci]? = some (C, T, N)) (hca : Cond.castable C "java/lang/Object" ∈ x_tbl) (hci : ci ≠ 8) (hel : elP M ci 10 f) (h_la : M la = some (.inr (8, [.ref el, .int (nI 10), .int mc]))) (h_el : M el = some (.inl (G.2.1 3, 10, .inr (.inr (.inr (.inr f)))))) : xMet l G y_AL_grow2 (Cond.code y_AL_grow2 b_AL_grow2 4 (Option.some (Jvm.ClassFile.FieldType.array (Jvm.ClassFile.FieldType.object "java/lang/Object"))) :: x_tbl) { frames := 3, cells := 1, slots := 15, locals := 84 } [.ref la, .int (nI 11)] M sz (fun u M' => ∃ q, ∃ g : Nat → Option Nat, u = some (.ref q) ∧ M q = none ∧ M' la = some (.inr (8, [.ref q, .int (nI 10), .int mc])) ∧ M' q = some (.inl (G.2.1 3, 15, .inr (.inr (.inr (.inr g))))) ∧ (∀ i, i < 10 → g i = f i) ∧ xfr M M' [la]) (fun _ _ => False) := by
  refine xMet.of (by decide) (Nat.le_of_ble_eq_true rfl) ?_
  intro p e s m below meth c ls hC hr hnm hno hsz hw hl
  obtain ⟨hx, hb, hown, hts, hK, hml, hlk, hz⟩ := id hC
  have hl : lv_has ls 4 [(0, .ref la), (1, .int (nI 11))] := hl
  have hF : xfr M M [la] := xfr.rf
  refine lv_aload_n hx hb d_AL_grow2_0 rfl (lv_at hl 0 rfl) ?_
  refine x_get hC hw h_la rfl 0 (by decide) (hts _ k_49) (fun _ h9 => h9) rfl d_AL_grow2_1 ?_
  refine x_alen (v := nI 10) hC hw h_el (t0 := 3) rfl rfl d_AL_grow2_4 ?_
  refine lv_istore_n (lv' := [(2, .int (nI 10)), (0, .ref la), (1, .int (nI 11))]) hx hb d_AL_grow2_5 rfl hl (by decide) rfl (fun ls hl => ?_)
  refine lv_iload_n hx hb d_AL_grow2_6 rfl (lv_at hl 0 rfl) ?_
  refine lv_if_gt (tgt := 20) hx hb d_AL_grow2_7 (by decide) (fun c_7 => ?_) (fun c_7 => ?_)
  · refine lv_iload_n hx hb d_AL_grow2_20 rfl (lv_at hl 0 rfl) ?_
    refine lv_iload_n hx hb d_AL_grow2_21 rfl (lv_at hl 2 rfl) ?_
    refine lv_iload_n hx hb d_AL_grow2_22 rfl (lv_at hl 0 rfl) ?_
    refine lv_isub hx hb d_AL_grow2_23 ?_
    refine x_vi (y := nI 1) (by decide +kernel) ?_
    refine lv_iload_n hx hb d_AL_grow2_24 rfl (lv_at hl 0 rfl) ?_
    refine lv_iconst (v := nI 1) hx hb d_AL_grow2_25 (by decide) ?_
    refine lv_ishr hx hb d_AL_grow2_26 ?_
    refine x_vi (y := nI 5) (by decide +kernel) ?_
    refine x_callG hC (c_ASP_newLength_10 l G M (Array.size s.heap) ) k_134 k_9 ⟨Nat.le_of_ble_eq_true rfl, Nat.le_of_ble_eq_true rfl⟩ ⟨Nat.le_of_ble_eq_true rfl, Nat.le_of_ble_eq_true rfl⟩ hw hl.1 (Nat.le_of_ble_eq_true rfl) d_AL_grow2_27 (x_ivS hC k_134 k_132 k_133 k_9 (show _ ∧ _ ∧ _ = some 3 from by decide +kernel) rfl d_AL_grow2_27) (fun rv M1 H locs hq hw => ?_) (fun _ _ _ _ _ h _ _ => h.elim)
    obtain ⟨rfl, hM⟩ := hq
    subst M1
    refine W.eq (g2 := F0 m 30 ls [.int (nI 15)]) rfl ?_
    refine lv_istore_n (lv' := [(3, .int (nI 15)), (2, .int (nI 10)), (0, .ref la), (1, .int (nI 11))]) hx hb d_AL_grow2_30 rfl hl (by decide) rfl (fun ls hl => ?_)
    refine lv_aload_n hx hb d_AL_grow2_31 rfl (lv_at hl 2 rfl) ?_
    refine lv_aload_n hx hb d_AL_grow2_32 rfl (lv_at hl 2 rfl) ?_
    refine x_get hC hw h_la rfl 0 (by decide) (hts _ k_49) (fun _ h9 => h9) rfl d_AL_grow2_33 ?_
    refine lv_iload_n hx hb d_AL_grow2_36 rfl (lv_at hl 0 rfl) ?_
    refine x_callG hC (c_ARS_copyOf_10 l G M (Array.size H) el f ci N C T hc hca hci hel h_el) k_144 k_11 ⟨Nat.le_of_ble_eq_true rfl, Nat.le_of_ble_eq_true rfl⟩ ⟨Nat.le_of_ble_eq_true rfl, Nat.le_of_ble_eq_true rfl⟩ hw hl.1 (Nat.le_of_ble_eq_true rfl) d_AL_grow2_37 (x_ivS hC k_144 k_142 k_143 k_11 (show _ ∧ _ ∧ _ = some 2 from by decide +kernel) rfl d_AL_grow2_37) (fun rv M2 H locs hq hw => ?_) (fun _ _ _ _ _ h _ _ => h.elim)
    obtain ⟨q, g1, rfl, hn_q, h_q, hg1, fr⟩ := hq
    have ne_q : la ≠ q := x_neN h_la hn_q
    have ne_q2 : el ≠ q := x_neN h_el hn_q
    have hF := hF.trans fr (by intro z hz; cases hz)
    have h_la := fr.get h_la (by simp [])
    have h_el := fr.get h_el (by simp [])
    refine W.eq (g2 := F0 m 40 ls [.ref q, .ref la]) rfl ?_
    refine lv_dup_x1 hx hb d_AL_grow2_40 rfl rfl ?_
    refine x_put (ty := .array (.object "java/lang/Object")) hC hw h_la rfl 0 (by decide) (hts _ k_49) (fun _ h9 => h9) rfl (by decide +kernel) rfl rfl (Nat.le_of_ble_eq_true rfl) d_AL_grow2_41 (fun M3 H locs em fr hw => ?_)
    have em : M3 la = some (.inr (8, [.ref q, .int (nI 10), .int mc])) := em
    have h_el := (fr _ (x_ne h_el h_la (by intro z; cases z))).trans h_el
    have h_q := (fr _ (Ne.symm ne_q)).trans h_q
    have h_la := em
    have hF := hF.put em fr (Or.inl (by simp))
    exact x_aret hC hr (Or.inr ⟨_, rfl⟩) hw (Or.inr ⟨_, rfl⟩) (⟨_, g1, rfl, hn_q, h_la, h_q, hg1, hF⟩) (Nat.le_of_ble_eq_true rfl) (Nat.le_of_ble_eq_true rfl) d_AL_grow2_44
  · exact absurd c_7 (by decide +kernel)

set_option maxHeartbeats 400000 in
set_option maxRecDepth 100000 in
/-- grow 10 -/
theorem c_AL_grow_10 (l : Launch) (G : xT) (M : xMem) (sz : Nat) (la el : Nat) (mc : Int32) (f : Nat → Option Nat) (ci N : Nat) (C : String) (T : u_T) (hc : classes[ci]? = some (C, T, N)) (hca : Cond.castable C "java/lang/Object" ∈ x_tbl) (hci : ci ≠ 8) (hel : elP M ci 10 f) (h_la : M la = some (.inr (8, [.ref el, .int (nI 10), .int mc]))) (h_el : M el = some (.inl (G.2.1 3, 10, .inr (.inr (.inr (.inr f)))))) : xMet l G y_AL_grow (Cond.code y_AL_grow b_AL_grow 1 (Option.some (Jvm.ClassFile.FieldType.array (Jvm.ClassFile.FieldType.object "java/lang/Object"))) :: x_tbl) { frames := 4, cells := 1, slots := 15, locals := 107 } [.ref la] M sz (fun u M' => ∃ q, ∃ g : Nat → Option Nat, u = some (.ref q) ∧ M q = none ∧ M' la = some (.inr (8, [.ref q, .int (nI 10), .int mc])) ∧ M' q = some (.inl (G.2.1 3, 15, .inr (.inr (.inr (.inr g))))) ∧ (∀ i, i < 10 → g i = f i) ∧ xfr M M' [la]) (fun _ _ => False) := by
  refine xMet.of (by decide) (Nat.le_of_ble_eq_true rfl) ?_
  intro p e s m below meth c ls hC hr hnm hno hsz hw hl
  obtain ⟨hx, hb, hown, hts, hK, hml, hlk, hz⟩ := id hC
  have hl : lv_has ls 1 [(0, .ref la)] := hl
  have hF : xfr M M [la] := xfr.rf
  refine lv_aload_n hx hb d_AL_grow_0 rfl (lv_at hl 0 rfl) ?_
  refine lv_aload_n hx hb d_AL_grow_1 rfl (lv_at hl 0 rfl) ?_
  refine x_get hC hw h_la rfl 1 (by decide) (hts _ k_50) (fun _ h9 => h9) rfl d_AL_grow_2 ?_
  refine lv_iconst (v := nI 1) hx hb d_AL_grow_5 (by decide) ?_
  refine lv_iadd hx hb d_AL_grow_6 ?_
  refine x_vi (y := nI 11) (by decide +kernel) ?_
  have ne_h_el_h_la : el ≠ la := x_ne h_el h_la (by intro z; cases z)
  refine x_callG hC (c_AL_grow2_10 l G M (Array.size s.heap) la el mc f ci N C T hc hca hci hel h_la h_el) k_131 k_4 ⟨Nat.le_of_ble_eq_true rfl, Nat.le_of_ble_eq_true rfl⟩ ⟨Nat.le_of_ble_eq_true rfl, Nat.le_of_ble_eq_true rfl⟩ hw hl.1 (Nat.le_of_ble_eq_true rfl) d_AL_grow_7 (x_ivV hC k_131 k_128 k_130 kp_2 (show _ ∧ _ ∧ _ = some 1 from by decide +kernel) (x_recv hC hw h_la rfl) rfl d_AL_grow_7) (fun rv M1 H locs hq hw => ?_) (fun _ _ _ _ _ h _ _ => h.elim)
  obtain ⟨q, g1, rfl, hn_q, h_la, h_q, hg1, fr⟩ := hq
  have hF := hF.trans fr (by intro z hz; exact Or.inl hz)
  have h_el := fr.get h_el (by simp [ne_h_el_h_la])
  refine W.eq (g2 := F0 m 10 ls [.ref q]) rfl ?_
  exact x_aret hC hr (Or.inr ⟨_, rfl⟩) hw (Or.inr ⟨_, rfl⟩) (⟨_, g1, rfl, hn_q, h_la, h_q, hg1, hF⟩) (Nat.le_of_ble_eq_true rfl) (Nat.le_of_ble_eq_true rfl) d_AL_grow_10

set_option maxHeartbeats 400000 in
set_option maxRecDepth 100000 in
/-- add 10 -/
theorem c_AL_add2_10 (l : Launch) (G : xT) (M : xMem) (sz : Nat) (la el : Nat) (mc : Int32) (f : Nat → Option Nat) (ci N : Nat) (C : String) (T : u_T) (hc : classes[ci]? = some (C, T, N)) (hca : Cond.castable C "java/lang/Object" ∈ x_tbl) (hci : ci ≠ 8) (hel : elP M ci 10 f) (h_la : M la = some (.inr (8, [.ref el, .int (nI 10), .int mc]))) (h_el : M el = some (.inl (G.2.1 3, 10, .inr (.inr (.inr (.inr f)))))) (v : Nat) (fsv : List Value) (hvl : v ≠ la) (h_v : M v = some (.inr (ci, fsv)))  : xMet l G y_AL_add2 (Cond.code y_AL_add2 b_AL_add2 4 none :: x_tbl) { frames := 5, cells := 1, slots := 15, locals := 127 } [.ref la, .ref v, .ref el, .int (nI 10)] M sz (fun u M' => u = none ∧ ∃ q, ∃ g : Nat → Option Nat, M q = none ∧ M' la = some (.inr (8, [.ref q, .int (nI 11), .int mc])) ∧ M' q = some (.inl (G.2.1 3, 15, .inr (.inr (.inr (.inr g))))) ∧ (∀ i, i < 10 → g i = f i) ∧ g 10 = some v ∧ xfr M M' [la]) (fun _ _ => False) := by
  refine xMet.of (by decide) (Nat.le_of_ble_eq_true rfl) ?_
  intro p e s m below meth c ls hC hr hnm hno hsz hw hl
  obtain ⟨hx, hb, hown, hts, hK, hml, hlk, hz⟩ := id hC
  have hl : lv_has ls 4 [(0, .ref la), (1, .ref v), (2, .ref el), (3, .int (nI 10))] := hl
  have hF : xfr M M [la] := xfr.rf
  have h_v0 := h_v
  have h_la0 := h_la
  refine lv_iload_n hx hb d_AL_add2_0 rfl (lv_at hl 3 rfl) ?_
  refine lv_aload_n hx hb d_AL_add2_1 rfl (lv_at hl 2 rfl) ?_
  refine x_alen (v := nI 10) hC hw h_el (t0 := 3) rfl rfl d_AL_add2_2 ?_
  refine lv_icmp_ne (tgt := 11) hx hb d_AL_add2_3 (by decide) (fun c_3 => ?_) (fun c_3 => ?_)
  · exact absurd c_3 (by decide +kernel)
  · refine lv_aload_n hx hb d_AL_add2_6 rfl (lv_at hl 0 rfl) ?_
    have ne_h_el_h_la : el ≠ la := x_ne h_el h_la (by intro z; cases z)
    refine x_callG hC (c_AL_grow_10 l G M (Array.size s.heap) la el mc f ci N C T hc hca hci hel h_la h_el) k_127 k_4 ⟨Nat.le_of_ble_eq_true rfl, Nat.le_of_ble_eq_true rfl⟩ ⟨Nat.le_of_ble_eq_true rfl, Nat.le_of_ble_eq_true rfl⟩ hw hl.1 (Nat.le_of_ble_eq_true rfl) d_AL_add2_7 (x_ivV hC k_127 k_124 k_126 kp_1 (show _ ∧ _ ∧ _ = some 0 from by decide +kernel) (x_recv hC hw h_la rfl) rfl d_AL_add2_7) (fun rv M1 H locs hq hw => ?_) (fun _ _ _ _ _ h _ _ => h.elim)
    obtain ⟨q, g1, rfl, hn_q, h_la, h_q, hg1, fr⟩ := hq
    have hF := hF.trans fr (by intro z hz; exact Or.inl hz)
    have ne_vq : v ≠ q := x_neN h_v0 (hn_q)
    have ne_laq : la ≠ q := x_neN h_la0 hn_q
    have h_el := fr.get h_el (by simp [ne_h_el_h_la])
    have h_v := fr.get h_v (by simp [hvl])
    refine W.eq (g2 := F0 m 10 ls [.ref q]) rfl ?_
    refine lv_astore_n (lv' := [(2, .ref q), (0, .ref la), (1, .ref v), (3, .int (nI 10))]) hx hb d_AL_add2_10 rfl hl (by decide) rfl (fun ls hl => ?_)
    refine lv_aload_n hx hb d_AL_add2_11 rfl (lv_at hl 0 rfl) ?_
    refine lv_iload_n hx hb d_AL_add2_12 rfl (lv_at hl 3 rfl) ?_
    refine lv_aload_n hx hb d_AL_add2_13 rfl (lv_at hl 2 rfl) ?_
    refine x_aast (j := 10) hC hw h_q rfl h_v hc hca rfl (by omega) (by omega) d_AL_add2_14 (fun M2 H locs em fr hw => ?_)
    have h_la := (fr _ ne_laq).trans h_la
    have h_el := (fr _ (x_ne h_el h_q (by intro z; cases z))).trans h_el
    have h_v := (fr _ ne_vq).trans h_v
    have h_q := em
    have hF := hF.trans (xfr.rf.put em fr (Or.inl (List.mem_singleton.mpr rfl)) : xfr _ _ [q]) (by intro z hz; rw [List.mem_singleton.mp hz]; exact Or.inr hn_q)
    refine lv_aload_n hx hb d_AL_add2_15 rfl (lv_at hl 1 rfl) ?_
    refine lv_iload_n hx hb d_AL_add2_16 rfl (lv_at hl 3 rfl) ?_
    refine lv_iconst (v := nI 1) hx hb d_AL_add2_17 (by decide) ?_
    refine lv_iadd hx hb d_AL_add2_18 ?_
    refine x_vi (y := nI 11) (by decide +kernel) ?_
    refine x_put (ty := .int) hC hw h_la rfl 1 (by decide) (hts _ k_50) (fun _ h9 => h9) rfl (by decide +kernel) rfl rfl (Nat.le_of_ble_eq_true rfl) d_AL_add2_19 (fun M3 H locs em fr hw => ?_)
    have em : M3 la = some (.inr (8, [.ref q, .int (nI 11), .int mc])) := em
    have h_el := (fr _ (x_ne h_el h_la (by intro z; cases z))).trans h_el
    have h_v := (fr _ hvl).trans h_v
    have h_q := (fr _ (Ne.symm ne_laq)).trans h_q
    have h_la := em
    have hF := hF.put em fr (Or.inl (by simp))
    exact x_vret hC hr hw (⟨rfl, q, _, hn_q, h_la, h_q, (fun i hi => by rw [va_up_ne _ _ (by omega)]; exact hg1 i hi), va_up_self _ _ _, hF⟩) (Nat.le_of_ble_eq_true rfl) (Nat.le_of_ble_eq_true rfl) d_AL_add2_22

set_option maxHeartbeats 400000 in
set_option maxRecDepth 100000 in
/-- add 10 -/
theorem c_AL_add_10 (l : Launch) (G : xT) (M : xMem) (sz : Nat) (la el : Nat) (mc : Int32) (f : Nat → Option Nat) (ci N : Nat) (C : String) (T : u_T) (hc : classes[ci]? = some (C, T, N)) (hca : Cond.castable C "java/lang/Object" ∈ x_tbl) (hci : ci ≠ 8) (hel : elP M ci 10 f) (h_la : M la = some (.inr (8, [.ref el, .int (nI 10), .int mc]))) (h_el : M el = some (.inl (G.2.1 3, 10, .inr (.inr (.inr (.inr f)))))) (v : Nat) (fsv : List Value) (hvl : v ≠ la) (h_v : M v = some (.inr (ci, fsv))) (fz : Nat) (hzP : fzP G fz)  : xMet l G y_AL_add (Cond.code y_AL_add b_AL_add 2 (Option.some Jvm.ClassFile.FieldType.boolean) :: x_tbl) { frames := 6, cells := 1, slots := 22, locals := 151 } [.ref la, .ref v] M sz (fun u M' => u = some (.int (nI 1)) ∧ ∃ q, ∃ g : Nat → Option Nat, M q = none ∧ M' la = some (.inr (8, [.ref q, .int (nI 11), .int (mc + nI 1)])) ∧ M' q = some (.inl (G.2.1 3, 15, .inr (.inr (.inr (.inr g))))) ∧ (∀ i, i < 10 → g i = f i) ∧ g 10 = some v ∧ q ≠ fz ∧ xfr M M' [la]) (fun _ _ => False) := by
  refine xMet.of (by decide) (Nat.le_of_ble_eq_true rfl) ?_
  intro p e s m below meth c ls hC hr hnm hno hsz hw hl
  obtain ⟨hx, hb, hown, hts, hK, hml, hlk, hz⟩ := id hC
  have hl : lv_has ls 2 [(0, .ref la), (1, .ref v)] := hl
  have hF : xfr M M [la] := xfr.rf
  have h_la0 := h_la
  refine lv_aload_n hx hb d_AL_add_0 rfl (lv_at hl 0 rfl) ?_
  refine lv_dup hx hb d_AL_add_1 rfl ?_
  refine x_get hC hw h_la rfl 2 (by decide) (hts _ k_52) (u_same (hts _ k_53)) rfl d_AL_add_2 ?_
  refine lv_iconst (v := nI 1) hx hb d_AL_add_5 (by decide) ?_
  refine lv_iadd hx hb d_AL_add_6 ?_
  refine x_put (ty := .int) hC hw h_la rfl 2 (by decide) (hts _ k_52) (u_same (hts _ k_53)) rfl (by decide +kernel) rfl rfl (Nat.le_of_ble_eq_true rfl) d_AL_add_7 (fun M1 H locs em fr hw => ?_)
  have em : M1 la = some (.inr (8, [.ref el, .int (nI 10), .int (mc + nI 1)])) := em
  have h_el := (fr _ (x_ne h_el h_la (by intro z; cases z))).trans h_el
  have h_v := (fr _ hvl).trans h_v
  have h_la := em
  have hF := hF.put em fr (Or.inl (by simp))
  have frm := fr
  refine lv_aload_n hx hb d_AL_add_10 rfl (lv_at hl 0 rfl) ?_
  refine lv_aload_n hx hb d_AL_add_11 rfl (lv_at hl 1 rfl) ?_
  refine lv_aload_n hx hb d_AL_add_12 rfl (lv_at hl 0 rfl) ?_
  refine x_get hC hw h_la rfl 0 (by decide) (hts _ k_49) (fun _ h9 => h9) rfl d_AL_add_13 ?_
  refine lv_aload_n hx hb d_AL_add_16 rfl (lv_at hl 0 rfl) ?_
  refine x_get hC hw h_la rfl 1 (by decide) (hts _ k_50) (fun _ h9 => h9) rfl d_AL_add_17 ?_
  have hel := hel.put h_la0 (x_ne8 hci) frm
  have ne_h_el_h_la : el ≠ la := x_ne h_el h_la (by intro z; cases z)
  refine x_callG hC (c_AL_add2_10 l G M1 (Array.size H) la el ((mc + nI 1)) f ci N C T hc hca hci hel h_la h_el v fsv hvl h_v) k_123 k_4 ⟨Nat.le_of_ble_eq_true rfl, Nat.le_of_ble_eq_true rfl⟩ ⟨Nat.le_of_ble_eq_true rfl, Nat.le_of_ble_eq_true rfl⟩ hw hl.1 (Nat.le_of_ble_eq_true rfl) d_AL_add_20 (x_ivV hC k_123 k_120 k_122 kp_0 (show _ ∧ _ ∧ _ = some 3 from by decide +kernel) (x_recv hC hw h_la rfl) rfl d_AL_add_20) (fun rv M2 H locs hq hw => ?_) (fun _ _ _ _ _ h _ _ => h.elim)
  obtain ⟨rfl, q, g1, hn_q, h_la, h_q, hg1, hgv, fr⟩ := hq
  have hn_q := hF.none hn_q
  have hF := hF.trans fr (by intro z hz; exact Or.inl hz)
  have h_el := fr.get h_el (by simp [ne_h_el_h_la])
  have h_v := fr.get h_v (by simp [hvl])
  refine W.eq (g2 := F0 m 23 ls []) rfl ?_
  refine lv_iconst (v := nI 1) hx hb d_AL_add_23 (by decide) ?_
  exact x_zret hC hr hw (by decide +kernel) (⟨rfl, q, _, hn_q, h_la, h_q, hg1, hgv, x_neN h_q (x_fz0 hC hw hzP), hF⟩) (Nat.le_of_ble_eq_true rfl) (Nat.le_of_ble_eq_true rfl) d_AL_add_24

set_option maxHeartbeats 400000 in
set_option maxRecDepth 100000 in
/-- grow 15 -/
theorem c_AL_grow2_15 (l : Launch) (G : xT) (M : xMem) (sz : Nat) (la el : Nat) (mc : Int32) (f : Nat → Option Nat) (ci N : Nat) (C : String) (T : u_T) (hc : classes[ci]? = some (C, T, N)) (hca : Cond.castable C "java/lang/Object" ∈ x_tbl) (hci : ci ≠ 8) (hel : elP M ci 15 f) (h_la : M la = some (.inr (8, [.ref el, .int (nI 15), .int mc]))) (h_el : M el = some (.inl (G.2.1 3, 15, .inr (.inr (.inr (.inr f)))))) : xMet l G y_AL_grow2 (Cond.code y_AL_grow2 b_AL_grow2 4 (Option.some (Jvm.ClassFile.FieldType.array (Jvm.ClassFile.FieldType.object "java/lang/Object"))) :: x_tbl) { frames := 3, cells := 1, slots := 22, locals := 84 } [.ref la, .int (nI 16)] M sz (fun u M' => ∃ q, ∃ g : Nat → Option Nat, u = some (.ref q) ∧ M q = none ∧ M' la = some (.inr (8, [.ref q, .int (nI 15), .int mc])) ∧ M' q = some (.inl (G.2.1 3, 22, .inr (.inr (.inr (.inr g))))) ∧ (∀ i, i < 15 → g i = f i) ∧ xfr M M' [la]) (fun _ _ => False) := by
  refine xMet.of (by decide) (Nat.le_of_ble_eq_true rfl) ?_
  intro p e s m below meth c ls hC hr hnm hno hsz hw hl
  obtain ⟨hx, hb, hown, hts, hK, hml, hlk, hz⟩ := id hC
  have hl : lv_has ls 4 [(0, .ref la), (1, .int (nI 16))] := hl
  have hF : xfr M M [la] := xfr.rf
  refine lv_aload_n hx hb d_AL_grow2_0 rfl (lv_at hl 0 rfl) ?_
  refine x_get hC hw h_la rfl 0 (by decide) (hts _ k_49) (fun _ h9 => h9) rfl d_AL_grow2_1 ?_
  refine x_alen (v := nI 15) hC hw h_el (t0 := 3) rfl rfl d_AL_grow2_4 ?_
  refine lv_istore_n (lv' := [(2, .int (nI 15)), (0, .ref la), (1, .int (nI 16))]) hx hb d_AL_grow2_5 rfl hl (by decide) rfl (fun ls hl => ?_)
  refine lv_iload_n hx hb d_AL_grow2_6 rfl (lv_at hl 0 rfl) ?_
  refine lv_if_gt (tgt := 20) hx hb d_AL_grow2_7 (by decide) (fun c_7 => ?_) (fun c_7 => ?_)
  · refine lv_iload_n hx hb d_AL_grow2_20 rfl (lv_at hl 0 rfl) ?_
    refine lv_iload_n hx hb d_AL_grow2_21 rfl (lv_at hl 2 rfl) ?_
    refine lv_iload_n hx hb d_AL_grow2_22 rfl (lv_at hl 0 rfl) ?_
    refine lv_isub hx hb d_AL_grow2_23 ?_
    refine x_vi (y := nI 1) (by decide +kernel) ?_
    refine lv_iload_n hx hb d_AL_grow2_24 rfl (lv_at hl 0 rfl) ?_
    refine lv_iconst (v := nI 1) hx hb d_AL_grow2_25 (by decide) ?_
    refine lv_ishr hx hb d_AL_grow2_26 ?_
    refine x_vi (y := nI 7) (by decide +kernel) ?_
    refine x_callG hC (c_ASP_newLength_15 l G M (Array.size s.heap) ) k_134 k_9 ⟨Nat.le_of_ble_eq_true rfl, Nat.le_of_ble_eq_true rfl⟩ ⟨Nat.le_of_ble_eq_true rfl, Nat.le_of_ble_eq_true rfl⟩ hw hl.1 (Nat.le_of_ble_eq_true rfl) d_AL_grow2_27 (x_ivS hC k_134 k_132 k_133 k_9 (show _ ∧ _ ∧ _ = some 3 from by decide +kernel) rfl d_AL_grow2_27) (fun rv M1 H locs hq hw => ?_) (fun _ _ _ _ _ h _ _ => h.elim)
    obtain ⟨rfl, hM⟩ := hq
    subst M1
    refine W.eq (g2 := F0 m 30 ls [.int (nI 22)]) rfl ?_
    refine lv_istore_n (lv' := [(3, .int (nI 22)), (2, .int (nI 15)), (0, .ref la), (1, .int (nI 16))]) hx hb d_AL_grow2_30 rfl hl (by decide) rfl (fun ls hl => ?_)
    refine lv_aload_n hx hb d_AL_grow2_31 rfl (lv_at hl 2 rfl) ?_
    refine lv_aload_n hx hb d_AL_grow2_32 rfl (lv_at hl 2 rfl) ?_
    refine x_get hC hw h_la rfl 0 (by decide) (hts _ k_49) (fun _ h9 => h9) rfl d_AL_grow2_33 ?_
    refine lv_iload_n hx hb d_AL_grow2_36 rfl (lv_at hl 0 rfl) ?_
    refine x_callG hC (c_ARS_copyOf_15 l G M (Array.size H) el f ci N C T hc hca hci hel h_el) k_144 k_11 ⟨Nat.le_of_ble_eq_true rfl, Nat.le_of_ble_eq_true rfl⟩ ⟨Nat.le_of_ble_eq_true rfl, Nat.le_of_ble_eq_true rfl⟩ hw hl.1 (Nat.le_of_ble_eq_true rfl) d_AL_grow2_37 (x_ivS hC k_144 k_142 k_143 k_11 (show _ ∧ _ ∧ _ = some 2 from by decide +kernel) rfl d_AL_grow2_37) (fun rv M2 H locs hq hw => ?_) (fun _ _ _ _ _ h _ _ => h.elim)
    obtain ⟨q, g1, rfl, hn_q, h_q, hg1, fr⟩ := hq
    have ne_q : la ≠ q := x_neN h_la hn_q
    have ne_q2 : el ≠ q := x_neN h_el hn_q
    have hF := hF.trans fr (by intro z hz; cases hz)
    have h_la := fr.get h_la (by simp [])
    have h_el := fr.get h_el (by simp [])
    refine W.eq (g2 := F0 m 40 ls [.ref q, .ref la]) rfl ?_
    refine lv_dup_x1 hx hb d_AL_grow2_40 rfl rfl ?_
    refine x_put (ty := .array (.object "java/lang/Object")) hC hw h_la rfl 0 (by decide) (hts _ k_49) (fun _ h9 => h9) rfl (by decide +kernel) rfl rfl (Nat.le_of_ble_eq_true rfl) d_AL_grow2_41 (fun M3 H locs em fr hw => ?_)
    have em : M3 la = some (.inr (8, [.ref q, .int (nI 15), .int mc])) := em
    have h_el := (fr _ (x_ne h_el h_la (by intro z; cases z))).trans h_el
    have h_q := (fr _ (Ne.symm ne_q)).trans h_q
    have h_la := em
    have hF := hF.put em fr (Or.inl (by simp))
    exact x_aret hC hr (Or.inr ⟨_, rfl⟩) hw (Or.inr ⟨_, rfl⟩) (⟨_, g1, rfl, hn_q, h_la, h_q, hg1, hF⟩) (Nat.le_of_ble_eq_true rfl) (Nat.le_of_ble_eq_true rfl) d_AL_grow2_44
  · exact absurd c_7 (by decide +kernel)

set_option maxHeartbeats 400000 in
set_option maxRecDepth 100000 in
/-- grow 15 -/
theorem c_AL_grow_15 (l : Launch) (G : xT) (M : xMem) (sz : Nat) (la el : Nat) (mc : Int32) (f : Nat → Option Nat) (ci N : Nat) (C : String) (T : u_T) (hc : classes[ci]? = some (C, T, N)) (hca : Cond.castable C "java/lang/Object" ∈ x_tbl) (hci : ci ≠ 8) (hel : elP M ci 15 f) (h_la : M la = some (.inr (8, [.ref el, .int (nI 15), .int mc]))) (h_el : M el = some (.inl (G.2.1 3, 15, .inr (.inr (.inr (.inr f)))))) : xMet l G y_AL_grow (Cond.code y_AL_grow b_AL_grow 1 (Option.some (Jvm.ClassFile.FieldType.array (Jvm.ClassFile.FieldType.object "java/lang/Object"))) :: x_tbl) { frames := 4, cells := 1, slots := 22, locals := 107 } [.ref la] M sz (fun u M' => ∃ q, ∃ g : Nat → Option Nat, u = some (.ref q) ∧ M q = none ∧ M' la = some (.inr (8, [.ref q, .int (nI 15), .int mc])) ∧ M' q = some (.inl (G.2.1 3, 22, .inr (.inr (.inr (.inr g))))) ∧ (∀ i, i < 15 → g i = f i) ∧ xfr M M' [la]) (fun _ _ => False) := by
  refine xMet.of (by decide) (Nat.le_of_ble_eq_true rfl) ?_
  intro p e s m below meth c ls hC hr hnm hno hsz hw hl
  obtain ⟨hx, hb, hown, hts, hK, hml, hlk, hz⟩ := id hC
  have hl : lv_has ls 1 [(0, .ref la)] := hl
  have hF : xfr M M [la] := xfr.rf
  refine lv_aload_n hx hb d_AL_grow_0 rfl (lv_at hl 0 rfl) ?_
  refine lv_aload_n hx hb d_AL_grow_1 rfl (lv_at hl 0 rfl) ?_
  refine x_get hC hw h_la rfl 1 (by decide) (hts _ k_50) (fun _ h9 => h9) rfl d_AL_grow_2 ?_
  refine lv_iconst (v := nI 1) hx hb d_AL_grow_5 (by decide) ?_
  refine lv_iadd hx hb d_AL_grow_6 ?_
  refine x_vi (y := nI 16) (by decide +kernel) ?_
  have ne_h_el_h_la : el ≠ la := x_ne h_el h_la (by intro z; cases z)
  refine x_callG hC (c_AL_grow2_15 l G M (Array.size s.heap) la el mc f ci N C T hc hca hci hel h_la h_el) k_131 k_4 ⟨Nat.le_of_ble_eq_true rfl, Nat.le_of_ble_eq_true rfl⟩ ⟨Nat.le_of_ble_eq_true rfl, Nat.le_of_ble_eq_true rfl⟩ hw hl.1 (Nat.le_of_ble_eq_true rfl) d_AL_grow_7 (x_ivV hC k_131 k_128 k_130 kp_2 (show _ ∧ _ ∧ _ = some 1 from by decide +kernel) (x_recv hC hw h_la rfl) rfl d_AL_grow_7) (fun rv M1 H locs hq hw => ?_) (fun _ _ _ _ _ h _ _ => h.elim)
  obtain ⟨q, g1, rfl, hn_q, h_la, h_q, hg1, fr⟩ := hq
  have hF := hF.trans fr (by intro z hz; exact Or.inl hz)
  have h_el := fr.get h_el (by simp [ne_h_el_h_la])
  refine W.eq (g2 := F0 m 10 ls [.ref q]) rfl ?_
  exact x_aret hC hr (Or.inr ⟨_, rfl⟩) hw (Or.inr ⟨_, rfl⟩) (⟨_, g1, rfl, hn_q, h_la, h_q, hg1, hF⟩) (Nat.le_of_ble_eq_true rfl) (Nat.le_of_ble_eq_true rfl) d_AL_grow_10

set_option maxHeartbeats 400000 in
set_option maxRecDepth 100000 in
/-- add 15 -/
theorem c_AL_add2_15 (l : Launch) (G : xT) (M : xMem) (sz : Nat) (la el : Nat) (mc : Int32) (f : Nat → Option Nat) (ci N : Nat) (C : String) (T : u_T) (hc : classes[ci]? = some (C, T, N)) (hca : Cond.castable C "java/lang/Object" ∈ x_tbl) (hci : ci ≠ 8) (hel : elP M ci 15 f) (h_la : M la = some (.inr (8, [.ref el, .int (nI 15), .int mc]))) (h_el : M el = some (.inl (G.2.1 3, 15, .inr (.inr (.inr (.inr f)))))) (v : Nat) (fsv : List Value) (hvl : v ≠ la) (h_v : M v = some (.inr (ci, fsv)))  : xMet l G y_AL_add2 (Cond.code y_AL_add2 b_AL_add2 4 none :: x_tbl) { frames := 5, cells := 1, slots := 22, locals := 127 } [.ref la, .ref v, .ref el, .int (nI 15)] M sz (fun u M' => u = none ∧ ∃ q, ∃ g : Nat → Option Nat, M q = none ∧ M' la = some (.inr (8, [.ref q, .int (nI 16), .int mc])) ∧ M' q = some (.inl (G.2.1 3, 22, .inr (.inr (.inr (.inr g))))) ∧ (∀ i, i < 15 → g i = f i) ∧ g 15 = some v ∧ xfr M M' [la]) (fun _ _ => False) := by
  refine xMet.of (by decide) (Nat.le_of_ble_eq_true rfl) ?_
  intro p e s m below meth c ls hC hr hnm hno hsz hw hl
  obtain ⟨hx, hb, hown, hts, hK, hml, hlk, hz⟩ := id hC
  have hl : lv_has ls 4 [(0, .ref la), (1, .ref v), (2, .ref el), (3, .int (nI 15))] := hl
  have hF : xfr M M [la] := xfr.rf
  have h_v0 := h_v
  have h_la0 := h_la
  refine lv_iload_n hx hb d_AL_add2_0 rfl (lv_at hl 3 rfl) ?_
  refine lv_aload_n hx hb d_AL_add2_1 rfl (lv_at hl 2 rfl) ?_
  refine x_alen (v := nI 15) hC hw h_el (t0 := 3) rfl rfl d_AL_add2_2 ?_
  refine lv_icmp_ne (tgt := 11) hx hb d_AL_add2_3 (by decide) (fun c_3 => ?_) (fun c_3 => ?_)
  · exact absurd c_3 (by decide +kernel)
  · refine lv_aload_n hx hb d_AL_add2_6 rfl (lv_at hl 0 rfl) ?_
    have ne_h_el_h_la : el ≠ la := x_ne h_el h_la (by intro z; cases z)
    refine x_callG hC (c_AL_grow_15 l G M (Array.size s.heap) la el mc f ci N C T hc hca hci hel h_la h_el) k_127 k_4 ⟨Nat.le_of_ble_eq_true rfl, Nat.le_of_ble_eq_true rfl⟩ ⟨Nat.le_of_ble_eq_true rfl, Nat.le_of_ble_eq_true rfl⟩ hw hl.1 (Nat.le_of_ble_eq_true rfl) d_AL_add2_7 (x_ivV hC k_127 k_124 k_126 kp_1 (show _ ∧ _ ∧ _ = some 0 from by decide +kernel) (x_recv hC hw h_la rfl) rfl d_AL_add2_7) (fun rv M1 H locs hq hw => ?_) (fun _ _ _ _ _ h _ _ => h.elim)
    obtain ⟨q, g1, rfl, hn_q, h_la, h_q, hg1, fr⟩ := hq
    have hF := hF.trans fr (by intro z hz; exact Or.inl hz)
    have ne_vq : v ≠ q := x_neN h_v0 (hn_q)
    have ne_laq : la ≠ q := x_neN h_la0 hn_q
    have h_el := fr.get h_el (by simp [ne_h_el_h_la])
    have h_v := fr.get h_v (by simp [hvl])
    refine W.eq (g2 := F0 m 10 ls [.ref q]) rfl ?_
    refine lv_astore_n (lv' := [(2, .ref q), (0, .ref la), (1, .ref v), (3, .int (nI 15))]) hx hb d_AL_add2_10 rfl hl (by decide) rfl (fun ls hl => ?_)
    refine lv_aload_n hx hb d_AL_add2_11 rfl (lv_at hl 0 rfl) ?_
    refine lv_iload_n hx hb d_AL_add2_12 rfl (lv_at hl 3 rfl) ?_
    refine lv_aload_n hx hb d_AL_add2_13 rfl (lv_at hl 2 rfl) ?_
    refine x_aast (j := 15) hC hw h_q rfl h_v hc hca rfl (by omega) (by omega) d_AL_add2_14 (fun M2 H locs em fr hw => ?_)
    have h_la := (fr _ ne_laq).trans h_la
    have h_el := (fr _ (x_ne h_el h_q (by intro z; cases z))).trans h_el
    have h_v := (fr _ ne_vq).trans h_v
    have h_q := em
    have hF := hF.trans (xfr.rf.put em fr (Or.inl (List.mem_singleton.mpr rfl)) : xfr _ _ [q]) (by intro z hz; rw [List.mem_singleton.mp hz]; exact Or.inr hn_q)
    refine lv_aload_n hx hb d_AL_add2_15 rfl (lv_at hl 1 rfl) ?_
    refine lv_iload_n hx hb d_AL_add2_16 rfl (lv_at hl 3 rfl) ?_
    refine lv_iconst (v := nI 1) hx hb d_AL_add2_17 (by decide) ?_
    refine lv_iadd hx hb d_AL_add2_18 ?_
    refine x_vi (y := nI 16) (by decide +kernel) ?_
    refine x_put (ty := .int) hC hw h_la rfl 1 (by decide) (hts _ k_50) (fun _ h9 => h9) rfl (by decide +kernel) rfl rfl (Nat.le_of_ble_eq_true rfl) d_AL_add2_19 (fun M3 H locs em fr hw => ?_)
    have em : M3 la = some (.inr (8, [.ref q, .int (nI 16), .int mc])) := em
    have h_el := (fr _ (x_ne h_el h_la (by intro z; cases z))).trans h_el
    have h_v := (fr _ hvl).trans h_v
    have h_q := (fr _ (Ne.symm ne_laq)).trans h_q
    have h_la := em
    have hF := hF.put em fr (Or.inl (by simp))
    exact x_vret hC hr hw (⟨rfl, q, _, hn_q, h_la, h_q, (fun i hi => by rw [va_up_ne _ _ (by omega)]; exact hg1 i hi), va_up_self _ _ _, hF⟩) (Nat.le_of_ble_eq_true rfl) (Nat.le_of_ble_eq_true rfl) d_AL_add2_22

set_option maxHeartbeats 400000 in
set_option maxRecDepth 100000 in
/-- add 15 -/
theorem c_AL_add_15 (l : Launch) (G : xT) (M : xMem) (sz : Nat) (la el : Nat) (mc : Int32) (f : Nat → Option Nat) (ci N : Nat) (C : String) (T : u_T) (hc : classes[ci]? = some (C, T, N)) (hca : Cond.castable C "java/lang/Object" ∈ x_tbl) (hci : ci ≠ 8) (hel : elP M ci 15 f) (h_la : M la = some (.inr (8, [.ref el, .int (nI 15), .int mc]))) (h_el : M el = some (.inl (G.2.1 3, 15, .inr (.inr (.inr (.inr f)))))) (v : Nat) (fsv : List Value) (hvl : v ≠ la) (h_v : M v = some (.inr (ci, fsv))) (fz : Nat) (hzP : fzP G fz)  : xMet l G y_AL_add (Cond.code y_AL_add b_AL_add 2 (Option.some Jvm.ClassFile.FieldType.boolean) :: x_tbl) { frames := 6, cells := 1, slots := 22, locals := 151 } [.ref la, .ref v] M sz (fun u M' => u = some (.int (nI 1)) ∧ ∃ q, ∃ g : Nat → Option Nat, M q = none ∧ M' la = some (.inr (8, [.ref q, .int (nI 16), .int (mc + nI 1)])) ∧ M' q = some (.inl (G.2.1 3, 22, .inr (.inr (.inr (.inr g))))) ∧ (∀ i, i < 15 → g i = f i) ∧ g 15 = some v ∧ q ≠ fz ∧ xfr M M' [la]) (fun _ _ => False) := by
  refine xMet.of (by decide) (Nat.le_of_ble_eq_true rfl) ?_
  intro p e s m below meth c ls hC hr hnm hno hsz hw hl
  obtain ⟨hx, hb, hown, hts, hK, hml, hlk, hz⟩ := id hC
  have hl : lv_has ls 2 [(0, .ref la), (1, .ref v)] := hl
  have hF : xfr M M [la] := xfr.rf
  have h_la0 := h_la
  refine lv_aload_n hx hb d_AL_add_0 rfl (lv_at hl 0 rfl) ?_
  refine lv_dup hx hb d_AL_add_1 rfl ?_
  refine x_get hC hw h_la rfl 2 (by decide) (hts _ k_52) (u_same (hts _ k_53)) rfl d_AL_add_2 ?_
  refine lv_iconst (v := nI 1) hx hb d_AL_add_5 (by decide) ?_
  refine lv_iadd hx hb d_AL_add_6 ?_
  refine x_put (ty := .int) hC hw h_la rfl 2 (by decide) (hts _ k_52) (u_same (hts _ k_53)) rfl (by decide +kernel) rfl rfl (Nat.le_of_ble_eq_true rfl) d_AL_add_7 (fun M1 H locs em fr hw => ?_)
  have em : M1 la = some (.inr (8, [.ref el, .int (nI 15), .int (mc + nI 1)])) := em
  have h_el := (fr _ (x_ne h_el h_la (by intro z; cases z))).trans h_el
  have h_v := (fr _ hvl).trans h_v
  have h_la := em
  have hF := hF.put em fr (Or.inl (by simp))
  have frm := fr
  refine lv_aload_n hx hb d_AL_add_10 rfl (lv_at hl 0 rfl) ?_
  refine lv_aload_n hx hb d_AL_add_11 rfl (lv_at hl 1 rfl) ?_
  refine lv_aload_n hx hb d_AL_add_12 rfl (lv_at hl 0 rfl) ?_
  refine x_get hC hw h_la rfl 0 (by decide) (hts _ k_49) (fun _ h9 => h9) rfl d_AL_add_13 ?_
  refine lv_aload_n hx hb d_AL_add_16 rfl (lv_at hl 0 rfl) ?_
  refine x_get hC hw h_la rfl 1 (by decide) (hts _ k_50) (fun _ h9 => h9) rfl d_AL_add_17 ?_
  have hel := hel.put h_la0 (x_ne8 hci) frm
  have ne_h_el_h_la : el ≠ la := x_ne h_el h_la (by intro z; cases z)
  refine x_callG hC (c_AL_add2_15 l G M1 (Array.size H) la el ((mc + nI 1)) f ci N C T hc hca hci hel h_la h_el v fsv hvl h_v) k_123 k_4 ⟨Nat.le_of_ble_eq_true rfl, Nat.le_of_ble_eq_true rfl⟩ ⟨Nat.le_of_ble_eq_true rfl, Nat.le_of_ble_eq_true rfl⟩ hw hl.1 (Nat.le_of_ble_eq_true rfl) d_AL_add_20 (x_ivV hC k_123 k_120 k_122 kp_0 (show _ ∧ _ ∧ _ = some 3 from by decide +kernel) (x_recv hC hw h_la rfl) rfl d_AL_add_20) (fun rv M2 H locs hq hw => ?_) (fun _ _ _ _ _ h _ _ => h.elim)
  obtain ⟨rfl, q, g1, hn_q, h_la, h_q, hg1, hgv, fr⟩ := hq
  have hn_q := hF.none hn_q
  have hF := hF.trans fr (by intro z hz; exact Or.inl hz)
  have h_el := fr.get h_el (by simp [ne_h_el_h_la])
  have h_v := fr.get h_v (by simp [hvl])
  refine W.eq (g2 := F0 m 23 ls []) rfl ?_
  refine lv_iconst (v := nI 1) hx hb d_AL_add_23 (by decide) ?_
  exact x_zret hC hr hw (by decide +kernel) (⟨rfl, q, _, hn_q, h_la, h_q, hg1, hgv, x_neN h_q (x_fz0 hC hw hzP), hF⟩) (Nat.le_of_ble_eq_true rfl) (Nat.le_of_ble_eq_true rfl) d_AL_add_24

set_option maxHeartbeats 400000 in
set_option maxRecDepth 100000 in
/-- add -/
theorem c_AL_add2_R (l : Launch) (G : xT) (M : xMem) (sz : Nat) (la el n cap : Nat) (mc : Int32) (f : Nat → Option Nat) (ci N : Nat) (C : String) (T : u_T) (hc : classes[ci]? = some (C, T, N)) (hca : Cond.castable C "java/lang/Object" ∈ x_tbl) (hci : ci ≠ 8) (hn : n < cap) (hcap : cap < 2 ^ 31) (h_la : M la = some (.inr (8, [.ref el, .int (nI n), .int mc]))) (h_el : M el = some (.inl (G.2.1 3, cap, .inr (.inr (.inr (.inr f)))))) (v : Nat) (fsv : List Value) (hvl : v ≠ la) (h_v : M v = some (.inr (ci, fsv)))  : xMet l G y_AL_add2 (Cond.code y_AL_add2 b_AL_add2 4 none :: x_tbl) { frames := 0, cells := 0, slots := 0, locals := 0 } [.ref la, .ref v, .ref el, .int (nI n)] M sz (fun u M' => u = none ∧ M' la = some (.inr (8, [.ref el, .int (nI (n + 1)), .int mc])) ∧ M' el = some (.inl (G.2.1 3, cap, .inr (.inr (.inr (.inr (va_up f n (some v))))))) ∧ xfr M M' [la, el]) (fun _ _ => False) := by
  refine xMet.of (by decide) (Nat.le_of_ble_eq_true rfl) ?_
  intro p e s m below meth c ls hC hr hnm hno hsz hw hl
  obtain ⟨hx, hb, hown, hts, hK, hml, hlk, hz⟩ := id hC
  have hl : lv_has ls 4 [(0, .ref la), (1, .ref v), (2, .ref el), (3, .int (nI n))] := hl
  have hF : xfr M M [la, el] := xfr.rf
  refine lv_iload_n hx hb d_AL_add2_0 rfl (lv_at hl 3 rfl) ?_
  refine lv_aload_n hx hb d_AL_add2_1 rfl (lv_at hl 2 rfl) ?_
  refine x_alen (v := nI cap) hC hw h_el (t0 := 3) rfl rfl d_AL_add2_2 ?_
  refine lv_icmp_ne (tgt := 11) hx hb d_AL_add2_3 (by decide) (fun c_3 => ?_) (fun c_3 => ?_)
  · have c_3 := (not_congr (nI_eq (by omega) (by omega))).mp c_3
    refine lv_aload_n hx hb d_AL_add2_11 rfl (lv_at hl 2 rfl) ?_
    refine lv_iload_n hx hb d_AL_add2_12 rfl (lv_at hl 3 rfl) ?_
    refine lv_aload_n hx hb d_AL_add2_13 rfl (lv_at hl 1 rfl) ?_
    refine x_aast (j := n) hC hw h_el rfl h_v hc hca rfl (by omega) (by omega) d_AL_add2_14 (fun M1 H locs em fr hw => ?_)
    have ne_va : v ≠ el := x_ne h_v h_el (by intro z; cases z)
    have h_la := (fr _ (x_ne h_la h_el (by intro z; cases z))).trans h_la
    have h_v := (fr _ ne_va).trans h_v
    have h_el := em
    have hF := hF.put em fr (Or.inl (by simp))
    refine lv_aload_n hx hb d_AL_add2_15 rfl (lv_at hl 0 rfl) ?_
    refine lv_iload_n hx hb d_AL_add2_16 rfl (lv_at hl 3 rfl) ?_
    refine lv_iconst (v := nI 1) hx hb d_AL_add2_17 (by decide) ?_
    refine lv_iadd hx hb d_AL_add2_18 ?_
    refine x_vi (y := nI (n + 1)) (nI_add _ _) ?_
    refine x_put (ty := .int) hC hw h_la rfl 1 (by decide) (hts _ k_50) (fun _ h9 => h9) rfl (by decide +kernel) rfl rfl (Nat.le_of_ble_eq_true rfl) d_AL_add2_19 (fun M2 H locs em fr hw => ?_)
    have em : M2 la = some (.inr (8, [.ref el, .int (nI (n + 1)), .int mc])) := em
    have h_el := (fr _ (x_ne h_el h_la (by intro z; cases z))).trans h_el
    have h_v := (fr _ hvl).trans h_v
    have h_la := em
    have hF := hF.put em fr (Or.inl (by simp))
    exact x_vret hC hr hw (⟨rfl, h_la, h_el, hF⟩) (Nat.le_of_ble_eq_true rfl) (Nat.le_of_ble_eq_true rfl) d_AL_add2_22
  · have c_3 := (nI_eq (by omega) (by omega)).mp c_3
    omega

set_option maxHeartbeats 400000 in
set_option maxRecDepth 100000 in
/-- add -/
theorem c_AL_add_R (l : Launch) (G : xT) (M : xMem) (sz : Nat) (la el n cap : Nat) (mc : Int32) (f : Nat → Option Nat) (ci N : Nat) (C : String) (T : u_T) (hc : classes[ci]? = some (C, T, N)) (hca : Cond.castable C "java/lang/Object" ∈ x_tbl) (hci : ci ≠ 8) (hn : n < cap) (hcap : cap < 2 ^ 31) (h_la : M la = some (.inr (8, [.ref el, .int (nI n), .int mc]))) (h_el : M el = some (.inl (G.2.1 3, cap, .inr (.inr (.inr (.inr f)))))) (v : Nat) (fsv : List Value) (hvl : v ≠ la) (h_v : M v = some (.inr (ci, fsv))) (fz : Nat) (hzP : fzP G fz)  : xMet l G y_AL_add (Cond.code y_AL_add b_AL_add 2 (Option.some Jvm.ClassFile.FieldType.boolean) :: x_tbl) { frames := 6, cells := 1, slots := 22, locals := 151 } [.ref la, .ref v] M sz (fun u M' => u = some (.int (nI 1)) ∧ M' la = some (.inr (8, [.ref el, .int (nI (n + 1)), .int (mc + nI 1)])) ∧ M' el = some (.inl (G.2.1 3, cap, .inr (.inr (.inr (.inr (va_up f n (some v))))))) ∧ el ≠ fz ∧ xfr M M' [la, el]) (fun _ _ => False) := by
  refine xMet.of (by decide) (Nat.le_of_ble_eq_true rfl) ?_
  intro p e s m below meth c ls hC hr hnm hno hsz hw hl
  obtain ⟨hx, hb, hown, hts, hK, hml, hlk, hz⟩ := id hC
  have hl : lv_has ls 2 [(0, .ref la), (1, .ref v)] := hl
  have hF : xfr M M [la, el] := xfr.rf
  refine lv_aload_n hx hb d_AL_add_0 rfl (lv_at hl 0 rfl) ?_
  refine lv_dup hx hb d_AL_add_1 rfl ?_
  refine x_get hC hw h_la rfl 2 (by decide) (hts _ k_52) (u_same (hts _ k_53)) rfl d_AL_add_2 ?_
  refine lv_iconst (v := nI 1) hx hb d_AL_add_5 (by decide) ?_
  refine lv_iadd hx hb d_AL_add_6 ?_
  refine x_put (ty := .int) hC hw h_la rfl 2 (by decide) (hts _ k_52) (u_same (hts _ k_53)) rfl (by decide +kernel) rfl rfl (Nat.le_of_ble_eq_true rfl) d_AL_add_7 (fun M1 H locs em fr hw => ?_)
  have em : M1 la = some (.inr (8, [.ref el, .int (nI n), .int (mc + nI 1)])) := em
  have h_el := (fr _ (x_ne h_el h_la (by intro z; cases z))).trans h_el
  have h_v := (fr _ hvl).trans h_v
  have h_la := em
  have hF := hF.put em fr (Or.inl (by simp))
  refine lv_aload_n hx hb d_AL_add_10 rfl (lv_at hl 0 rfl) ?_
  refine lv_aload_n hx hb d_AL_add_11 rfl (lv_at hl 1 rfl) ?_
  refine lv_aload_n hx hb d_AL_add_12 rfl (lv_at hl 0 rfl) ?_
  refine x_get hC hw h_la rfl 0 (by decide) (hts _ k_49) (fun _ h9 => h9) rfl d_AL_add_13 ?_
  refine lv_aload_n hx hb d_AL_add_16 rfl (lv_at hl 0 rfl) ?_
  refine x_get hC hw h_la rfl 1 (by decide) (hts _ k_50) (fun _ h9 => h9) rfl d_AL_add_17 ?_
  have ne_h_v_h_el : v ≠ el := x_ne h_v h_el (by intro z; cases z)
  refine x_callG hC (c_AL_add2_R l G M1 (Array.size H) la el n cap ((mc + nI 1)) f ci N C T hc hca hci hn hcap h_la h_el v fsv hvl h_v) k_123 k_4 ⟨Nat.le_of_ble_eq_true rfl, Nat.le_of_ble_eq_true rfl⟩ ⟨Nat.le_of_ble_eq_true rfl, Nat.le_of_ble_eq_true rfl⟩ hw hl.1 (Nat.le_of_ble_eq_true rfl) d_AL_add_20 (x_ivV hC k_123 k_120 k_122 kp_0 (show _ ∧ _ ∧ _ = some 3 from by decide +kernel) (x_recv hC hw h_la rfl) rfl d_AL_add_20) (fun rv M2 H locs hq hw => ?_) (fun _ _ _ _ _ h _ _ => h.elim)
  obtain ⟨rfl, h_la, h_el, fr⟩ := hq
  have hF := hF.trans fr (by intro z hz; exact Or.inl hz)
  have h_v := fr.get h_v (by simp [hvl, ne_h_v_h_el])
  refine W.eq (g2 := F0 m 23 ls []) rfl ?_
  refine lv_iconst (v := nI 1) hx hb d_AL_add_23 (by decide) ?_
  exact x_zret hC hr hw (by decide +kernel) (⟨rfl, h_la, h_el, x_neN h_el (x_fz0 hC hw hzP), hF⟩) (Nat.le_of_ble_eq_true rfl) (Nat.le_of_ble_eq_true rfl) d_AL_add_24

theorem c_AL_add (l : Launch) (G : xT) (M : xMem) (sz : Nat) (la el fz n cap : Nat) (mc : Int32) (f : Nat → Option Nat) (ci N : Nat) (C : String) (T : u_T) (hc : classes[ci]? = some (C, T, N)) (hca : Cond.castable C "java/lang/Object" ∈ x_tbl) (hci : ci ≠ 8) (hfz : ("java/util/ArrayList", "DEFAULTCAPACITY_EMPTY_ELEMENTDATA", "[Ljava/lang/Object;", .ref fz) ∈ G.2.2.2) (hn : n ≤ cap) (hn2 : n < 22) (hcp : capP fz el cap) (hzP : fzP G fz) (hel : elP M ci n f) (h_la : M la = some (.inr (8, [.ref el, .int (nI n), .int mc]))) (h_el : cap ≠ 0 → M el = some (.inl (G.2.1 3, cap, .inr (.inr (.inr (.inr f)))))) (v : Nat) (fsv : List Value) (hvl : v ≠ la) (h_v : M v = some (.inr (ci, fsv))) : xMet l G y_AL_add (Cond.code y_AL_add b_AL_add 2 (Option.some Jvm.ClassFile.FieldType.boolean) :: x_tbl) { frames := 6, cells := 1, slots := 22, locals := 151 } [.ref la, .ref v] M sz (fun u M' => u = some (.int (nI 1)) ∧ ∃ el' cap', ∃ f' : Nat → Option Nat, M' la = some (.inr (8, [.ref el', .int (nI (n + 1)), .int (mc + nI 1)])) ∧ M' el' = some (.inl (G.2.1 3, cap', .inr (.inr (.inr (.inr f'))))) ∧ n < cap' ∧ capP fz el' cap' ∧ (∀ i, i < n → f' i = f i) ∧ f' n = some v ∧ (el' = el ∧ n < cap ∨ M el' = none) ∧ el' ≠ fz ∧ xfr M M' [la, el']) (fun _ _ => False) := by
  by_cases hz : n < cap
  · have hcap : cap < 2 ^ 31 := by
      unfold capP at hcp
      omega
    refine xMet.wk (c_AL_add_R l G M sz la el n cap mc f ci N C T hc hca hci hz hcap h_la (h_el (by omega)) v fsv hvl h_v fz hzP) ?_ (fun _ _ z => z)
    rintro u M' ⟨h1, h2, h3, h5, h4⟩
    exact ⟨h1, el, cap, _, h2, h3, hz, hcp, (fun i hi => va_up_ne _ _ (by omega)), va_up_self _ _ _, Or.inl ⟨rfl, hz⟩, h5, h4⟩
  · have e : n = cap := by omega
    subst e
    rcases hcp with ⟨rfl, rfl⟩ | rfl | rfl | rfl
    · refine xMet.wk (c_AL_add_0 l G M sz la _ hfz hzP  mc f ci N C T hc hca hci hel h_la v fsv hvl h_v) ?_ (fun _ _ z => z)
      rintro u M' ⟨h1, q, g, h2, h3, h4, h5, h6, h8, h7⟩
      exact ⟨h1, q, 10, g, h3, h4, by omega, Or.inr (Or.inl rfl), h5, h6, Or.inr h2, h8, h7.wide (by intro z hz; rw [List.mem_singleton.mp hz]; exact List.mem_cons_self)⟩
    · refine xMet.wk (c_AL_add_10 l G M sz la el  mc f ci N C T hc hca hci hel h_la (h_el (by decide)) v fsv hvl h_v fz hzP) ?_ (fun _ _ z => z)
      rintro u M' ⟨h1, q, g, h2, h3, h4, h5, h6, h8, h7⟩
      exact ⟨h1, q, 15, g, h3, h4, by omega, Or.inr (Or.inr (Or.inl rfl)), h5, h6, Or.inr h2, h8, h7.wide (by intro z hz; rw [List.mem_singleton.mp hz]; exact List.mem_cons_self)⟩
    · refine xMet.wk (c_AL_add_15 l G M sz la el  mc f ci N C T hc hca hci hel h_la (h_el (by decide)) v fsv hvl h_v fz hzP) ?_ (fun _ _ z => z)
      rintro u M' ⟨h1, q, g, h2, h3, h4, h5, h6, h8, h7⟩
      exact ⟨h1, q, 22, g, h3, h4, by omega, Or.inr (Or.inr (Or.inr rfl)), h5, h6, Or.inr h2, h8, h7.wide (by intro z hz; rw [List.mem_singleton.mp hz]; exact List.mem_cons_self)⟩
    · omega