/-! What is given at the start, as the walks want it. -/
section Z0
variable {s : State} {args : Array Value}
theorem z_int (h : (Cond.arrayClass .int).before args s = true) : ∃ c : ClassId, ArrOfT s c .int ∧ va_RA s c .int := by
  obtain ⟨c, k, comp, h1, h2, h3⟩ := Cond.arrayClass_spec h
  exact ⟨c, fun n z => ⟨(fun k h => by cases h), k, h2, comp, h3⟩, h1⟩
theorem z_byte (h : (Cond.arrayClass .byte).before args s = true) : ∃ c : ClassId, ArrOfT s c .byte ∧ va_RA s c .byte := by
  obtain ⟨c, k, comp, h1, h2, h3⟩ := Cond.arrayClass_spec h
  exact ⟨c, fun n z => ⟨(fun k h => by cases h), k, h2, comp, h3⟩, h1⟩
theorem z_long (h : (Cond.arrayClass .long).before args s = true) : ∃ c : ClassId, ArrOfT s c .long ∧ va_RA s c .long := by
  obtain ⟨c, k, comp, h1, h2, h3⟩ := Cond.arrayClass_spec h
  exact ⟨c, fun n z => ⟨(fun k h => by cases h), k, h2, comp, h3⟩, h1⟩
theorem z_bool (h : (Cond.arrayClass .boolean).before args s = true) : ∃ c : ClassId, ArrOfT s c .boolean ∧ va_RA s c .boolean := by
  obtain ⟨c, k, comp, h1, h2, h3⟩ := Cond.arrayClass_spec h
  exact ⟨c, fun n z => ⟨(fun k h => by cases h), k, h2, comp, h3⟩, h1⟩
theorem z_objN : "[" ++ (ClassFile.FieldType.object "java/lang/Object").toString = "[Ljava/lang/Object;" := by decide +kernel
theorem z_obj (h : (Cond.arrayOver (.object "java/lang/Object")).before args s = true) : ∃ c : ClassId, ArrOfT s c (.object "java/lang/Object") ∧ va_RA s c (.object "java/lang/Object") ∧ s.vm.findClass "[Ljava/lang/Object;" = some c := by
  obtain ⟨comp, c, k, h1, -, h2, h3, h4⟩ := Cond.arrayOver_spec h
  exact ⟨c, fun n z => ⟨(fun k h => by cases h), k, h2, comp, h3⟩, ⟨k, comp, h2, h3, h1, h4⟩, by rw [z_objN] at h4; exact h4⟩
theorem z_len {t : Term} {a : Nat} {cell : Cell} (ht : t.eval args s none [] s = some (.ref a)) (hc : s.heap[a]? = some cell) (h2 : (Cond.eq (.length t) (.int 0)).before args s = true) : cell.slots.size = 0 := by
  cases hv : (Term.length t).eval args s none [] s with
  | none => simp [Cond.before, Cond.holds, Cond.value, hv] at h2
  | some v =>
    obtain ⟨b, cell', ht', harr, hv2⟩ := Term.length_spec hv
    cases ht.symm.trans ht'
    obtain ⟨hc', -, -, -⟩ := State.arrayAt?_spec harr
    cases hc.symm.trans hc'
    have hsz : cell.slots.size < 2 ^ 31 := by
      simp only [Term.eval, ht, harr, Option.bind_eq_bind, Option.bind_some] at hv
      by_cases hlt : cell.slots.size < 2147483648
      · exact hlt
      · simp [hlt] at hv
    rw [hv2] at hv
    rw [Cond.before_iff, Cond.eq_ints hv (Term.int_eval 0)] at h2
    have h4 : cell.slots.size.toInt32 = 0 := by simpa using h2
    have h3 : nI cell.slots.size = 0 := h4
    rcases Nat.eq_zero_or_pos cell.slots.size with z | z
    · exact z
    · exact absurd h3 (nI_ne0 z hsz)
theorem z_str {own tx : String} {k : Nat} (h1 : (Cond.stringRef own k tx).before args s = true) (h2 : (Cond.exactly (.string own k) "java/lang/String").before args s = true) : ∃ q : Nat, vk_R own k tx q s := by
  obtain ⟨a, _, _, _, e, _⟩ := Cond.exactly_spec h2
  exact ⟨a, vk_R.of h1 e⟩
set_option maxRecDepth 100000 in
theorem z_K1 (hts : ∀ w ∈ x_tbl, w.before args s = true) : ∃ D : va_G, ∀ (c : Nat) (q : vw_C), classes[c]? = some q → u_Kn s q.1 q.2.1 q.2.2 (D.1 c) (D.2 c) := by
  obtain ⟨c0, i0, h0⟩ := u_known (C := "RedactCheck") (T := F_R) (N := 8) (n := 8) hts (x_allin 0 _ rfl) (hts _ k_28)
  obtain ⟨c1, i1, h1⟩ := u_known (C := "RedactCheck$SignRow") (T := F_S) (N := 3) (n := 3) hts (x_allin 1 _ rfl) (hts _ k_102)
  obtain ⟨c2, i2, h2⟩ := u_known (C := "RedactCheck$Codes") (T := F_C) (N := 2) (n := 2) hts (x_allin 2 _ rfl) (hts _ k_77)
  obtain ⟨c3, i3, h3⟩ := u_known (C := "RedactCheck$Word") (T := F_D) (N := 2) (n := 2) hts (x_allin 3 _ rfl) (hts _ k_476)
  obtain ⟨c4, i4, h4⟩ := u_known (C := "RedactCheck$Area") (T := F_A) (N := 5) (n := 5) hts (x_allin 4 _ rfl) (hts _ k_514)
  obtain ⟨c5, i5, h5⟩ := u_known (C := "RedactCheck$Use") (T := F_U) (N := 6) (n := 6) hts (x_allin 5 _ rfl) (hts _ k_441)
  obtain ⟨c6, i6, h6⟩ := u_known (C := "RedactCheck$Store") (T := F_T) (N := 3) (n := 3) hts (x_allin 6 _ rfl) (hts _ k_269)
  obtain ⟨c7, i7, h7⟩ := u_known (C := "RedactCheck$Findings") (T := F_F) (N := 2) (n := 2) hts (x_allin 7 _ rfl) (hts _ k_62)
  obtain ⟨c8, i8, h8⟩ := u_known (C := "java/util/ArrayList") (T := F_AL) (N := 3) (n := 3) hts (x_allin 8 _ rfl) (hts _ k_36)
  obtain ⟨c9, i9, h9⟩ := u_known (C := "RedactCheckModel") (T := F_M) (N := 32) (n := 32) hts (x_allin 9 _ rfl) (hts _ k_729)
  refine ⟨(fun k => match k with | 0 => c0 | 1 => c1 | 2 => c2 | 3 => c3 | 4 => c4 | 5 => c5 | 6 => c6 | 7 => c7 | 8 => c8 | _ => c9, fun k => match k with | 0 => i0 | 1 => i1 | 2 => i2 | 3 => i3 | 4 => i4 | 5 => i5 | 6 => i6 | 7 => i7 | 8 => i8 | _ => i9), ?_⟩
  intro k q hq
  match k, hq with
  | 0, hq => cases hq; exact h0
  | 1, hq => cases hq; exact h1
  | 2, hq => cases hq; exact h2
  | 3, hq => cases hq; exact h3
  | 4, hq => cases hq; exact h4
  | 5, hq => cases hq; exact h5
  | 6, hq => cases hq; exact h6
  | 7, hq => cases hq; exact h7
  | 8, hq => cases hq; exact h8
  | 9, hq => cases hq; exact h9
  | k + 10, hq => simp [classes] at hq
theorem z_K (hts : ∀ w ∈ x_tbl, w.before args s = true) (mi : Nat) : ∃ (D : va_G) (cT : Nat → ClassId), va_K D classes (xtys cT) s ∧ cT 9 = mi ∧ s.vm.findClass "[Ljava/lang/Object;" = some (cT 3) := by
  obtain ⟨D, hD⟩ := z_K1 hts
  obtain ⟨a0, x0, y0⟩ := z_int (hts _ k_75)
  obtain ⟨a1, x1, y1⟩ := z_byte (hts _ k_366)
  obtain ⟨a2, x2, y2⟩ := z_long (hts _ k_972)
  obtain ⟨a3, x3, y3, z3⟩ := z_obj (hts _ k_166)
  obtain ⟨a4, x4, y4⟩ := z_bool (hts _ k_831)
  refine ⟨D, fun k => match k with | 0 => a0 | 1 => a1 | 2 => a2 | 3 => a3 | 4 => a4 | 9 => mi | _ => 0, ⟨hD, ?_⟩, rfl, z3⟩
  intro k q hq
  match k, hq with
  | 0, hq => cases Option.some.inj (show some (a0, ClassFile.FieldType.int) = some q from hq); exact ⟨x0, y0⟩
  | 1, hq => cases Option.some.inj (show some (a1, ClassFile.FieldType.byte) = some q from hq); exact ⟨x1, y1⟩
  | 2, hq => cases Option.some.inj (show some (a2, ClassFile.FieldType.long) = some q from hq); exact ⟨x2, y2⟩
  | 3, hq => cases Option.some.inj (show some (a3, ClassFile.FieldType.object "java/lang/Object") = some q from hq); exact ⟨x3, y3⟩
  | 4, hq => cases Option.some.inj (show some (a4, ClassFile.FieldType.boolean) = some q from hq); exact ⟨x4, y4⟩
  | k + 5, hq => simp [xtys] at hq
theorem z_A {sz : Nat} : ∀ a : Nat, a < sz → ¬ xA (fun _ => none) sz a := by
  intro a ha h
  rcases h with h | h
  · exact h rfl
  · exact absurd ha (Nat.not_lt.mpr h)
theorem z_W {G : xT} {H : Heap} : xWd G (xA (fun _ => none) H.size) H (fun _ => none) H [] := by
  refine ⟨[], fun _ => .inr (0, []), ?_, fun k q h => ?_, ⟨fun i j p q h => ?_, fun k q h => ?_⟩, va_S.rf, fun q h => Or.inr h⟩
  · funext a
    simp [xof]
  · simp [va_pl] at h
  · simp [va_pl] at h
  · simp [va_pl] at h
set_option maxRecDepth 100000 in
theorem z_m1 : Cond.exactly (.static "java/util/ArrayList" "DEFAULTCAPACITY_EMPTY_ELEMENTDATA" "[Ljava/lang/Object;") "[Ljava/lang/Object;" ∈ flatC (Jvm.Cond.and given_1 narrow_1) := by decide +kernel
set_option maxRecDepth 100000 in
theorem z_m2 : Cond.eq (.length (.static "java/util/ArrayList" "DEFAULTCAPACITY_EMPTY_ELEMENTDATA" "[Ljava/lang/Object;")) (.int 0) ∈ flatC (Jvm.Cond.and given_1 narrow_1) := by decide +kernel
set_option maxRecDepth 100000 in
theorem z_m3 : Cond.isRef (.static "java/lang/Throwable" "UNASSIGNED_STACK" "[Ljava/lang/StackTraceElement;") ∈ flatC (Jvm.Cond.and given_1 narrow_1) := by decide +kernel
set_option maxRecDepth 100000 in
theorem z_m4 : Cond.isRef (.static "java/lang/Throwable" "SUPPRESSED_SENTINEL" "Ljava/util/List;") ∈ flatC (Jvm.Cond.and given_1 narrow_1) := by decide +kernel
set_option maxRecDepth 100000 in
theorem z_m5 : Cond.isRef (.mirror "[Ljava/lang/Object;") ∈ flatC (Jvm.Cond.and given_1 narrow_1) := by decide +kernel
set_option maxRecDepth 100000 in
theorem z_n0 : Cond.not (.castable "java/lang/IllegalArgumentException" "java/lang/IndexOutOfBoundsException") ∈ flatC (Jvm.Cond.and given_1 narrow_1) := by decide +kernel
set_option maxRecDepth 100000 in
theorem z_n1 : Cond.not (.castable "java/lang/UnsupportedOperationException" "java/lang/IndexOutOfBoundsException") ∈ flatC (Jvm.Cond.and given_1 narrow_1) := by decide +kernel
set_option maxRecDepth 100000 in
theorem z_n2 : Cond.not (.castable "java/lang/UnsupportedOperationException" "java/lang/IllegalArgumentException") ∈ flatC (Jvm.Cond.and given_1 narrow_1) := by decide +kernel
set_option maxRecDepth 100000 in
theorem z_s183 : Cond.exactly (.string "RedactCheck" 183) "java/lang/String" ∈ flatC (Jvm.Cond.and given_1 narrow_1) := by decide +kernel
set_option maxRecDepth 100000 in
theorem z_s179 : Cond.exactly (.string "RedactCheck" 179) "java/lang/String" ∈ flatC (Jvm.Cond.and given_1 narrow_1) := by decide +kernel
set_option maxRecDepth 100000 in
theorem z_s181 : Cond.exactly (.string "RedactCheck" 181) "java/lang/String" ∈ flatC (Jvm.Cond.and given_1 narrow_1) := by decide +kernel
set_option maxRecDepth 100000 in
theorem z_s177 : Cond.exactly (.string "RedactCheck" 177) "java/lang/String" ∈ flatC (Jvm.Cond.and given_1 narrow_1) := by decide +kernel
set_option maxRecDepth 100000 in
theorem z_s185 : Cond.exactly (.string "RedactCheck" 185) "java/lang/String" ∈ flatC (Jvm.Cond.and given_1 narrow_1) := by decide +kernel
set_option maxRecDepth 100000 in
theorem z_s91 : Cond.exactly (.string "RedactCheck" 91) "java/lang/String" ∈ flatC (Jvm.Cond.and given_1 narrow_1) := by decide +kernel
set_option maxRecDepth 100000 in
theorem z_s187 : Cond.exactly (.string "RedactCheck" 187) "java/lang/String" ∈ flatC (Jvm.Cond.and given_1 narrow_1) := by decide +kernel
set_option maxRecDepth 100000 in
theorem z_s123 : Cond.exactly (.string "RedactCheck" 123) "java/lang/String" ∈ flatC (Jvm.Cond.and given_1 narrow_1) := by decide +kernel
set_option maxRecDepth 100000 in
theorem z_s169 : Cond.exactly (.string "RedactCheck" 169) "java/lang/String" ∈ flatC (Jvm.Cond.and given_1 narrow_1) := by decide +kernel
set_option maxRecDepth 100000 in
theorem z_s175 : Cond.exactly (.string "RedactCheck" 175) "java/lang/String" ∈ flatC (Jvm.Cond.and given_1 narrow_1) := by decide +kernel
theorem z_l0 : Cond.laysStatic "java/util/ArrayList" "DEFAULTCAPACITY_EMPTY_ELEMENTDATA" "[Ljava/lang/Object;" ∈ lw_tbl := List.mem_append_right _ (by show _ ∈ tables_1_1 ++ (tables_1_2 ++ (tables_1_3 ++ (tables_1_4 ++ tables_1_5))); exact List.mem_append_left _ (List.mem_of_getElem? (i := 48) rfl))
theorem z_l1 : Cond.laysStatic "java/lang/Throwable" "UNASSIGNED_STACK" "[Ljava/lang/StackTraceElement;" ∈ lw_tbl := List.mem_append_right _ (by show _ ∈ tables_1_1 ++ (tables_1_2 ++ (tables_1_3 ++ (tables_1_4 ++ tables_1_5))); exact List.mem_append_right _ (List.mem_append_left _ (List.mem_of_getElem? (i := 86) rfl)))
theorem z_l2 : Cond.laysStatic "java/lang/Throwable" "SUPPRESSED_SENTINEL" "Ljava/util/List;" ∈ lw_tbl := List.mem_append_right _ (by show _ ∈ tables_1_1 ++ (tables_1_2 ++ (tables_1_3 ++ (tables_1_4 ++ tables_1_5))); exact List.mem_append_right _ (List.mem_append_left _ (List.mem_of_getElem? (i := 88) rfl)))
set_option maxHeartbeats 1000000 in
theorem z_G (hl : ∀ w ∈ lw_tbl, w.before args s = true) (hgv : (Jvm.Cond.and given_1 narrow_1).before args s = true) : ∃ (G : xT) (fz : Nat), va_K G.1 classes (xtys G.2.1) s ∧ xfz G (xA (fun _ => none) s.heap.size) s ∧ ("java/util/ArrayList", "DEFAULTCAPACITY_EMPTY_ELEMENTDATA", "[Ljava/lang/Object;", Value.ref fz) ∈ G.2.2.2 ∧ fzP G fz := by
  have hs := flat_of_before _ hgv
  have hts : ∀ w ∈ x_tbl, w.before args s = true := fun w h => hl w (List.mem_filter.mp h).1
  obtain ⟨mi, hmi⟩ := va_Mi.of (hs _ z_m5)
  obtain ⟨D, cT, hK, h9, hf3⟩ := z_K hts mi
  obtain ⟨fz, c, cell, k, e1, e2, e3, e4, e5, e6, -⟩ := Cond.exactly_spec (hs _ z_m1)
  have e7 := z_len e1 e3 (hs _ z_m2)
  have hcc : cell.cls = cT 3 := by
    rw [e6]
    exact Option.some.inj (e2.symm.trans hf3)
  refine ⟨(D, cT, [(fz, cell)], [("java/util/ArrayList", "DEFAULTCAPACITY_EMPTY_ELEMENTDATA", "[Ljava/lang/Object;", Value.ref fz)]), fz, hK, ⟨fun q hq => ?_, fun z hz => ?_, fun a ce h _ => z_A a (Array.getElem?_eq_some_iff.mp h).1, fun w hw => ?_, fun z hz => ?_, fun z hz => ?_, ?_, hf3⟩, List.mem_singleton.mpr rfl, cell, List.mem_singleton.mpr rfl, hcc, e7, e5⟩
  · cases List.mem_singleton.mp hq
    exact ⟨z_A fz (Array.getElem?_eq_some_iff.mp e3).1, e3⟩
  · cases List.mem_singleton.mp hz
    exact va_Zref (hl _ z_l0) (hts _ k_4) e1 (fun a h => z_A a h)
  · simp only [x_stw, List.mem_cons, List.not_mem_nil, or_false] at hw
    rcases hw with rfl | rfl | rfl | rfl
    · exact x_lsKept (Vm.Alike.refl s.vm) (fun _ _ h _ => h) (hl _ z_l1)
    · exact x_lsKept (Vm.Alike.refl s.vm) (fun _ _ h _ => h) (hl _ z_l2)
    · exact x_irKept (Vm.Alike.refl s.vm) (fun _ _ h _ => h) (hl _ z_l1) (hs _ z_m3)
    · exact x_irKept (Vm.Alike.refl s.vm) (fun _ _ h _ => h) (hl _ z_l2) (hs _ z_m4)
  · simp only [x_strs, List.mem_cons, List.not_mem_nil, or_false] at hz
    rcases hz with rfl | rfl | rfl | rfl | rfl | rfl | rfl | rfl | rfl | rfl
    · exact z_str (hts _ k_340) (hs _ z_s183)
    · exact z_str (hts _ k_382) (hs _ z_s179)
    · exact z_str (hts _ k_401) (hs _ z_s181)
    · exact z_str (hts _ k_440) (hs _ z_s177)
    · exact z_str (hts _ k_500) (hs _ z_s185)
    · exact z_str (hts _ k_501) (hs _ z_s91)
    · exact z_str (hts _ k_570) (hs _ z_s187)
    · exact z_str (hts _ k_611) (hs _ z_s123)
    · exact z_str (hts _ k_719) (hs _ z_s169)
    · exact z_str (hts _ k_727) (hs _ z_s175)
  · simp only [x_ncs, List.mem_cons, List.not_mem_nil, or_false] at hz
    rcases hz with rfl | rfl | rfl
    · exact va_Nc.of (hs _ z_n0)
    · exact va_Nc.of (hs _ z_n1)
    · exact va_Nc.of (hs _ z_n2)
  · show va_Mi "[Ljava/lang/Object;" (cT 9) s
    rw [h9]
    exact hmi
end Z0
