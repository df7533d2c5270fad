/-! the reference's object, made -/
def iniP (G : xT) (M0 M : xMem) (am : Nat → Nat) (D : List Nat) : Prop := (∀ k ∈ D, M (am k) = some (.inl (G.2.1 (if mIsZ k = true then 4 else 0), mlen k, .inl (fun _ => nI 0))) ∧ M0 (am k) = none) ∧ ∀ k ∈ D, ∀ j ∈ D, am k = am j → k = j
theorem iniP.nil {G : xT} {M0 M : xMem} {am : Nat → Nat} : iniP G M0 M am [] := ⟨fun k h => absurd h List.not_mem_nil, fun k h => absurd h List.not_mem_nil⟩
theorem iniP.new {G : xT} {M0 M M1 : xMem} {am : Nat → Nat} {D : List Nat} {k q : Nat} (h : iniP G M0 M am D) (hk : k ∉ D) (hn : M q = none) (h0 : M0 q = none) (em : M1 q = some (.inl (G.2.1 (if mIsZ k = true then 4 else 0), mlen k, .inl (fun _ => nI 0)))) (fr : ∀ b, b ≠ q → M1 b = M b) : iniP G M0 M1 (va_up am k q) (k :: D) := by
  have old : ∀ j ∈ D, va_up am k q j = am j := fun j hj => va_up_ne _ _ (fun z => hk (z ▸ hj))
  refine ⟨fun j hj => ?_, fun i hi j hj e => ?_⟩
  · rcases List.mem_cons.mp hj with rfl | hj
    · rw [va_up_self]
      exact ⟨em, h0⟩
    · rw [old j hj]
      exact ⟨(fr _ (x_neN (h.1 j hj).1 hn)).trans (h.1 j hj).1, (h.1 j hj).2⟩
  · rcases List.mem_cons.mp hi with zi | zi
    · rcases List.mem_cons.mp hj with zj | zj
      · exact zi.trans zj.symm
      · rw [zi, va_up_self, old j zj] at e
        exact absurd e.symm (x_neN (h.1 j zj).1 hn)
    · rcases List.mem_cons.mp hj with zj | zj
      · rw [zj, va_up_self, old i zi] at e
        exact absurd e (x_neN (h.1 i zi).1 hn)
      · rw [old i zi, old j zj] at e
        exact h.2 i zi j zj e
theorem iniP.put {G : xT} {M0 M M1 : xMem} {am : Nat → Nat} {D : List Nat} {a ci : Nat} {fs : List Value} (h : iniP G M0 M am D) (ha : M a = some (.inr (ci, fs))) (fr : ∀ b, b ≠ a → M1 b = M b) : iniP G M0 M1 am D :=
  ⟨fun k hk => ⟨(fr _ (x_ne (h.1 k hk).1 ha (by intro z; cases z))).trans (h.1 k hk).1, (h.1 k hk).2⟩, h.2⟩
theorem iniP.rep {G : xT} {M0 M : xMem} {am : Nat → Nat} {D : List Nat} {md : Nat} (h : iniP G M0 M am D) (hD : ∀ k, mIsA k = true → k ∈ D) (hmd : M md = some (.inr (9, mfs am (fun _ _ => 0)))) : mRep G M md am (fun _ _ => 0) (fun _ _ => nI 0) ∧ ∀ k, mIsA k = true → M0 (am k) = none := by
  refine ⟨⟨hmd, fun k hk => ?_, fun k j hk hj e => h.2 k (hD k hk) j (hD j hj) e⟩, fun k hk => (h.1 k (hD k hk)).2⟩
  rw [(h.1 k (hD k hk)).1]
  unfold mfun
  by_cases hN : mIsN k = true
  · rw [if_pos hN]
  · rw [if_neg hN]
theorem mIsA_l {k : Nat} (h : mIsA k = true) : k = 1 ∨ k = 2 ∨ k = 3 ∨ k = 4 ∨ k = 5 ∨ k = 8 ∨ k = 9 ∨ k = 10 ∨ k = 11 ∨ k = 13 ∨ k = 14 ∨ k = 16 ∨ k = 17 ∨ k = 18 ∨ k = 19 ∨ k = 20 ∨ k = 22 ∨ k = 23 ∨ k = 24 ∨ k = 26 ∨ k = 27 ∨ k = 28 ∨ k = 30 ∨ k = 31 := by
  simp only [mIsA, mIsN, mIsZ, mIsI, Bool.or_eq_true, beq_iff_eq] at h
  omega
set_option maxHeartbeats 4000000 in
set_option maxRecDepth 100000 in
/-- the reference, made -/
theorem c_M_init (l : Launch) (G : xT) (M : xMem) (sz : Nat) (md : Nat) (h_md : M md = some (.inr (9, [.int (nI 0), .null, .null, .null, .null, .null, .int (nI 0), .int (nI 0), .null, .null, .null, .null, .int (nI 0), .null, .null, .int (nI 0), .null, .null, .null, .null, .null, .int (nI 0), .null, .null, .null, .int (nI 0), .null, .null, .null, .int (nI 0), .null, .null]))) : xMet l G y_M_init (Cond.code y_M_init b_M_init 1 none :: x_tbl) { frames := 1, cells := 24, slots := 5756, locals := 12 } [.ref md] M sz (fun u M' => u = none ∧ ∃ am : Nat → Nat, mRep G M' md am (fun _ _ => 0) (fun _ _ => nI 0) ∧ xfr M M' [md] ∧ ∀ k, mIsA k = true → M (am k) = none) (fun _ _ => False) := by
  refine xMet.of (by decide) (Nat.le_of_ble_eq_true rfl) ?_
  intro p e s m below meth c ls hC hr hnm hno hsz hw hl
  obtain ⟨hx, hb, hown, hts, hK, hml, hlk, hz⟩ := id hC
  have hl : lv_has ls 1 [(0, .ref md)] := hl
  have hin : meth.name = "<init>" := hnm
  have hF : xfr M M [md] := xfr.rf
  have hI : iniP G M M (fun _ => 0) [] := iniP.nil
  refine lv_aload_n hx hb d_M_init_0 rfl (lv_at hl 0 rfl) ?_
  refine x_objInit hC k_733 hl.1 (Nat.le_of_ble_eq_true rfl) (Nat.le_of_ble_eq_true rfl) d_M_init_1 ?_
  refine lv_aload_n hx hb d_M_init_4 rfl (lv_at hl 0 rfl) ?_
  refine lv_bipush (v := nI 24) hx hb d_M_init_5 (by decide) ?_
  refine x_newa (atype := .int) (a0 := (24, .inl (fun _ => nI 0))) (N' := 24) hC hw (hts _ k_75) rfl 0 rfl (fun _ z => by cases z) (fun _ => rfl) (by decide +kernel) (by decide +kernel) (by decide +kernel) (Nat.le_of_ble_eq_true rfl) (Nat.le_of_ble_eq_true rfl) d_M_init_7 (fun q1 M2 H hn em fr hw => ?_)
  have ne_h_md_q1 : md ≠ q1 := x_neN h_md hn
  have h_md := (fr _ ne_h_md_q1).trans h_md
  have h_q1 := em
  have hn_q1 := hF.none hn
  have hF := hF.put em fr (Or.inr hn)
  have hI := hI.new (k := 1) (q := q1) (by decide) hn hn_q1 em fr
  have h_md0 := h_md
  refine x_putF (ty := .array .int) hC hw h_md rfl 1 (by decide) (hts _ k_735) (fun _ h9 => h9) rfl hin rfl (by decide +kernel) rfl rfl (Nat.le_of_ble_eq_true rfl) d_M_init_9 (fun M3 H locs em fr hw => ?_)
  have em : M3 md = some (.inr (9, [.int (nI 0), .ref q1, .null, .null, .null, .null, .int (nI 0), .int (nI 0), .null, .null, .null, .null, .int (nI 0), .null, .null, .int (nI 0), .null, .null, .null, .null, .null, .int (nI 0), .null, .null, .null, .int (nI 0), .null, .null, .null, .int (nI 0), .null, .null])) := em
  have h_md := em
  have hF := hF.put em fr (Or.inl (by simp))
  have hI := hI.put h_md0 fr
  refine lv_aload_n hx hb d_M_init_12 rfl (lv_at hl 0 rfl) ?_
  refine lv_sipush (v := nI 960) hx hb d_M_init_13 (by decide) ?_
  refine x_newa (atype := .int) (a0 := (960, .inl (fun _ => nI 0))) (N' := 960) hC hw (hts _ k_75) rfl 0 rfl (fun _ z => by cases z) (fun _ => rfl) (by decide +kernel) (by decide +kernel) (by decide +kernel) (Nat.le_of_ble_eq_true rfl) (Nat.le_of_ble_eq_true rfl) d_M_init_16 (fun q4 M5 H hn em fr hw => ?_)
  have ne_h_md_q4 : md ≠ q4 := x_neN h_md hn
  have h_md := (fr _ ne_h_md_q4).trans h_md
  have h_q4 := em
  have hn_q4 := hF.none hn
  have hF := hF.put em fr (Or.inr hn)
  have hI := hI.new (k := 2) (q := q4) (by decide) hn hn_q4 em fr
  have h_md0 := h_md
  refine x_putF (ty := .array .int) hC hw h_md rfl 2 (by decide) (hts _ k_736) (fun _ h9 => h9) rfl hin rfl (by decide +kernel) rfl rfl (Nat.le_of_ble_eq_true rfl) d_M_init_18 (fun M6 H locs em fr hw => ?_)
  have em : M6 md = some (.inr (9, [.int (nI 0), .ref q1, .ref q4, .null, .null, .null, .int (nI 0), .int (nI 0), .null, .null, .null, .null, .int (nI 0), .null, .null, .int (nI 0), .null, .null, .null, .null, .null, .int (nI 0), .null, .null, .null, .int (nI 0), .null, .null, .null, .int (nI 0), .null, .null])) := em
  have h_md := em
  have hF := hF.put em fr (Or.inl (by simp))
  have hI := hI.put h_md0 fr
  refine lv_aload_n hx hb d_M_init_21 rfl (lv_at hl 0 rfl) ?_
  refine lv_sipush (v := nI 960) hx hb d_M_init_22 (by decide) ?_
  refine x_newa (atype := .int) (a0 := (960, .inl (fun _ => nI 0))) (N' := 960) hC hw (hts _ k_75) rfl 0 rfl (fun _ z => by cases z) (fun _ => rfl) (by decide +kernel) (by decide +kernel) (by decide +kernel) (Nat.le_of_ble_eq_true rfl) (Nat.le_of_ble_eq_true rfl) d_M_init_25 (fun q7 M8 H hn em fr hw => ?_)
  have ne_h_md_q7 : md ≠ q7 := x_neN h_md hn
  have h_md := (fr _ ne_h_md_q7).trans h_md
  have h_q7 := em
  have hn_q7 := hF.none hn
  have hF := hF.put em fr (Or.inr hn)
  have hI := hI.new (k := 3) (q := q7) (by decide) hn hn_q7 em fr
  have h_md0 := h_md
  refine x_putF (ty := .array .int) hC hw h_md rfl 3 (by decide) (hts _ k_737) (fun _ h9 => h9) rfl hin rfl (by decide +kernel) rfl rfl (Nat.le_of_ble_eq_true rfl) d_M_init_27 (fun M9 H locs em fr hw => ?_)
  have em : M9 md = some (.inr (9, [.int (nI 0), .ref q1, .ref q4, .ref q7, .null, .null, .int (nI 0), .int (nI 0), .null, .null, .null, .null, .int (nI 0), .null, .null, .int (nI 0), .null, .null, .null, .null, .null, .int (nI 0), .null, .null, .null, .int (nI 0), .null, .null, .null, .int (nI 0), .null, .null])) := em
  have h_md := em
  have hF := hF.put em fr (Or.inl (by simp))
  have hI := hI.put h_md0 fr
  refine lv_aload_n hx hb d_M_init_30 rfl (lv_at hl 0 rfl) ?_
  refine lv_sipush (v := nI 960) hx hb d_M_init_31 (by decide) ?_
  refine x_newa (atype := .int) (a0 := (960, .inl (fun _ => nI 0))) (N' := 960) hC hw (hts _ k_75) rfl 0 rfl (fun _ z => by cases z) (fun _ => rfl) (by decide +kernel) (by decide +kernel) (by decide +kernel) (Nat.le_of_ble_eq_true rfl) (Nat.le_of_ble_eq_true rfl) d_M_init_34 (fun q10 M11 H hn em fr hw => ?_)
  have ne_h_md_q10 : md ≠ q10 := x_neN h_md hn
  have h_md := (fr _ ne_h_md_q10).trans h_md
  have h_q10 := em
  have hn_q10 := hF.none hn
  have hF := hF.put em fr (Or.inr hn)
  have hI := hI.new (k := 4) (q := q10) (by decide) hn hn_q10 em fr
  have h_md0 := h_md
  refine x_putF (ty := .array .int) hC hw h_md rfl 4 (by decide) (hts _ k_738) (fun _ h9 => h9) rfl hin rfl (by decide +kernel) rfl rfl (Nat.le_of_ble_eq_true rfl) d_M_init_36 (fun M12 H locs em fr hw => ?_)
  have em : M12 md = some (.inr (9, [.int (nI 0), .ref q1, .ref q4, .ref q7, .ref q10, .null, .int (nI 0), .int (nI 0), .null, .null, .null, .null, .int (nI 0), .null, .null, .int (nI 0), .null, .null, .null, .null, .null, .int (nI 0), .null, .null, .null, .int (nI 0), .null, .null, .null, .int (nI 0), .null, .null])) := em
  have h_md := em
  have hF := hF.put em fr (Or.inl (by simp))
  have hI := hI.put h_md0 fr
  refine lv_aload_n hx hb d_M_init_39 rfl (lv_at hl 0 rfl) ?_
  refine lv_sipush (v := nI 960) hx hb d_M_init_40 (by decide) ?_
  refine x_newa (atype := .int) (a0 := (960, .inl (fun _ => nI 0))) (N' := 960) hC hw (hts _ k_75) rfl 0 rfl (fun _ z => by cases z) (fun _ => rfl) (by decide +kernel) (by decide +kernel) (by decide +kernel) (Nat.le_of_ble_eq_true rfl) (Nat.le_of_ble_eq_true rfl) d_M_init_43 (fun q13 M14 H hn em fr hw => ?_)
  have ne_h_md_q13 : md ≠ q13 := x_neN h_md hn
  have h_md := (fr _ ne_h_md_q13).trans h_md
  have h_q13 := em
  have hn_q13 := hF.none hn
  have hF := hF.put em fr (Or.inr hn)
  have hI := hI.new (k := 5) (q := q13) (by decide) hn hn_q13 em fr
  have h_md0 := h_md
  refine x_putF (ty := .array .int) hC hw h_md rfl 5 (by decide) (hts _ k_739) (fun _ h9 => h9) rfl hin rfl (by decide +kernel) rfl rfl (Nat.le_of_ble_eq_true rfl) d_M_init_45 (fun M15 H locs em fr hw => ?_)
  have em : M15 md = some (.inr (9, [.int (nI 0), .ref q1, .ref q4, .ref q7, .ref q10, .ref q13, .int (nI 0), .int (nI 0), .null, .null, .null, .null, .int (nI 0), .null, .null, .int (nI 0), .null, .null, .null, .null, .null, .int (nI 0), .null, .null, .null, .int (nI 0), .null, .null, .null, .int (nI 0), .null, .null])) := em
  have h_md := em
  have hF := hF.put em fr (Or.inl (by simp))
  have hI := hI.put h_md0 fr
  refine lv_aload_n hx hb d_M_init_48 rfl (lv_at hl 0 rfl) ?_
  refine lv_bipush (v := nI 12) hx hb d_M_init_49 (by decide) ?_
  refine x_newa (atype := .int) (a0 := (12, .inl (fun _ => nI 0))) (N' := 12) hC hw (hts _ k_75) rfl 0 rfl (fun _ z => by cases z) (fun _ => rfl) (by decide +kernel) (by decide +kernel) (by decide +kernel) (Nat.le_of_ble_eq_true rfl) (Nat.le_of_ble_eq_true rfl) d_M_init_51 (fun q16 M17 H hn em fr hw => ?_)
  have ne_h_md_q16 : md ≠ q16 := x_neN h_md hn
  have h_md := (fr _ ne_h_md_q16).trans h_md
  have h_q16 := em
  have hn_q16 := hF.none hn
  have hF := hF.put em fr (Or.inr hn)
  have hI := hI.new (k := 8) (q := q16) (by decide) hn hn_q16 em fr
  have h_md0 := h_md
  refine x_putF (ty := .array .int) hC hw h_md rfl 8 (by decide) (hts _ k_742) (fun _ h9 => h9) rfl hin rfl (by decide +kernel) rfl rfl (Nat.le_of_ble_eq_true rfl) d_M_init_53 (fun M18 H locs em fr hw => ?_)
  have em : M18 md = some (.inr (9, [.int (nI 0), .ref q1, .ref q4, .ref q7, .ref q10, .ref q13, .int (nI 0), .int (nI 0), .ref q16, .null, .null, .null, .int (nI 0), .null, .null, .int (nI 0), .null, .null, .null, .null, .null, .int (nI 0), .null, .null, .null, .int (nI 0), .null, .null, .null, .int (nI 0), .null, .null])) := em
  have h_md := em
  have hF := hF.put em fr (Or.inl (by simp))
  have hI := hI.put h_md0 fr
  refine lv_aload_n hx hb d_M_init_56 rfl (lv_at hl 0 rfl) ?_
  refine lv_bipush (v := nI 12) hx hb d_M_init_57 (by decide) ?_
  refine x_newa (atype := .int) (a0 := (12, .inl (fun _ => nI 0))) (N' := 12) hC hw (hts _ k_75) rfl 0 rfl (fun _ z => by cases z) (fun _ => rfl) (by decide +kernel) (by decide +kernel) (by decide +kernel) (Nat.le_of_ble_eq_true rfl) (Nat.le_of_ble_eq_true rfl) d_M_init_59 (fun q19 M20 H hn em fr hw => ?_)
  have ne_h_md_q19 : md ≠ q19 := x_neN h_md hn
  have h_md := (fr _ ne_h_md_q19).trans h_md
  have h_q19 := em
  have hn_q19 := hF.none hn
  have hF := hF.put em fr (Or.inr hn)
  have hI := hI.new (k := 9) (q := q19) (by decide) hn hn_q19 em fr
  have h_md0 := h_md
  refine x_putF (ty := .array .int) hC hw h_md rfl 9 (by decide) (hts _ k_743) (fun _ h9 => h9) rfl hin rfl (by decide +kernel) rfl rfl (Nat.le_of_ble_eq_true rfl) d_M_init_61 (fun M21 H locs em fr hw => ?_)
  have em : M21 md = some (.inr (9, [.int (nI 0), .ref q1, .ref q4, .ref q7, .ref q10, .ref q13, .int (nI 0), .int (nI 0), .ref q16, .ref q19, .null, .null, .int (nI 0), .null, .null, .int (nI 0), .null, .null, .null, .null, .null, .int (nI 0), .null, .null, .null, .int (nI 0), .null, .null, .null, .int (nI 0), .null, .null])) := em
  have h_md := em
  have hF := hF.put em fr (Or.inl (by simp))
  have hI := hI.put h_md0 fr
  refine lv_aload_n hx hb d_M_init_64 rfl (lv_at hl 0 rfl) ?_
  refine lv_bipush (v := nI 12) hx hb d_M_init_65 (by decide) ?_
  refine x_newa (atype := .int) (a0 := (12, .inl (fun _ => nI 0))) (N' := 12) hC hw (hts _ k_75) rfl 0 rfl (fun _ z => by cases z) (fun _ => rfl) (by decide +kernel) (by decide +kernel) (by decide +kernel) (Nat.le_of_ble_eq_true rfl) (Nat.le_of_ble_eq_true rfl) d_M_init_67 (fun q22 M23 H hn em fr hw => ?_)
  have ne_h_md_q22 : md ≠ q22 := x_neN h_md hn
  have h_md := (fr _ ne_h_md_q22).trans h_md
  have h_q22 := em
  have hn_q22 := hF.none hn
  have hF := hF.put em fr (Or.inr hn)
  have hI := hI.new (k := 10) (q := q22) (by decide) hn hn_q22 em fr
  have h_md0 := h_md
  refine x_putF (ty := .array .int) hC hw h_md rfl 10 (by decide) (hts _ k_744) (fun _ h9 => h9) rfl hin rfl (by decide +kernel) rfl rfl (Nat.le_of_ble_eq_true rfl) d_M_init_69 (fun M24 H locs em fr hw => ?_)
  have em : M24 md = some (.inr (9, [.int (nI 0), .ref q1, .ref q4, .ref q7, .ref q10, .ref q13, .int (nI 0), .int (nI 0), .ref q16, .ref q19, .ref q22, .null, .int (nI 0), .null, .null, .int (nI 0), .null, .null, .null, .null, .null, .int (nI 0), .null, .null, .null, .int (nI 0), .null, .null, .null, .int (nI 0), .null, .null])) := em
  have h_md := em
  have hF := hF.put em fr (Or.inl (by simp))
  have hI := hI.put h_md0 fr
  refine lv_aload_n hx hb d_M_init_72 rfl (lv_at hl 0 rfl) ?_
  refine lv_bipush (v := nI 12) hx hb d_M_init_73 (by decide) ?_
  refine x_newa (atype := .int) (a0 := (12, .inl (fun _ => nI 0))) (N' := 12) hC hw (hts _ k_75) rfl 0 rfl (fun _ z => by cases z) (fun _ => rfl) (by decide +kernel) (by decide +kernel) (by decide +kernel) (Nat.le_of_ble_eq_true rfl) (Nat.le_of_ble_eq_true rfl) d_M_init_75 (fun q25 M26 H hn em fr hw => ?_)
  have ne_h_md_q25 : md ≠ q25 := x_neN h_md hn
  have h_md := (fr _ ne_h_md_q25).trans h_md
  have h_q25 := em
  have hn_q25 := hF.none hn
  have hF := hF.put em fr (Or.inr hn)
  have hI := hI.new (k := 11) (q := q25) (by decide) hn hn_q25 em fr
  have h_md0 := h_md
  refine x_putF (ty := .array .int) hC hw h_md rfl 11 (by decide) (hts _ k_745) (fun _ h9 => h9) rfl hin rfl (by decide +kernel) rfl rfl (Nat.le_of_ble_eq_true rfl) d_M_init_77 (fun M27 H locs em fr hw => ?_)
  have em : M27 md = some (.inr (9, [.int (nI 0), .ref q1, .ref q4, .ref q7, .ref q10, .ref q13, .int (nI 0), .int (nI 0), .ref q16, .ref q19, .ref q22, .ref q25, .int (nI 0), .null, .null, .int (nI 0), .null, .null, .null, .null, .null, .int (nI 0), .null, .null, .null, .int (nI 0), .null, .null, .null, .int (nI 0), .null, .null])) := em
  have h_md := em
  have hF := hF.put em fr (Or.inl (by simp))
  have hI := hI.put h_md0 fr
  refine lv_aload_n hx hb d_M_init_80 rfl (lv_at hl 0 rfl) ?_
  refine lv_iconst (v := nI 4) hx hb d_M_init_81 (by decide) ?_
  refine x_newa (atype := .int) (a0 := (4, .inl (fun _ => nI 0))) (N' := 4) hC hw (hts _ k_75) rfl 0 rfl (fun _ z => by cases z) (fun _ => rfl) (by decide +kernel) (by decide +kernel) (by decide +kernel) (Nat.le_of_ble_eq_true rfl) (Nat.le_of_ble_eq_true rfl) d_M_init_82 (fun q28 M29 H hn em fr hw => ?_)
  have ne_h_md_q28 : md ≠ q28 := x_neN h_md hn
  have h_md := (fr _ ne_h_md_q28).trans h_md
  have h_q28 := em
  have hn_q28 := hF.none hn
  have hF := hF.put em fr (Or.inr hn)
  have hI := hI.new (k := 13) (q := q28) (by decide) hn hn_q28 em fr
  have h_md0 := h_md
  refine x_putF (ty := .array .int) hC hw h_md rfl 13 (by decide) (hts _ k_747) (fun _ h9 => h9) rfl hin rfl (by decide +kernel) rfl rfl (Nat.le_of_ble_eq_true rfl) d_M_init_84 (fun M30 H locs em fr hw => ?_)
  have em : M30 md = some (.inr (9, [.int (nI 0), .ref q1, .ref q4, .ref q7, .ref q10, .ref q13, .int (nI 0), .int (nI 0), .ref q16, .ref q19, .ref q22, .ref q25, .int (nI 0), .ref q28, .null, .int (nI 0), .null, .null, .null, .null, .null, .int (nI 0), .null, .null, .null, .int (nI 0), .null, .null, .null, .int (nI 0), .null, .null])) := em
  have h_md := em
  have hF := hF.put em fr (Or.inl (by simp))
  have hI := hI.put h_md0 fr
  refine lv_aload_n hx hb d_M_init_87 rfl (lv_at hl 0 rfl) ?_
  refine lv_bipush (v := nI 32) hx hb d_M_init_88 (by decide) ?_
  refine x_newa (atype := .int) (a0 := (32, .inl (fun _ => nI 0))) (N' := 32) hC hw (hts _ k_75) rfl 0 rfl (fun _ z => by cases z) (fun _ => rfl) (by decide +kernel) (by decide +kernel) (by decide +kernel) (Nat.le_of_ble_eq_true rfl) (Nat.le_of_ble_eq_true rfl) d_M_init_90 (fun q31 M32 H hn em fr hw => ?_)
  have ne_h_md_q31 : md ≠ q31 := x_neN h_md hn
  have h_md := (fr _ ne_h_md_q31).trans h_md
  have h_q31 := em
  have hn_q31 := hF.none hn
  have hF := hF.put em fr (Or.inr hn)
  have hI := hI.new (k := 14) (q := q31) (by decide) hn hn_q31 em fr
  have h_md0 := h_md
  refine x_putF (ty := .array .int) hC hw h_md rfl 14 (by decide) (hts _ k_748) (fun _ h9 => h9) rfl hin rfl (by decide +kernel) rfl rfl (Nat.le_of_ble_eq_true rfl) d_M_init_92 (fun M33 H locs em fr hw => ?_)
  have em : M33 md = some (.inr (9, [.int (nI 0), .ref q1, .ref q4, .ref q7, .ref q10, .ref q13, .int (nI 0), .int (nI 0), .ref q16, .ref q19, .ref q22, .ref q25, .int (nI 0), .ref q28, .ref q31, .int (nI 0), .null, .null, .null, .null, .null, .int (nI 0), .null, .null, .null, .int (nI 0), .null, .null, .null, .int (nI 0), .null, .null])) := em
  have h_md := em
  have hF := hF.put em fr (Or.inl (by simp))
  have hI := hI.put h_md0 fr
  refine lv_aload_n hx hb d_M_init_95 rfl (lv_at hl 0 rfl) ?_
  refine lv_bipush (v := nI 8) hx hb d_M_init_96 (by decide) ?_
  refine x_newa (atype := .int) (a0 := (8, .inl (fun _ => nI 0))) (N' := 8) hC hw (hts _ k_75) rfl 0 rfl (fun _ z => by cases z) (fun _ => rfl) (by decide +kernel) (by decide +kernel) (by decide +kernel) (Nat.le_of_ble_eq_true rfl) (Nat.le_of_ble_eq_true rfl) d_M_init_98 (fun q34 M35 H hn em fr hw => ?_)
  have ne_h_md_q34 : md ≠ q34 := x_neN h_md hn
  have h_md := (fr _ ne_h_md_q34).trans h_md
  have h_q34 := em
  have hn_q34 := hF.none hn
  have hF := hF.put em fr (Or.inr hn)
  have hI := hI.new (k := 16) (q := q34) (by decide) hn hn_q34 em fr
  have h_md0 := h_md
  refine x_putF (ty := .array .int) hC hw h_md rfl 16 (by decide) (hts _ k_750) (fun _ h9 => h9) rfl hin rfl (by decide +kernel) rfl rfl (Nat.le_of_ble_eq_true rfl) d_M_init_100 (fun M36 H locs em fr hw => ?_)
  have em : M36 md = some (.inr (9, [.int (nI 0), .ref q1, .ref q4, .ref q7, .ref q10, .ref q13, .int (nI 0), .int (nI 0), .ref q16, .ref q19, .ref q22, .ref q25, .int (nI 0), .ref q28, .ref q31, .int (nI 0), .ref q34, .null, .null, .null, .null, .int (nI 0), .null, .null, .null, .int (nI 0), .null, .null, .null, .int (nI 0), .null, .null])) := em
  have h_md := em
  have hF := hF.put em fr (Or.inl (by simp))
  have hI := hI.put h_md0 fr
  refine lv_aload_n hx hb d_M_init_103 rfl (lv_at hl 0 rfl) ?_
  refine lv_bipush (v := nI 8) hx hb d_M_init_104 (by decide) ?_
  refine x_newa (atype := .int) (a0 := (8, .inl (fun _ => nI 0))) (N' := 8) hC hw (hts _ k_75) rfl 0 rfl (fun _ z => by cases z) (fun _ => rfl) (by decide +kernel) (by decide +kernel) (by decide +kernel) (Nat.le_of_ble_eq_true rfl) (Nat.le_of_ble_eq_true rfl) d_M_init_106 (fun q37 M38 H hn em fr hw => ?_)
  have ne_h_md_q37 : md ≠ q37 := x_neN h_md hn
  have h_md := (fr _ ne_h_md_q37).trans h_md
  have h_q37 := em
  have hn_q37 := hF.none hn
  have hF := hF.put em fr (Or.inr hn)
  have hI := hI.new (k := 17) (q := q37) (by decide) hn hn_q37 em fr
  have h_md0 := h_md
  refine x_putF (ty := .array .int) hC hw h_md rfl 17 (by decide) (hts _ k_751) (fun _ h9 => h9) rfl hin rfl (by decide +kernel) rfl rfl (Nat.le_of_ble_eq_true rfl) d_M_init_108 (fun M39 H locs em fr hw => ?_)
  have em : M39 md = some (.inr (9, [.int (nI 0), .ref q1, .ref q4, .ref q7, .ref q10, .ref q13, .int (nI 0), .int (nI 0), .ref q16, .ref q19, .ref q22, .ref q25, .int (nI 0), .ref q28, .ref q31, .int (nI 0), .ref q34, .ref q37, .null, .null, .null, .int (nI 0), .null, .null, .null, .int (nI 0), .null, .null, .null, .int (nI 0), .null, .null])) := em
  have h_md := em
  have hF := hF.put em fr (Or.inl (by simp))
  have hI := hI.put h_md0 fr
  refine lv_aload_n hx hb d_M_init_111 rfl (lv_at hl 0 rfl) ?_
  refine lv_bipush (v := nI 8) hx hb d_M_init_112 (by decide) ?_
  refine x_newa (atype := .int) (a0 := (8, .inl (fun _ => nI 0))) (N' := 8) hC hw (hts _ k_75) rfl 0 rfl (fun _ z => by cases z) (fun _ => rfl) (by decide +kernel) (by decide +kernel) (by decide +kernel) (Nat.le_of_ble_eq_true rfl) (Nat.le_of_ble_eq_true rfl) d_M_init_114 (fun q40 M41 H hn em fr hw => ?_)
  have ne_h_md_q40 : md ≠ q40 := x_neN h_md hn
  have h_md := (fr _ ne_h_md_q40).trans h_md
  have h_q40 := em
  have hn_q40 := hF.none hn
  have hF := hF.put em fr (Or.inr hn)
  have hI := hI.new (k := 18) (q := q40) (by decide) hn hn_q40 em fr
  have h_md0 := h_md
  refine x_putF (ty := .array .int) hC hw h_md rfl 18 (by decide) (hts _ k_752) (fun _ h9 => h9) rfl hin rfl (by decide +kernel) rfl rfl (Nat.le_of_ble_eq_true rfl) d_M_init_116 (fun M42 H locs em fr hw => ?_)
  have em : M42 md = some (.inr (9, [.int (nI 0), .ref q1, .ref q4, .ref q7, .ref q10, .ref q13, .int (nI 0), .int (nI 0), .ref q16, .ref q19, .ref q22, .ref q25, .int (nI 0), .ref q28, .ref q31, .int (nI 0), .ref q34, .ref q37, .ref q40, .null, .null, .int (nI 0), .null, .null, .null, .int (nI 0), .null, .null, .null, .int (nI 0), .null, .null])) := em
  have h_md := em
  have hF := hF.put em fr (Or.inl (by simp))
  have hI := hI.put h_md0 fr
  refine lv_aload_n hx hb d_M_init_119 rfl (lv_at hl 0 rfl) ?_
  refine lv_bipush (v := nI 8) hx hb d_M_init_120 (by decide) ?_
  refine x_newa (atype := .int) (a0 := (8, .inl (fun _ => nI 0))) (N' := 8) hC hw (hts _ k_75) rfl 0 rfl (fun _ z => by cases z) (fun _ => rfl) (by decide +kernel) (by decide +kernel) (by decide +kernel) (Nat.le_of_ble_eq_true rfl) (Nat.le_of_ble_eq_true rfl) d_M_init_122 (fun q43 M44 H hn em fr hw => ?_)
  have ne_h_md_q43 : md ≠ q43 := x_neN h_md hn
  have h_md := (fr _ ne_h_md_q43).trans h_md
  have h_q43 := em
  have hn_q43 := hF.none hn
  have hF := hF.put em fr (Or.inr hn)
  have hI := hI.new (k := 19) (q := q43) (by decide) hn hn_q43 em fr
  have h_md0 := h_md
  refine x_putF (ty := .array .int) hC hw h_md rfl 19 (by decide) (hts _ k_753) (fun _ h9 => h9) rfl hin rfl (by decide +kernel) rfl rfl (Nat.le_of_ble_eq_true rfl) d_M_init_124 (fun M45 H locs em fr hw => ?_)
  have em : M45 md = some (.inr (9, [.int (nI 0), .ref q1, .ref q4, .ref q7, .ref q10, .ref q13, .int (nI 0), .int (nI 0), .ref q16, .ref q19, .ref q22, .ref q25, .int (nI 0), .ref q28, .ref q31, .int (nI 0), .ref q34, .ref q37, .ref q40, .ref q43, .null, .int (nI 0), .null, .null, .null, .int (nI 0), .null, .null, .null, .int (nI 0), .null, .null])) := em
  have h_md := em
  have hF := hF.put em fr (Or.inl (by simp))
  have hI := hI.put h_md0 fr
  refine lv_aload_n hx hb d_M_init_127 rfl (lv_at hl 0 rfl) ?_
  refine lv_bipush (v := nI 8) hx hb d_M_init_128 (by decide) ?_
  refine x_newa (atype := .int) (a0 := (8, .inl (fun _ => nI 0))) (N' := 8) hC hw (hts _ k_75) rfl 0 rfl (fun _ z => by cases z) (fun _ => rfl) (by decide +kernel) (by decide +kernel) (by decide +kernel) (Nat.le_of_ble_eq_true rfl) (Nat.le_of_ble_eq_true rfl) d_M_init_130 (fun q46 M47 H hn em fr hw => ?_)
  have ne_h_md_q46 : md ≠ q46 := x_neN h_md hn
  have h_md := (fr _ ne_h_md_q46).trans h_md
  have h_q46 := em
  have hn_q46 := hF.none hn
  have hF := hF.put em fr (Or.inr hn)
  have hI := hI.new (k := 20) (q := q46) (by decide) hn hn_q46 em fr
  have h_md0 := h_md
  refine x_putF (ty := .array .int) hC hw h_md rfl 20 (by decide) (hts _ k_754) (fun _ h9 => h9) rfl hin rfl (by decide +kernel) rfl rfl (Nat.le_of_ble_eq_true rfl) d_M_init_132 (fun M48 H locs em fr hw => ?_)
  have em : M48 md = some (.inr (9, [.int (nI 0), .ref q1, .ref q4, .ref q7, .ref q10, .ref q13, .int (nI 0), .int (nI 0), .ref q16, .ref q19, .ref q22, .ref q25, .int (nI 0), .ref q28, .ref q31, .int (nI 0), .ref q34, .ref q37, .ref q40, .ref q43, .ref q46, .int (nI 0), .null, .null, .null, .int (nI 0), .null, .null, .null, .int (nI 0), .null, .null])) := em
  have h_md := em
  have hF := hF.put em fr (Or.inl (by simp))
  have hI := hI.put h_md0 fr
  refine lv_aload_n hx hb d_M_init_135 rfl (lv_at hl 0 rfl) ?_
  refine lv_bipush (v := nI 8) hx hb d_M_init_136 (by decide) ?_
  refine x_newa (atype := .int) (a0 := (8, .inl (fun _ => nI 0))) (N' := 8) hC hw (hts _ k_75) rfl 0 rfl (fun _ z => by cases z) (fun _ => rfl) (by decide +kernel) (by decide +kernel) (by decide +kernel) (Nat.le_of_ble_eq_true rfl) (Nat.le_of_ble_eq_true rfl) d_M_init_138 (fun q49 M50 H hn em fr hw => ?_)
  have ne_h_md_q49 : md ≠ q49 := x_neN h_md hn
  have h_md := (fr _ ne_h_md_q49).trans h_md
  have h_q49 := em
  have hn_q49 := hF.none hn
  have hF := hF.put em fr (Or.inr hn)
  have hI := hI.new (k := 22) (q := q49) (by decide) hn hn_q49 em fr
  have h_md0 := h_md
  refine x_putF (ty := .array .int) hC hw h_md rfl 22 (by decide) (hts _ k_756) (fun _ h9 => h9) rfl hin rfl (by decide +kernel) rfl rfl (Nat.le_of_ble_eq_true rfl) d_M_init_140 (fun M51 H locs em fr hw => ?_)
  have em : M51 md = some (.inr (9, [.int (nI 0), .ref q1, .ref q4, .ref q7, .ref q10, .ref q13, .int (nI 0), .int (nI 0), .ref q16, .ref q19, .ref q22, .ref q25, .int (nI 0), .ref q28, .ref q31, .int (nI 0), .ref q34, .ref q37, .ref q40, .ref q43, .ref q46, .int (nI 0), .ref q49, .null, .null, .int (nI 0), .null, .null, .null, .int (nI 0), .null, .null])) := em
  have h_md := em
  have hF := hF.put em fr (Or.inl (by simp))
  have hI := hI.put h_md0 fr
  refine lv_aload_n hx hb d_M_init_143 rfl (lv_at hl 0 rfl) ?_
  refine lv_bipush (v := nI 8) hx hb d_M_init_144 (by decide) ?_
  refine x_newa (atype := .int) (a0 := (8, .inl (fun _ => nI 0))) (N' := 8) hC hw (hts _ k_75) rfl 0 rfl (fun _ z => by cases z) (fun _ => rfl) (by decide +kernel) (by decide +kernel) (by decide +kernel) (Nat.le_of_ble_eq_true rfl) (Nat.le_of_ble_eq_true rfl) d_M_init_146 (fun q52 M53 H hn em fr hw => ?_)
  have ne_h_md_q52 : md ≠ q52 := x_neN h_md hn
  have h_md := (fr _ ne_h_md_q52).trans h_md
  have h_q52 := em
  have hn_q52 := hF.none hn
  have hF := hF.put em fr (Or.inr hn)
  have hI := hI.new (k := 23) (q := q52) (by decide) hn hn_q52 em fr
  have h_md0 := h_md
  refine x_putF (ty := .array .int) hC hw h_md rfl 23 (by decide) (hts _ k_757) (fun _ h9 => h9) rfl hin rfl (by decide +kernel) rfl rfl (Nat.le_of_ble_eq_true rfl) d_M_init_148 (fun M54 H locs em fr hw => ?_)
  have em : M54 md = some (.inr (9, [.int (nI 0), .ref q1, .ref q4, .ref q7, .ref q10, .ref q13, .int (nI 0), .int (nI 0), .ref q16, .ref q19, .ref q22, .ref q25, .int (nI 0), .ref q28, .ref q31, .int (nI 0), .ref q34, .ref q37, .ref q40, .ref q43, .ref q46, .int (nI 0), .ref q49, .ref q52, .null, .int (nI 0), .null, .null, .null, .int (nI 0), .null, .null])) := em
  have h_md := em
  have hF := hF.put em fr (Or.inl (by simp))
  have hI := hI.put h_md0 fr
  refine lv_aload_n hx hb d_M_init_151 rfl (lv_at hl 0 rfl) ?_
  refine lv_sipush (v := nI 480) hx hb d_M_init_152 (by decide) ?_
  refine x_newa (atype := .int) (a0 := (480, .inl (fun _ => nI 0))) (N' := 480) hC hw (hts _ k_75) rfl 0 rfl (fun _ z => by cases z) (fun _ => rfl) (by decide +kernel) (by decide +kernel) (by decide +kernel) (Nat.le_of_ble_eq_true rfl) (Nat.le_of_ble_eq_true rfl) d_M_init_155 (fun q55 M56 H hn em fr hw => ?_)
  have ne_h_md_q55 : md ≠ q55 := x_neN h_md hn
  have h_md := (fr _ ne_h_md_q55).trans h_md
  have h_q55 := em
  have hn_q55 := hF.none hn
  have hF := hF.put em fr (Or.inr hn)
  have hI := hI.new (k := 24) (q := q55) (by decide) hn hn_q55 em fr
  have h_md0 := h_md
  refine x_putF (ty := .array .int) hC hw h_md rfl 24 (by decide) (hts _ k_758) (fun _ h9 => h9) rfl hin rfl (by decide +kernel) rfl rfl (Nat.le_of_ble_eq_true rfl) d_M_init_157 (fun M57 H locs em fr hw => ?_)
  have em : M57 md = some (.inr (9, [.int (nI 0), .ref q1, .ref q4, .ref q7, .ref q10, .ref q13, .int (nI 0), .int (nI 0), .ref q16, .ref q19, .ref q22, .ref q25, .int (nI 0), .ref q28, .ref q31, .int (nI 0), .ref q34, .ref q37, .ref q40, .ref q43, .ref q46, .int (nI 0), .ref q49, .ref q52, .ref q55, .int (nI 0), .null, .null, .null, .int (nI 0), .null, .null])) := em
  have h_md := em
  have hF := hF.put em fr (Or.inl (by simp))
  have hI := hI.put h_md0 fr
  refine lv_aload_n hx hb d_M_init_160 rfl (lv_at hl 0 rfl) ?_
  refine lv_sipush (v := nI 500) hx hb d_M_init_161 (by decide) ?_
  refine x_newa (atype := .int) (a0 := (500, .inl (fun _ => nI 0))) (N' := 500) hC hw (hts _ k_75) rfl 0 rfl (fun _ z => by cases z) (fun _ => rfl) (by decide +kernel) (by decide +kernel) (by decide +kernel) (Nat.le_of_ble_eq_true rfl) (Nat.le_of_ble_eq_true rfl) d_M_init_164 (fun q58 M59 H hn em fr hw => ?_)
  have ne_h_md_q58 : md ≠ q58 := x_neN h_md hn
  have h_md := (fr _ ne_h_md_q58).trans h_md
  have h_q58 := em
  have hn_q58 := hF.none hn
  have hF := hF.put em fr (Or.inr hn)
  have hI := hI.new (k := 26) (q := q58) (by decide) hn hn_q58 em fr
  have h_md0 := h_md
  refine x_putF (ty := .array .int) hC hw h_md rfl 26 (by decide) (hts _ k_760) (fun _ h9 => h9) rfl hin rfl (by decide +kernel) rfl rfl (Nat.le_of_ble_eq_true rfl) d_M_init_166 (fun M60 H locs em fr hw => ?_)
  have em : M60 md = some (.inr (9, [.int (nI 0), .ref q1, .ref q4, .ref q7, .ref q10, .ref q13, .int (nI 0), .int (nI 0), .ref q16, .ref q19, .ref q22, .ref q25, .int (nI 0), .ref q28, .ref q31, .int (nI 0), .ref q34, .ref q37, .ref q40, .ref q43, .ref q46, .int (nI 0), .ref q49, .ref q52, .ref q55, .int (nI 0), .ref q58, .null, .null, .int (nI 0), .null, .null])) := em
  have h_md := em
  have hF := hF.put em fr (Or.inl (by simp))
  have hI := hI.put h_md0 fr
  refine lv_aload_n hx hb d_M_init_169 rfl (lv_at hl 0 rfl) ?_
  refine lv_sipush (v := nI 640) hx hb d_M_init_170 (by decide) ?_
  refine x_newa (atype := .boolean) (a0 := (640, .inl (fun _ => nI 0))) (N' := 640) hC hw (hts _ k_831) rfl 4 rfl (fun _ z => by cases z) (fun _ => rfl) (by decide +kernel) (by decide +kernel) (by decide +kernel) (Nat.le_of_ble_eq_true rfl) (Nat.le_of_ble_eq_true rfl) d_M_init_173 (fun q61 M62 H hn em fr hw => ?_)
  have ne_h_md_q61 : md ≠ q61 := x_neN h_md hn
  have h_md := (fr _ ne_h_md_q61).trans h_md
  have h_q61 := em
  have hn_q61 := hF.none hn
  have hF := hF.put em fr (Or.inr hn)
  have hI := hI.new (k := 27) (q := q61) (by decide) hn hn_q61 em fr
  have h_md0 := h_md
  refine x_putF (ty := .array .boolean) hC hw h_md rfl 27 (by decide) (hts _ k_761) (fun _ h9 => h9) rfl hin rfl (by decide +kernel) rfl rfl (Nat.le_of_ble_eq_true rfl) d_M_init_175 (fun M63 H locs em fr hw => ?_)
  have em : M63 md = some (.inr (9, [.int (nI 0), .ref q1, .ref q4, .ref q7, .ref q10, .ref q13, .int (nI 0), .int (nI 0), .ref q16, .ref q19, .ref q22, .ref q25, .int (nI 0), .ref q28, .ref q31, .int (nI 0), .ref q34, .ref q37, .ref q40, .ref q43, .ref q46, .int (nI 0), .ref q49, .ref q52, .ref q55, .int (nI 0), .ref q58, .ref q61, .null, .int (nI 0), .null, .null])) := em
  have h_md := em
  have hF := hF.put em fr (Or.inl (by simp))
  have hI := hI.put h_md0 fr
  refine lv_aload_n hx hb d_M_init_178 rfl (lv_at hl 0 rfl) ?_
  refine lv_bipush (v := nI 12) hx hb d_M_init_179 (by decide) ?_
  refine x_newa (atype := .int) (a0 := (12, .inl (fun _ => nI 0))) (N' := 12) hC hw (hts _ k_75) rfl 0 rfl (fun _ z => by cases z) (fun _ => rfl) (by decide +kernel) (by decide +kernel) (by decide +kernel) (Nat.le_of_ble_eq_true rfl) (Nat.le_of_ble_eq_true rfl) d_M_init_181 (fun q64 M65 H hn em fr hw => ?_)
  have ne_h_md_q64 : md ≠ q64 := x_neN h_md hn
  have h_md := (fr _ ne_h_md_q64).trans h_md
  have h_q64 := em
  have hn_q64 := hF.none hn
  have hF := hF.put em fr (Or.inr hn)
  have hI := hI.new (k := 28) (q := q64) (by decide) hn hn_q64 em fr
  have h_md0 := h_md
  refine x_putF (ty := .array .int) hC hw h_md rfl 28 (by decide) (hts _ k_762) (fun _ h9 => h9) rfl hin rfl (by decide +kernel) rfl rfl (Nat.le_of_ble_eq_true rfl) d_M_init_183 (fun M66 H locs em fr hw => ?_)
  have em : M66 md = some (.inr (9, [.int (nI 0), .ref q1, .ref q4, .ref q7, .ref q10, .ref q13, .int (nI 0), .int (nI 0), .ref q16, .ref q19, .ref q22, .ref q25, .int (nI 0), .ref q28, .ref q31, .int (nI 0), .ref q34, .ref q37, .ref q40, .ref q43, .ref q46, .int (nI 0), .ref q49, .ref q52, .ref q55, .int (nI 0), .ref q58, .ref q61, .ref q64, .int (nI 0), .null, .null])) := em
  have h_md := em
  have hF := hF.put em fr (Or.inl (by simp))
  have hI := hI.put h_md0 fr
  refine lv_aload_n hx hb d_M_init_186 rfl (lv_at hl 0 rfl) ?_
  refine lv_bipush (v := nI 60) hx hb d_M_init_187 (by decide) ?_
  refine x_newa (atype := .int) (a0 := (60, .inl (fun _ => nI 0))) (N' := 60) hC hw (hts _ k_75) rfl 0 rfl (fun _ z => by cases z) (fun _ => rfl) (by decide +kernel) (by decide +kernel) (by decide +kernel) (Nat.le_of_ble_eq_true rfl) (Nat.le_of_ble_eq_true rfl) d_M_init_189 (fun q67 M68 H hn em fr hw => ?_)
  have ne_h_md_q67 : md ≠ q67 := x_neN h_md hn
  have h_md := (fr _ ne_h_md_q67).trans h_md
  have h_q67 := em
  have hn_q67 := hF.none hn
  have hF := hF.put em fr (Or.inr hn)
  have hI := hI.new (k := 30) (q := q67) (by decide) hn hn_q67 em fr
  have h_md0 := h_md
  refine x_putF (ty := .array .int) hC hw h_md rfl 30 (by decide) (hts _ k_764) (fun _ h9 => h9) rfl hin rfl (by decide +kernel) rfl rfl (Nat.le_of_ble_eq_true rfl) d_M_init_191 (fun M69 H locs em fr hw => ?_)
  have em : M69 md = some (.inr (9, [.int (nI 0), .ref q1, .ref q4, .ref q7, .ref q10, .ref q13, .int (nI 0), .int (nI 0), .ref q16, .ref q19, .ref q22, .ref q25, .int (nI 0), .ref q28, .ref q31, .int (nI 0), .ref q34, .ref q37, .ref q40, .ref q43, .ref q46, .int (nI 0), .ref q49, .ref q52, .ref q55, .int (nI 0), .ref q58, .ref q61, .ref q64, .int (nI 0), .ref q67, .null])) := em
  have h_md := em
  have hF := hF.put em fr (Or.inl (by simp))
  have hI := hI.put h_md0 fr
  refine lv_aload_n hx hb d_M_init_194 rfl (lv_at hl 0 rfl) ?_
  refine lv_bipush (v := nI 60) hx hb d_M_init_195 (by decide) ?_
  refine x_newa (atype := .boolean) (a0 := (60, .inl (fun _ => nI 0))) (N' := 60) hC hw (hts _ k_831) rfl 4 rfl (fun _ z => by cases z) (fun _ => rfl) (by decide +kernel) (by decide +kernel) (by decide +kernel) (Nat.le_of_ble_eq_true rfl) (Nat.le_of_ble_eq_true rfl) d_M_init_197 (fun q70 M71 H hn em fr hw => ?_)
  have ne_h_md_q70 : md ≠ q70 := x_neN h_md hn
  have h_md := (fr _ ne_h_md_q70).trans h_md
  have h_q70 := em
  have hn_q70 := hF.none hn
  have hF := hF.put em fr (Or.inr hn)
  have hI := hI.new (k := 31) (q := q70) (by decide) hn hn_q70 em fr
  have h_md0 := h_md
  refine x_putF (ty := .array .boolean) hC hw h_md rfl 31 (by decide) (hts _ k_765) (fun _ h9 => h9) rfl hin rfl (by decide +kernel) rfl rfl (Nat.le_of_ble_eq_true rfl) d_M_init_199 (fun M72 H locs em fr hw => ?_)
  have em : M72 md = some (.inr (9, [.int (nI 0), .ref q1, .ref q4, .ref q7, .ref q10, .ref q13, .int (nI 0), .int (nI 0), .ref q16, .ref q19, .ref q22, .ref q25, .int (nI 0), .ref q28, .ref q31, .int (nI 0), .ref q34, .ref q37, .ref q40, .ref q43, .ref q46, .int (nI 0), .ref q49, .ref q52, .ref q55, .int (nI 0), .ref q58, .ref q61, .ref q64, .int (nI 0), .ref q67, .ref q70])) := em
  have h_md := em
  have hF := hF.put em fr (Or.inl (by simp))
  have hI := hI.put h_md0 fr
  refine lv_aload_n hx hb d_M_init_202 rfl (lv_at hl 0 rfl) ?_
  refine lv_iconst (v := nI 0) hx hb d_M_init_203 (by decide) ?_
  have h_md0 := h_md
  refine x_put (ty := .int) hC hw h_md rfl 6 (by decide) (hts _ k_740) (fun _ h9 => h9) rfl (by decide +kernel) rfl rfl (Nat.le_of_ble_eq_true rfl) d_M_init_204 (fun M73 H locs em fr hw => ?_)
  have em : M73 md = some (.inr (9, [.int (nI 0), .ref q1, .ref q4, .ref q7, .ref q10, .ref q13, .int (nI 0), .int (nI 0), .ref q16, .ref q19, .ref q22, .ref q25, .int (nI 0), .ref q28, .ref q31, .int (nI 0), .ref q34, .ref q37, .ref q40, .ref q43, .ref q46, .int (nI 0), .ref q49, .ref q52, .ref q55, .int (nI 0), .ref q58, .ref q61, .ref q64, .int (nI 0), .ref q67, .ref q70])) := em
  have h_md := em
  have hF := hF.put em fr (Or.inl (by simp))
  have hI := hI.put h_md0 fr
  have hD : ∀ k, mIsA k = true → k ∈ [31, 30, 28, 27, 26, 24, 23, 22, 20, 19, 18, 17, 16, 14, 13, 11, 10, 9, 8, 5, 4, 3, 2, 1] := by intro k hk; have hk2 := mIsA_l hk; simp only [List.mem_cons, List.not_mem_nil, or_false]; omega
  obtain ⟨q1, q2⟩ := hI.rep hD (md := md) h_md
  exact x_vret hC hr hw (⟨rfl, _, q1, hF, q2⟩) (Nat.le_of_ble_eq_true rfl) (Nat.le_of_ble_eq_true rfl) d_M_init_207
