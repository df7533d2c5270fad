/-! the class's object, made -/
theorem x_neA {cA cB : ClassId} {n m : Nat} {f : Nat → Int32} {g : (Nat → Int64) ⊕ (Nat → UInt32) ⊕ (Nat → UInt64) ⊕ (Nat → Option Nat)} : (Sum.inl (cA, n, Sum.inr g) : va_E) ≠ Sum.inl (cB, m, Sum.inl f) := by
  intro z
  injection z with z
  injection z with z1 z2
  injection z2 with z3 z4
  cases z4
def rwP (G : xT) (M0 M : xMem) (n : Nat) (f : Nat → Option Nat) (rw pw : Nat → Nat) : Prop := ∀ j, j < n → f j = some (rw j) ∧ M (rw j) = some (.inr (1, [.int (nI j), .ref (pw j), .int (nI 0)])) ∧ M (pw j) = some (.inl (G.2.1 0, 160, .inl (fun _ => nI 0))) ∧ M0 (rw j) = none ∧ M0 (pw j) = none
def inj2 (n : Nat) (rw : Nat → Nat) : Prop := ∀ i j, i < n → j < n → rw i = rw j → i = j
theorem rwP.fr {G : xT} {M0 M M' : xMem} {n : Nat} {f : Nat → Option Nat} {rw pw : Nat → Nat} {S : List Nat} (h : rwP G M0 M n f rw pw) (fr : xfr M M' S) (h1 : ∀ j, j < n → rw j ∉ S) (h2 : ∀ j, j < n → pw j ∉ S) : rwP G M0 M' n f rw pw := fun j hj => ⟨(h j hj).1, fr.get (h j hj).2.1 (h1 j hj), fr.get (h j hj).2.2.1 (h2 j hj), (h j hj).2.2.2⟩
theorem rwP.next {G : xT} {M0 M : xMem} {n q p : Nat} {f f' : Nat → Option Nat} {rw pw : Nat → Nat} (h : rwP G M0 M n f rw pw) (hf : ∀ j, j < n → f' j = f j) (hn : f' n = some q) (hq : M q = some (.inr (1, [.int (nI n), .ref p, .int (nI 0)]))) (hp : M p = some (.inl (G.2.1 0, 160, .inl (fun _ => nI 0)))) (hq0 : M0 q = none) (hp0 : M0 p = none) : rwP G M0 M (n + 1) f' (va_up rw n q) (va_up pw n p) := by
  intro j hj
  by_cases hz : j = n
  · rw [hz, va_up_self, va_up_self]
    exact ⟨hn, hq, hp, hq0, hp0⟩
  · rw [va_up_ne _ _ hz, va_up_ne _ _ hz]
    obtain ⟨a, b⟩ := h j (by omega)
    exact ⟨(hf j (by omega)).trans a, b⟩
theorem inj2.next {n q : Nat} {rw : Nat → Nat} (h : inj2 n rw) (hq : ∀ j, j < n → rw j ≠ q) : inj2 (n + 1) (va_up rw n q) := by
  intro i j hi hj e
  by_cases zi : i = n
  · by_cases zj : j = n
    · exact zi.trans zj.symm
    · rw [zi, va_up_self, va_up_ne _ _ zj] at e
      exact absurd e.symm (hq j (by omega))
  · by_cases zj : j = n
    · rw [zj, va_up_self, va_up_ne _ _ zi] at e
      exact absurd e (hq i (by omega))
    · rw [va_up_ne _ _ zi, va_up_ne _ _ zj] at e
      exact h i j (by omega) (by omega) e
theorem rwP.elP {G : xT} {M0 M : xMem} {n : Nat} {f : Nat → Option Nat} {rw pw : Nat → Nat} (h : rwP G M0 M n f rw pw) : elP M 1 n f := fun j hj => ⟨rw j, _, (h j hj).1, (h j hj).2.1⟩
def laI (a0 a1 a2 a3 a4 a5 : Nat) : Nat → Nat := fun i => match i with
  | 0 => a0
  | 1 => a1
  | 2 => a2
  | 3 => a3
  | 4 => a4
  | _ => a5
def adI (la : Nat → Nat) (el fz fi fp co cv rc : Nat) (rw pw : Nat → Nat) : Nat → Nat → Nat := fun k i => match k with
  | 0 => la i
  | 1 => if i = 0 then el else fz
  | 2 => rw i
  | 3 => pw i
  | 10 => fi
  | 11 => fp
  | 12 => co
  | 13 => cv
  | 14 => rc
  | _ => 0
theorem ini_rep {G : xT} {M0 M : xMem} {fz el fi fp co cv rc cap : Nat} {la rw pw : Nat → Nat} {f : Nat → Option Nat} {mc : Int32} (hfz : ("java/util/ArrayList", "DEFAULTCAPACITY_EMPTY_ELEMENTDATA", "[Ljava/lang/Object;", .ref fz) ∈ G.2.2.2) (hzP : fzP G fz) (h_fz : M fz = none) (h_el : M el = some (.inl (G.2.1 3, cap, .inr (.inr (.inr (.inr f)))))) (hcap : 4 ≤ cap) (hcp : capP fz el cap) (h_la0 : M (la 0) = some (.inr (8, [.ref el, .int (nI 4), .int mc]))) (h_la : ∀ k, 1 ≤ k → k < 6 → M (la k) = some (.inr (8, [.ref fz, .int (nI 0), .int (nI 0)])))
    (hrw : rwP G M0 M 4 f rw pw) (hi1 : inj2 4 rw) (hi2 : inj2 4 pw) (hil : inj2 6 la) (h_fi : M fi = some (.inr (7, [.int (nI 0), .ref fp]))) (h_fp : M fp = some (.inl (G.2.1 0, 500, .inl (fun _ => nI 0)))) (h_co : M co = some (.inr (2, [.ref cv, .int (nI 0)]))) (h_cv : M cv = some (.inl (G.2.1 0, 60, .inl (fun _ => nI 0)))) (h_rc : M rc = some (.inr (0, [.ref (la 0), .ref (la 1), .ref (la 2), .ref (la 3), .ref (la 4), .ref (la 5), .ref fi, .ref co]))) : cRep G M fz (adI la el fz fi fp co cv rc rw pw) (fun _ _ => 0) (fun _ _ => nI 0) := by
  refine ⟨hfz, ⟨hzP, h_fz⟩, fun k i hi => ?_, fun k i j hi hj e => ?_, fun t ht => absurd ht (Nat.not_lt_zero t)⟩
  · match k, hi with
    | 0, hi =>
      by_cases hz : i = 0
      · rw [hz]
        exact Or.inr ⟨_, h_la0, mc, rfl⟩
      · refine Or.inr ⟨_, h_la i (by omega) hi, nI 0, ?_⟩
        have e1 : adI la el fz fi fp co cv rc rw pw 1 i = fz := if_neg hz
        have e2 : ln (fun _ _ => 0) i = 0 := by
          match i, hz with
          | 0, hz => exact absurd rfl hz
          | 1, _ | 2, _ | 3, _ | 4, _ | 5, _ => rfl
          | _ + 6, _ => rfl
        rw [e1, e2]
    | 1, hi =>
      by_cases hz : i = 0
      · rw [hz]
        exact Or.inr ⟨_, h_el, cap, f, rfl, hcap, hcp, fun j hj => (hrw j hj).1⟩
      · have e1 : adI la el fz fi fp co cv rc rw pw 1 i = fz := if_neg hz
        have e2 : ln (fun _ _ => 0) i = 0 := by
          match i, hz with
          | 0, hz => exact absurd rfl hz
          | 1, _ | 2, _ | 3, _ | 4, _ | 5, _ => rfl
          | _ + 6, _ => rfl
        exact Or.inl ⟨rfl, e1, e2⟩
    | 2, hi =>
      refine Or.inr ⟨_, (hrw i hi).2.1, ?_⟩
      show _ = _
      rw [nmb_p hi]
      rfl
    | 3, hi => exact Or.inr ⟨_, (hrw i hi).2.2.1, _, rfl, fun j hj => absurd hj (Nat.not_lt_zero j)⟩
    | 4, hi | 5, hi | 6, hi | 7, hi | 8, hi | 9, hi => exact absurd hi (Nat.not_lt_zero i)
    | 10, hi => exact Or.inr ⟨_, h_fi, rfl⟩
    | 11, hi => exact Or.inr ⟨_, h_fp, rfl⟩
    | 12, hi => exact Or.inr ⟨_, h_co, _, rfl⟩
    | 13, hi => exact Or.inr ⟨_, h_cv, _, rfl⟩
    | 14, hi => exact Or.inr ⟨_, h_rc, rfl⟩
    | _ + 15, hi => exact absurd hi (Nat.not_lt_zero i)
  · match k, hi, hj, e with
    | 0, hi, hj, e => exact Or.inl (hil i j hi hj e)
    | 1, hi, hj, e =>
      have g0 : ∀ x, x ≠ 0 → adI la el fz fi fp co cv rc rw pw 1 x = fz := fun x hx => if_neg hx
      by_cases zi : i = 0
      · by_cases zj : j = 0
        · exact Or.inl (zi.trans zj.symm)
        · exact Or.inr ⟨rfl, e.trans (g0 j zj)⟩
      · exact Or.inr ⟨rfl, g0 i zi⟩
    | 2, hi, hj, e => exact Or.inl (hi1 i j hi hj e)
    | 3, hi, hj, e => exact Or.inl (hi2 i j hi hj e)
    | 4, hi, _, _ | 5, hi, _, _ | 6, hi, _, _ | 7, hi, _, _ | 8, hi, _, _ | 9, hi, _, _ => exact absurd hi (Nat.not_lt_zero i)
    | 10, hi, hj, _ | 11, hi, hj, _ | 12, hi, hj, _ | 13, hi, hj, _ | 14, hi, hj, _ => exact Or.inl ((Nat.lt_one_iff.mp hi).trans (Nat.lt_one_iff.mp hj).symm)
    | _ + 15, hi, _, _ => exact absurd hi (Nat.not_lt_zero i)
theorem ini_own {M0 : xMem} {G : xT} {M : xMem} {fz el fi fp co cv rc : Nat} {la rw pw : Nat → Nat} {f : Nat → Option Nat} (hel : el = fz ∨ M0 el = none) (hla : ∀ k, k < 6 → M0 (la k) = none) (hrw : rwP G M0 M 4 f rw pw) (h1 : M0 fi = none) (h2 : M0 fp = none) (h3 : M0 co = none) (h4 : M0 cv = none) : ∀ a, own (adI la el fz fi fp co cv rc rw pw) (fun _ _ => 0) a → a = rc ∨ a = fz ∨ M0 a = none := by
  rintro a ⟨k, i, hi, rfl⟩
  match k, hi with
  | 0, hi => exact Or.inr (Or.inr (hla i hi))
  | 1, hi =>
    show (if i = 0 then el else fz) = rc ∨ (if i = 0 then el else fz) = fz ∨ M0 (if i = 0 then el else fz) = none
    by_cases zi : i = 0
    · rw [if_pos zi]
      exact Or.inr hel
    · rw [if_neg zi]
      exact Or.inr (Or.inl rfl)
  | 2, hi => exact Or.inr (Or.inr (hrw i hi).2.2.2.1)
  | 3, hi => exact Or.inr (Or.inr (hrw i hi).2.2.2.2)
  | 4, hi | 5, hi | 6, hi | 7, hi | 8, hi | 9, hi => exact absurd hi (Nat.not_lt_zero i)
  | 10, _ => exact Or.inr (Or.inr h1)
  | 11, _ => exact Or.inr (Or.inr h2)
  | 12, _ => exact Or.inr (Or.inr h3)
  | 13, _ => exact Or.inr (Or.inr h4)
  | 14, _ => exact Or.inl rfl
  | _ + 15, hi => exact absurd hi (Nat.not_lt_zero i)
set_option maxHeartbeats 4000000 in
set_option maxRecDepth 100000 in
/-- the class, made -/
theorem c_R_init (l : Launch) (G : xT) (M : xMem) (sz : Nat) (rc fz : Nat) (hfz : ("java/util/ArrayList", "DEFAULTCAPACITY_EMPTY_ELEMENTDATA", "[Ljava/lang/Object;", .ref fz) ∈ G.2.2.2) (hzP : fzP G fz) (h_rc : M rc = some (.inr (0, [.null, .null, .null, .null, .null, .null, .null, .null]))) : xMet l G y_R_init (Cond.code y_R_init b_R_init 2 none :: x_tbl) { frames := 7, cells := 22, slots := 1322, locals := 172 } [.ref rc] M sz (fun u M' => u = none ∧ ∃ ad : Nat → Nat → Nat, cRep G M' fz ad (fun _ _ => 0) (fun _ _ => nI 0) ∧ ad 14 0 = rc ∧ xfr M M' [rc] ∧ ∀ a, own ad (fun _ _ => 0) a → a = rc ∨ a = fz ∨ M a = none) (fun _ _ => False) := by
  refine xMet.of (by decide) (Nat.le_of_ble_eq_true rfl) ?_
  intro p e s m below meth c ls hC hr hnm hno hsz hw hl
  obtain ⟨hx, hb, hown, hts, hK, hml, hlk, hz⟩ := id hC
  have hl : lv_has ls 2 [(0, .ref rc)] := hl
  have hin : meth.name = "<init>" := hnm
  have hF : xfr M M [rc] := xfr.rf
  refine lv_aload_n hx hb d_R_init_0 rfl (lv_at hl 0 rfl) ?_
  refine x_objInit hC k_32 hl.1 (Nat.le_of_ble_eq_true rfl) (Nat.le_of_ble_eq_true rfl) d_R_init_1 ?_
  refine lv_aload_n hx hb d_R_init_4 rfl (lv_at hl 0 rfl) ?_
  refine x_new (fs := [.null, .int (nI 0), .int (nI 0)]) hC hw rfl (hts _ k_35) (hts _ k_36) (hts _ k_4) nf_8 (Nat.le_of_ble_eq_true rfl) (Nat.le_of_ble_eq_true rfl) d_R_init_5 (fun la0 M1 H hn em fr hw => ?_)
  have ne_h_rc_la0 : rc ≠ la0 := x_neN h_rc hn
  have h_rc := (fr _ ne_h_rc_la0).trans h_rc
  have h_la0 := em
  have hn_la0 := hF.none hn
  have hF := hF.put em fr (Or.inr hn)
  refine lv_dup hx hb d_R_init_8 rfl ?_
  refine x_callG hC (c_AL_init l G M1 (Array.size H) la0 fz hfz h_la0) k_39 k_4 ⟨Nat.le_of_ble_eq_true rfl, Nat.le_of_ble_eq_true rfl⟩ ⟨Nat.le_of_ble_eq_true rfl, Nat.le_of_ble_eq_true rfl⟩ hw hl.1 (Nat.le_of_ble_eq_true rfl) d_R_init_9 (x_ivI hC k_39 k_37 k_38 rfl (show _ ∧ _ ∧ _ = some 0 from by decide +kernel) rfl d_R_init_9) (fun rv M2 H locs hq hw => ?_) (fun _ _ _ _ _ h _ _ => h.elim)
  obtain ⟨rfl, h_la0, fr⟩ := hq
  have hF := hF.trans fr (by intro z hz; rw [List.mem_singleton.mp hz]; exact Or.inr hn_la0)
  have h_rc := fr.get h_rc (by simp [ne_h_rc_la0])
  refine W.eq (g2 := F0 m 12 ls [.ref la0, .ref rc]) rfl ?_
  refine x_putF (ty := .object "java/util/ArrayList") hC hw h_rc rfl 0 (by decide) (hts _ k_176) (fun _ h9 => h9) rfl hin rfl (by decide +kernel) rfl rfl (Nat.le_of_ble_eq_true rfl) d_R_init_12 (fun M3 H locs em fr hw => ?_)
  have em : M3 rc = some (.inr (0, [.ref la0, .null, .null, .null, .null, .null, .null, .null])) := em
  have h_la0 := (fr _ (Ne.symm ne_h_rc_la0)).trans h_la0
  have h_rc := em
  have hF := hF.put em fr (Or.inl (by simp))
  refine lv_aload_n hx hb d_R_init_15 rfl (lv_at hl 0 rfl) ?_
  refine x_new (fs := [.null, .int (nI 0), .int (nI 0)]) hC hw rfl (hts _ k_35) (hts _ k_36) (hts _ k_4) nf_8 (Nat.le_of_ble_eq_true rfl) (Nat.le_of_ble_eq_true rfl) d_R_init_16 (fun la1 M4 H hn em fr hw => ?_)
  have ne_h_rc_la1 : rc ≠ la1 := x_neN h_rc hn
  have h_rc := (fr _ ne_h_rc_la1).trans h_rc
  have ne_h_la0_la1 : la0 ≠ la1 := x_neN h_la0 hn
  have h_la0 := (fr _ ne_h_la0_la1).trans h_la0
  have h_la1 := em
  have hn_la1 := hF.none hn
  have hF := hF.put em fr (Or.inr hn)
  refine lv_dup hx hb d_R_init_19 rfl ?_
  refine x_callG hC (c_AL_init l G M4 (Array.size H) la1 fz hfz h_la1) k_39 k_4 ⟨Nat.le_of_ble_eq_true rfl, Nat.le_of_ble_eq_true rfl⟩ ⟨Nat.le_of_ble_eq_true rfl, Nat.le_of_ble_eq_true rfl⟩ hw hl.1 (Nat.le_of_ble_eq_true rfl) d_R_init_20 (x_ivI hC k_39 k_37 k_38 rfl (show _ ∧ _ ∧ _ = some 0 from by decide +kernel) rfl d_R_init_20) (fun rv M5 H locs hq hw => ?_) (fun _ _ _ _ _ h _ _ => h.elim)
  obtain ⟨rfl, h_la1, fr⟩ := hq
  have hF := hF.trans fr (by intro z hz; rw [List.mem_singleton.mp hz]; exact Or.inr hn_la1)
  have h_rc := fr.get h_rc (by simp [ne_h_rc_la1])
  have h_la0 := fr.get h_la0 (by simp [ne_h_la0_la1])
  refine W.eq (g2 := F0 m 23 ls [.ref la1, .ref rc]) rfl ?_
  refine x_putF (ty := .object "java/util/ArrayList") hC hw h_rc rfl 1 (by decide) (hts _ k_177) (fun _ h9 => h9) rfl hin rfl (by decide +kernel) rfl rfl (Nat.le_of_ble_eq_true rfl) d_R_init_23 (fun M6 H locs em fr hw => ?_)
  have em : M6 rc = some (.inr (0, [.ref la0, .ref la1, .null, .null, .null, .null, .null, .null])) := em
  have h_la0 := (fr _ (Ne.symm ne_h_rc_la0)).trans h_la0
  have h_la1 := (fr _ (Ne.symm ne_h_rc_la1)).trans h_la1
  have h_rc := em
  have hF := hF.put em fr (Or.inl (by simp))
  refine lv_aload_n hx hb d_R_init_26 rfl (lv_at hl 0 rfl) ?_
  refine x_new (fs := [.null, .int (nI 0), .int (nI 0)]) hC hw rfl (hts _ k_35) (hts _ k_36) (hts _ k_4) nf_8 (Nat.le_of_ble_eq_true rfl) (Nat.le_of_ble_eq_true rfl) d_R_init_27 (fun la2 M7 H hn em fr hw => ?_)
  have ne_h_rc_la2 : rc ≠ la2 := x_neN h_rc hn
  have h_rc := (fr _ ne_h_rc_la2).trans h_rc
  have ne_h_la0_la2 : la0 ≠ la2 := x_neN h_la0 hn
  have h_la0 := (fr _ ne_h_la0_la2).trans h_la0
  have ne_h_la1_la2 : la1 ≠ la2 := x_neN h_la1 hn
  have h_la1 := (fr _ ne_h_la1_la2).trans h_la1
  have h_la2 := em
  have hn_la2 := hF.none hn
  have hF := hF.put em fr (Or.inr hn)
  refine lv_dup hx hb d_R_init_30 rfl ?_
  refine x_callG hC (c_AL_init l G M7 (Array.size H) la2 fz hfz h_la2) k_39 k_4 ⟨Nat.le_of_ble_eq_true rfl, Nat.le_of_ble_eq_true rfl⟩ ⟨Nat.le_of_ble_eq_true rfl, Nat.le_of_ble_eq_true rfl⟩ hw hl.1 (Nat.le_of_ble_eq_true rfl) d_R_init_31 (x_ivI hC k_39 k_37 k_38 rfl (show _ ∧ _ ∧ _ = some 0 from by decide +kernel) rfl d_R_init_31) (fun rv M8 H locs hq hw => ?_) (fun _ _ _ _ _ h _ _ => h.elim)
  obtain ⟨rfl, h_la2, fr⟩ := hq
  have hF := hF.trans fr (by intro z hz; rw [List.mem_singleton.mp hz]; exact Or.inr hn_la2)
  have h_rc := fr.get h_rc (by simp [ne_h_rc_la2])
  have h_la0 := fr.get h_la0 (by simp [ne_h_la0_la2])
  have h_la1 := fr.get h_la1 (by simp [ne_h_la1_la2])
  refine W.eq (g2 := F0 m 34 ls [.ref la2, .ref rc]) rfl ?_
  refine x_putF (ty := .object "java/util/ArrayList") hC hw h_rc rfl 2 (by decide) (hts _ k_178) (fun _ h9 => h9) rfl hin rfl (by decide +kernel) rfl rfl (Nat.le_of_ble_eq_true rfl) d_R_init_34 (fun M9 H locs em fr hw => ?_)
  have em : M9 rc = some (.inr (0, [.ref la0, .ref la1, .ref la2, .null, .null, .null, .null, .null])) := em
  have h_la0 := (fr _ (Ne.symm ne_h_rc_la0)).trans h_la0
  have h_la1 := (fr _ (Ne.symm ne_h_rc_la1)).trans h_la1
  have h_la2 := (fr _ (Ne.symm ne_h_rc_la2)).trans h_la2
  have h_rc := em
  have hF := hF.put em fr (Or.inl (by simp))
  refine lv_aload_n hx hb d_R_init_37 rfl (lv_at hl 0 rfl) ?_
  refine x_new (fs := [.null, .int (nI 0), .int (nI 0)]) hC hw rfl (hts _ k_35) (hts _ k_36) (hts _ k_4) nf_8 (Nat.le_of_ble_eq_true rfl) (Nat.le_of_ble_eq_true rfl) d_R_init_38 (fun la3 M10 H hn em fr hw => ?_)
  have ne_h_rc_la3 : rc ≠ la3 := x_neN h_rc hn
  have h_rc := (fr _ ne_h_rc_la3).trans h_rc
  have ne_h_la0_la3 : la0 ≠ la3 := x_neN h_la0 hn
  have h_la0 := (fr _ ne_h_la0_la3).trans h_la0
  have ne_h_la1_la3 : la1 ≠ la3 := x_neN h_la1 hn
  have h_la1 := (fr _ ne_h_la1_la3).trans h_la1
  have ne_h_la2_la3 : la2 ≠ la3 := x_neN h_la2 hn
  have h_la2 := (fr _ ne_h_la2_la3).trans h_la2
  have h_la3 := em
  have hn_la3 := hF.none hn
  have hF := hF.put em fr (Or.inr hn)
  refine lv_dup hx hb d_R_init_41 rfl ?_
  refine x_callG hC (c_AL_init l G M10 (Array.size H) la3 fz hfz h_la3) k_39 k_4 ⟨Nat.le_of_ble_eq_true rfl, Nat.le_of_ble_eq_true rfl⟩ ⟨Nat.le_of_ble_eq_true rfl, Nat.le_of_ble_eq_true rfl⟩ hw hl.1 (Nat.le_of_ble_eq_true rfl) d_R_init_42 (x_ivI hC k_39 k_37 k_38 rfl (show _ ∧ _ ∧ _ = some 0 from by decide +kernel) rfl d_R_init_42) (fun rv M11 H locs hq hw => ?_) (fun _ _ _ _ _ h _ _ => h.elim)
  obtain ⟨rfl, h_la3, fr⟩ := hq
  have hF := hF.trans fr (by intro z hz; rw [List.mem_singleton.mp hz]; exact Or.inr hn_la3)
  have h_rc := fr.get h_rc (by simp [ne_h_rc_la3])
  have h_la0 := fr.get h_la0 (by simp [ne_h_la0_la3])
  have h_la1 := fr.get h_la1 (by simp [ne_h_la1_la3])
  have h_la2 := fr.get h_la2 (by simp [ne_h_la2_la3])
  refine W.eq (g2 := F0 m 45 ls [.ref la3, .ref rc]) rfl ?_
  refine x_putF (ty := .object "java/util/ArrayList") hC hw h_rc rfl 3 (by decide) (hts _ k_179) (fun _ h9 => h9) rfl hin rfl (by decide +kernel) rfl rfl (Nat.le_of_ble_eq_true rfl) d_R_init_45 (fun M12 H locs em fr hw => ?_)
  have em : M12 rc = some (.inr (0, [.ref la0, .ref la1, .ref la2, .ref la3, .null, .null, .null, .null])) := em
  have h_la0 := (fr _ (Ne.symm ne_h_rc_la0)).trans h_la0
  have h_la1 := (fr _ (Ne.symm ne_h_rc_la1)).trans h_la1
  have h_la2 := (fr _ (Ne.symm ne_h_rc_la2)).trans h_la2
  have h_la3 := (fr _ (Ne.symm ne_h_rc_la3)).trans h_la3
  have h_rc := em
  have hF := hF.put em fr (Or.inl (by simp))
  refine lv_aload_n hx hb d_R_init_48 rfl (lv_at hl 0 rfl) ?_
  refine x_new (fs := [.null, .int (nI 0), .int (nI 0)]) hC hw rfl (hts _ k_35) (hts _ k_36) (hts _ k_4) nf_8 (Nat.le_of_ble_eq_true rfl) (Nat.le_of_ble_eq_true rfl) d_R_init_49 (fun la4 M13 H hn em fr hw => ?_)
  have ne_h_rc_la4 : rc ≠ la4 := x_neN h_rc hn
  have h_rc := (fr _ ne_h_rc_la4).trans h_rc
  have ne_h_la0_la4 : la0 ≠ la4 := x_neN h_la0 hn
  have h_la0 := (fr _ ne_h_la0_la4).trans h_la0
  have ne_h_la1_la4 : la1 ≠ la4 := x_neN h_la1 hn
  have h_la1 := (fr _ ne_h_la1_la4).trans h_la1
  have ne_h_la2_la4 : la2 ≠ la4 := x_neN h_la2 hn
  have h_la2 := (fr _ ne_h_la2_la4).trans h_la2
  have ne_h_la3_la4 : la3 ≠ la4 := x_neN h_la3 hn
  have h_la3 := (fr _ ne_h_la3_la4).trans h_la3
  have h_la4 := em
  have hn_la4 := hF.none hn
  have hF := hF.put em fr (Or.inr hn)
  refine lv_dup hx hb d_R_init_52 rfl ?_
  refine x_callG hC (c_AL_init l G M13 (Array.size H) la4 fz hfz h_la4) k_39 k_4 ⟨Nat.le_of_ble_eq_true rfl, Nat.le_of_ble_eq_true rfl⟩ ⟨Nat.le_of_ble_eq_true rfl, Nat.le_of_ble_eq_true rfl⟩ hw hl.1 (Nat.le_of_ble_eq_true rfl) d_R_init_53 (x_ivI hC k_39 k_37 k_38 rfl (show _ ∧ _ ∧ _ = some 0 from by decide +kernel) rfl d_R_init_53) (fun rv M14 H locs hq hw => ?_) (fun _ _ _ _ _ h _ _ => h.elim)
  obtain ⟨rfl, h_la4, fr⟩ := hq
  have hF := hF.trans fr (by intro z hz; rw [List.mem_singleton.mp hz]; exact Or.inr hn_la4)
  have h_rc := fr.get h_rc (by simp [ne_h_rc_la4])
  have h_la0 := fr.get h_la0 (by simp [ne_h_la0_la4])
  have h_la1 := fr.get h_la1 (by simp [ne_h_la1_la4])
  have h_la2 := fr.get h_la2 (by simp [ne_h_la2_la4])
  have h_la3 := fr.get h_la3 (by simp [ne_h_la3_la4])
  refine W.eq (g2 := F0 m 56 ls [.ref la4, .ref rc]) rfl ?_
  refine x_putF (ty := .object "java/util/ArrayList") hC hw h_rc rfl 4 (by decide) (hts _ k_180) (fun _ h9 => h9) rfl hin rfl (by decide +kernel) rfl rfl (Nat.le_of_ble_eq_true rfl) d_R_init_56 (fun M15 H locs em fr hw => ?_)
  have em : M15 rc = some (.inr (0, [.ref la0, .ref la1, .ref la2, .ref la3, .ref la4, .null, .null, .null])) := em
  have h_la0 := (fr _ (Ne.symm ne_h_rc_la0)).trans h_la0
  have h_la1 := (fr _ (Ne.symm ne_h_rc_la1)).trans h_la1
  have h_la2 := (fr _ (Ne.symm ne_h_rc_la2)).trans h_la2
  have h_la3 := (fr _ (Ne.symm ne_h_rc_la3)).trans h_la3
  have h_la4 := (fr _ (Ne.symm ne_h_rc_la4)).trans h_la4
  have h_rc := em
  have hF := hF.put em fr (Or.inl (by simp))
  refine lv_aload_n hx hb d_R_init_59 rfl (lv_at hl 0 rfl) ?_
  refine x_new (fs := [.null, .int (nI 0), .int (nI 0)]) hC hw rfl (hts _ k_35) (hts _ k_36) (hts _ k_4) nf_8 (Nat.le_of_ble_eq_true rfl) (Nat.le_of_ble_eq_true rfl) d_R_init_60 (fun la5 M16 H hn em fr hw => ?_)
  have ne_h_rc_la5 : rc ≠ la5 := x_neN h_rc hn
  have h_rc := (fr _ ne_h_rc_la5).trans h_rc
  have ne_h_la0_la5 : la0 ≠ la5 := x_neN h_la0 hn
  have h_la0 := (fr _ ne_h_la0_la5).trans h_la0
  have ne_h_la1_la5 : la1 ≠ la5 := x_neN h_la1 hn
  have h_la1 := (fr _ ne_h_la1_la5).trans h_la1
  have ne_h_la2_la5 : la2 ≠ la5 := x_neN h_la2 hn
  have h_la2 := (fr _ ne_h_la2_la5).trans h_la2
  have ne_h_la3_la5 : la3 ≠ la5 := x_neN h_la3 hn
  have h_la3 := (fr _ ne_h_la3_la5).trans h_la3
  have ne_h_la4_la5 : la4 ≠ la5 := x_neN h_la4 hn
  have h_la4 := (fr _ ne_h_la4_la5).trans h_la4
  have h_la5 := em
  have hn_la5 := hF.none hn
  have hF := hF.put em fr (Or.inr hn)
  refine lv_dup hx hb d_R_init_63 rfl ?_
  refine x_callG hC (c_AL_init l G M16 (Array.size H) la5 fz hfz h_la5) k_39 k_4 ⟨Nat.le_of_ble_eq_true rfl, Nat.le_of_ble_eq_true rfl⟩ ⟨Nat.le_of_ble_eq_true rfl, Nat.le_of_ble_eq_true rfl⟩ hw hl.1 (Nat.le_of_ble_eq_true rfl) d_R_init_64 (x_ivI hC k_39 k_37 k_38 rfl (show _ ∧ _ ∧ _ = some 0 from by decide +kernel) rfl d_R_init_64) (fun rv M17 H locs hq hw => ?_) (fun _ _ _ _ _ h _ _ => h.elim)
  obtain ⟨rfl, h_la5, fr⟩ := hq
  have hF := hF.trans fr (by intro z hz; rw [List.mem_singleton.mp hz]; exact Or.inr hn_la5)
  have h_rc := fr.get h_rc (by simp [ne_h_rc_la5])
  have h_la0 := fr.get h_la0 (by simp [ne_h_la0_la5])
  have h_la1 := fr.get h_la1 (by simp [ne_h_la1_la5])
  have h_la2 := fr.get h_la2 (by simp [ne_h_la2_la5])
  have h_la3 := fr.get h_la3 (by simp [ne_h_la3_la5])
  have h_la4 := fr.get h_la4 (by simp [ne_h_la4_la5])
  refine W.eq (g2 := F0 m 67 ls [.ref la5, .ref rc]) rfl ?_
  refine x_putF (ty := .object "java/util/ArrayList") hC hw h_rc rfl 5 (by decide) (hts _ k_181) (fun _ h9 => h9) rfl hin rfl (by decide +kernel) rfl rfl (Nat.le_of_ble_eq_true rfl) d_R_init_67 (fun M18 H locs em fr hw => ?_)
  have em : M18 rc = some (.inr (0, [.ref la0, .ref la1, .ref la2, .ref la3, .ref la4, .ref la5, .null, .null])) := em
  have h_la0 := (fr _ (Ne.symm ne_h_rc_la0)).trans h_la0
  have h_la1 := (fr _ (Ne.symm ne_h_rc_la1)).trans h_la1
  have h_la2 := (fr _ (Ne.symm ne_h_rc_la2)).trans h_la2
  have h_la3 := (fr _ (Ne.symm ne_h_rc_la3)).trans h_la3
  have h_la4 := (fr _ (Ne.symm ne_h_rc_la4)).trans h_la4
  have h_la5 := (fr _ (Ne.symm ne_h_rc_la5)).trans h_la5
  have h_rc := em
  have hF := hF.put em fr (Or.inl (by simp))
  refine lv_aload_n hx hb d_R_init_70 rfl (lv_at hl 0 rfl) ?_
  refine x_new (fs := [.int (nI 0), .null]) hC hw rfl (hts _ k_61) (hts _ k_62) (hts _ k_5) nf_7 (Nat.le_of_ble_eq_true rfl) (Nat.le_of_ble_eq_true rfl) d_R_init_71 (fun fi M19 H hn em fr hw => ?_)
  have ne_h_rc_fi : rc ≠ fi := x_neN h_rc hn
  have h_rc := (fr _ ne_h_rc_fi).trans h_rc
  have ne_h_la0_fi : la0 ≠ fi := x_neN h_la0 hn
  have h_la0 := (fr _ ne_h_la0_fi).trans h_la0
  have ne_h_la1_fi : la1 ≠ fi := x_neN h_la1 hn
  have h_la1 := (fr _ ne_h_la1_fi).trans h_la1
  have ne_h_la2_fi : la2 ≠ fi := x_neN h_la2 hn
  have h_la2 := (fr _ ne_h_la2_fi).trans h_la2
  have ne_h_la3_fi : la3 ≠ fi := x_neN h_la3 hn
  have h_la3 := (fr _ ne_h_la3_fi).trans h_la3
  have ne_h_la4_fi : la4 ≠ fi := x_neN h_la4 hn
  have h_la4 := (fr _ ne_h_la4_fi).trans h_la4
  have ne_h_la5_fi : la5 ≠ fi := x_neN h_la5 hn
  have h_la5 := (fr _ ne_h_la5_fi).trans h_la5
  have h_fi := em
  have hn_fi := hF.none hn
  have hF := hF.put em fr (Or.inr hn)
  refine lv_dup hx hb d_R_init_74 rfl ?_
  refine x_callG hC (c_F_init l G M19 (Array.size H) fi h_fi) k_65 k_5 ⟨Nat.le_of_ble_eq_true rfl, Nat.le_of_ble_eq_true rfl⟩ ⟨Nat.le_of_ble_eq_true rfl, Nat.le_of_ble_eq_true rfl⟩ hw hl.1 (Nat.le_of_ble_eq_true rfl) d_R_init_75 (x_ivN hC k_65 k_63 k_64 rfl (show _ ∧ _ ∧ _ = some 0 from by decide +kernel) rfl d_R_init_75) (fun rv M20 H locs hq hw => ?_) (fun _ _ _ _ _ h _ _ => h.elim)
  obtain ⟨rfl, fp, hnx, h_fi, h_fp, fr⟩ := hq
  have ne_rc_fp : rc ≠ fp := x_neN h_rc hnx
  have ne_la0_fp : la0 ≠ fp := x_neN h_la0 hnx
  have ne_la1_fp : la1 ≠ fp := x_neN h_la1 hnx
  have ne_la2_fp : la2 ≠ fp := x_neN h_la2 hnx
  have ne_la3_fp : la3 ≠ fp := x_neN h_la3 hnx
  have ne_la4_fp : la4 ≠ fp := x_neN h_la4 hnx
  have ne_la5_fp : la5 ≠ fp := x_neN h_la5 hnx
  have hn_fp := hF.none hnx
  have hF := hF.trans fr (by intro z hz; rw [List.mem_singleton.mp hz]; exact Or.inr hn_fi)
  have h_rc := fr.get h_rc (by simp [ne_h_rc_fi])
  have h_la0 := fr.get h_la0 (by simp [ne_h_la0_fi])
  have h_la1 := fr.get h_la1 (by simp [ne_h_la1_fi])
  have h_la2 := fr.get h_la2 (by simp [ne_h_la2_fi])
  have h_la3 := fr.get h_la3 (by simp [ne_h_la3_fi])
  have h_la4 := fr.get h_la4 (by simp [ne_h_la4_fi])
  have h_la5 := fr.get h_la5 (by simp [ne_h_la5_fi])
  refine W.eq (g2 := F0 m 78 ls [.ref fi, .ref rc]) rfl ?_
  refine x_putF (ty := .object "RedactCheck$Findings") hC hw h_rc rfl 6 (by decide) (hts _ k_182) (fun _ h9 => h9) rfl hin rfl (by decide +kernel) rfl rfl (Nat.le_of_ble_eq_true rfl) d_R_init_78 (fun M21 H locs em fr hw => ?_)
  have em : M21 rc = some (.inr (0, [.ref la0, .ref la1, .ref la2, .ref la3, .ref la4, .ref la5, .ref fi, .null])) := em
  have h_la0 := (fr _ (Ne.symm ne_h_rc_la0)).trans h_la0
  have h_la1 := (fr _ (Ne.symm ne_h_rc_la1)).trans h_la1
  have h_la2 := (fr _ (Ne.symm ne_h_rc_la2)).trans h_la2
  have h_la3 := (fr _ (Ne.symm ne_h_rc_la3)).trans h_la3
  have h_la4 := (fr _ (Ne.symm ne_h_rc_la4)).trans h_la4
  have h_la5 := (fr _ (Ne.symm ne_h_rc_la5)).trans h_la5
  have h_fi := (fr _ (Ne.symm ne_h_rc_fi)).trans h_fi
  have h_fp := (fr _ (Ne.symm ne_rc_fp)).trans h_fp
  have h_rc := em
  have hF := hF.put em fr (Or.inl (by simp))
  refine lv_aload_n hx hb d_R_init_81 rfl (lv_at hl 0 rfl) ?_
  refine x_new (fs := [.null, .int (nI 0)]) hC hw rfl (hts _ k_76) (hts _ k_77) (hts _ k_7) nf_2 (Nat.le_of_ble_eq_true rfl) (Nat.le_of_ble_eq_true rfl) d_R_init_82 (fun co M22 H hn em fr hw => ?_)
  have ne_h_rc_co : rc ≠ co := x_neN h_rc hn
  have h_rc := (fr _ ne_h_rc_co).trans h_rc
  have ne_h_la0_co : la0 ≠ co := x_neN h_la0 hn
  have h_la0 := (fr _ ne_h_la0_co).trans h_la0
  have ne_h_la1_co : la1 ≠ co := x_neN h_la1 hn
  have h_la1 := (fr _ ne_h_la1_co).trans h_la1
  have ne_h_la2_co : la2 ≠ co := x_neN h_la2 hn
  have h_la2 := (fr _ ne_h_la2_co).trans h_la2
  have ne_h_la3_co : la3 ≠ co := x_neN h_la3 hn
  have h_la3 := (fr _ ne_h_la3_co).trans h_la3
  have ne_h_la4_co : la4 ≠ co := x_neN h_la4 hn
  have h_la4 := (fr _ ne_h_la4_co).trans h_la4
  have ne_h_la5_co : la5 ≠ co := x_neN h_la5 hn
  have h_la5 := (fr _ ne_h_la5_co).trans h_la5
  have ne_h_fi_co : fi ≠ co := x_neN h_fi hn
  have h_fi := (fr _ ne_h_fi_co).trans h_fi
  have ne_h_fp_co : fp ≠ co := x_neN h_fp hn
  have h_fp := (fr _ ne_h_fp_co).trans h_fp
  have h_co := em
  have hn_co := hF.none hn
  have hF := hF.put em fr (Or.inr hn)
  refine lv_dup hx hb d_R_init_85 rfl ?_
  refine x_callG hC (c_C_init l G M22 (Array.size H) co h_co) k_80 k_7 ⟨Nat.le_of_ble_eq_true rfl, Nat.le_of_ble_eq_true rfl⟩ ⟨Nat.le_of_ble_eq_true rfl, Nat.le_of_ble_eq_true rfl⟩ hw hl.1 (Nat.le_of_ble_eq_true rfl) d_R_init_86 (x_ivN hC k_80 k_78 k_79 rfl (show _ ∧ _ ∧ _ = some 0 from by decide +kernel) rfl d_R_init_86) (fun rv M23 H locs hq hw => ?_) (fun _ _ _ _ _ h _ _ => h.elim)
  obtain ⟨rfl, cv, hnx, h_co, h_cv, fr⟩ := hq
  have ne_rc_cv : rc ≠ cv := x_neN h_rc hnx
  have ne_la0_cv : la0 ≠ cv := x_neN h_la0 hnx
  have ne_la1_cv : la1 ≠ cv := x_neN h_la1 hnx
  have ne_la2_cv : la2 ≠ cv := x_neN h_la2 hnx
  have ne_la3_cv : la3 ≠ cv := x_neN h_la3 hnx
  have ne_la4_cv : la4 ≠ cv := x_neN h_la4 hnx
  have ne_la5_cv : la5 ≠ cv := x_neN h_la5 hnx
  have ne_fi_cv : fi ≠ cv := x_neN h_fi hnx
  have ne_fp_cv : fp ≠ cv := x_neN h_fp hnx
  have hn_cv := hF.none hnx
  have hF := hF.trans fr (by intro z hz; rw [List.mem_singleton.mp hz]; exact Or.inr hn_co)
  have h_rc := fr.get h_rc (by simp [ne_h_rc_co])
  have h_la0 := fr.get h_la0 (by simp [ne_h_la0_co])
  have h_la1 := fr.get h_la1 (by simp [ne_h_la1_co])
  have h_la2 := fr.get h_la2 (by simp [ne_h_la2_co])
  have h_la3 := fr.get h_la3 (by simp [ne_h_la3_co])
  have h_la4 := fr.get h_la4 (by simp [ne_h_la4_co])
  have h_la5 := fr.get h_la5 (by simp [ne_h_la5_co])
  have h_fi := fr.get h_fi (by simp [ne_h_fi_co])
  have h_fp := fr.get h_fp (by simp [ne_h_fp_co])
  refine W.eq (g2 := F0 m 89 ls [.ref co, .ref rc]) rfl ?_
  refine x_putF (ty := .object "RedactCheck$Codes") hC hw h_rc rfl 7 (by decide) (hts _ k_183) (fun _ h9 => h9) rfl hin rfl (by decide +kernel) rfl rfl (Nat.le_of_ble_eq_true rfl) d_R_init_89 (fun M24 H locs em fr hw => ?_)
  have em : M24 rc = some (.inr (0, [.ref la0, .ref la1, .ref la2, .ref la3, .ref la4, .ref la5, .ref fi, .ref co])) := em
  have h_la0 := (fr _ (Ne.symm ne_h_rc_la0)).trans h_la0
  have h_la1 := (fr _ (Ne.symm ne_h_rc_la1)).trans h_la1
  have h_la2 := (fr _ (Ne.symm ne_h_rc_la2)).trans h_la2
  have h_la3 := (fr _ (Ne.symm ne_h_rc_la3)).trans h_la3
  have h_la4 := (fr _ (Ne.symm ne_h_rc_la4)).trans h_la4
  have h_la5 := (fr _ (Ne.symm ne_h_rc_la5)).trans h_la5
  have h_fi := (fr _ (Ne.symm ne_h_rc_fi)).trans h_fi
  have h_fp := (fr _ (Ne.symm ne_rc_fp)).trans h_fp
  have h_co := (fr _ (Ne.symm ne_h_rc_co)).trans h_co
  have h_cv := (fr _ (Ne.symm ne_rc_cv)).trans h_cv
  have h_rc := em
  have hF := hF.put em fr (Or.inl (by simp))
  refine lv_iconst (v := nI 0) hx hb d_R_init_92 (by decide) ?_
  refine lv_istore_n (lv' := [(1, .int (nI 0)), (0, .ref rc)]) hx hb d_R_init_93 rfl hl (by decide) rfl (fun ls hl => ?_)
  have HL94 : ∀ (z94 i : Nat) (el : Nat) (cap : Nat) (f : Nat → Option Nat) (mc : Int32) (rw : Nat → Nat) (pw : Nat → Nat), i ≤ 4 → 4 + 1 ≤ i + z94 → (capP fz el cap) → (i ≤ cap) → (el = fz ∨ M el = none) → (inj2 i rw) → (inj2 i pw) → ∀ (M1 : xMem), ∀ (H : Heap) (locs : List Loc) (ls : Array Slot), M1 rc = some (.inr (0, [.ref la0, .ref la1, .ref la2, .ref la3, .ref la4, .ref la5, .ref fi, .ref co])) → M1 la1 = some (.inr (8, [.ref fz, .int (nI 0), .int (nI 0)])) → M1 la2 = some (.inr (8, [.ref fz, .int (nI 0), .int (nI 0)])) → M1 la3 = some (.inr (8, [.ref fz, .int (nI 0), .int (nI 0)])) → M1 la4 = some (.inr (8, [.ref fz, .int (nI 0), .int (nI 0)])) → M1 la5 = some (.inr (8, [.ref fz, .int (nI 0), .int (nI 0)])) → M1 fi = some (.inr (7, [.int (nI 0), .ref fp])) → M1 fp = some (.inl (G.2.1 0, 500, .inl (fun _ => nI 0))) → M1 co = some (.inr (2, [.ref cv, .int (nI 0)])) → M1 cv = some (.inl (G.2.1 0, 60, .inl (fun _ => nI 0))) → M1 la0 = some (.inr (8, [.ref el, .int (nI i), .int mc])) → (cap ≠ 0 → M1 el = some (.inl (G.2.1 3, cap, .inr (.inr (.inr (.inr f)))))) → (rwP G M M1 i f rw pw) → xfr M M1 [rc] → xWd G (xA M sz) s.heap M1 H locs → lv_has ls 2 [(0, .ref rc), (1, .int (nI i))] → W p l e { frames := 7, cells := 22, slots := 1322, locals := 172 } s m ([.ref rc] : List Value).toArray below meth c H locs (10 + 3 * i) (582 + 185 * i) (xMQ below G M sz (fun u M' => u = none ∧ ∃ ad : Nat → Nat → Nat, cRep G M' fz ad (fun _ _ => 0) (fun _ _ => nI 0) ∧ ad 14 0 = rc ∧ xfr M M' [rc] ∧ ∀ a, own ad (fun _ _ => 0) a → a = rc ∨ a = fz ∨ M a = none) (fun _ _ => False) s 22 1322) (F0 m 94 ls []) := by
    intro z94
    induction z94 with
    | zero =>
      intro i el cap f mc rw pw h1 h2
      omega
    | succ z94 ih94 =>
      intro i el cap f mc rw pw hi94 hz94 hcp hic hel hi1 hi2 M1 H locs ls h_rc h_la1 h_la2 h_la3 h_la4 h_la5 h_fi h_fp h_co h_cv h_la0 h_el hrw hF hw hl
      refine lv_iload_n hx hb d_R_init_94 rfl (lv_at hl 1 rfl) ?_
      refine lv_iconst (v := nI 4) hx hb d_R_init_95 (by decide) ?_
      refine lv_icmp_ge (tgt := 121) hx hb d_R_init_96 (by decide) (fun c_96 => ?_) (fun c_96 => ?_)
      · have c_96 := (nI_leI (by omega) (by omega)).mp c_96
        obtain rfl : i = 4 := by omega
        have hil : inj2 6 (laI la0 la1 la2 la3 la4 la5) := by
          intro x y hx9 hy9 e9
          match x, hx9, y, hy9, e9 with
          | 0, _, 0, _, e9 => rfl
          | 0, _, 1, _, e9 => exact absurd e9 ne_h_la0_la1
          | 0, _, 2, _, e9 => exact absurd e9 ne_h_la0_la2
          | 0, _, 3, _, e9 => exact absurd e9 ne_h_la0_la3
          | 0, _, 4, _, e9 => exact absurd e9 ne_h_la0_la4
          | 0, _, 5, _, e9 => exact absurd e9 ne_h_la0_la5
          | 1, _, 0, _, e9 => exact absurd e9 (Ne.symm ne_h_la0_la1)
          | 1, _, 1, _, e9 => rfl
          | 1, _, 2, _, e9 => exact absurd e9 ne_h_la1_la2
          | 1, _, 3, _, e9 => exact absurd e9 ne_h_la1_la3
          | 1, _, 4, _, e9 => exact absurd e9 ne_h_la1_la4
          | 1, _, 5, _, e9 => exact absurd e9 ne_h_la1_la5
          | 2, _, 0, _, e9 => exact absurd e9 (Ne.symm ne_h_la0_la2)
          | 2, _, 1, _, e9 => exact absurd e9 (Ne.symm ne_h_la1_la2)
          | 2, _, 2, _, e9 => rfl
          | 2, _, 3, _, e9 => exact absurd e9 ne_h_la2_la3
          | 2, _, 4, _, e9 => exact absurd e9 ne_h_la2_la4
          | 2, _, 5, _, e9 => exact absurd e9 ne_h_la2_la5
          | 3, _, 0, _, e9 => exact absurd e9 (Ne.symm ne_h_la0_la3)
          | 3, _, 1, _, e9 => exact absurd e9 (Ne.symm ne_h_la1_la3)
          | 3, _, 2, _, e9 => exact absurd e9 (Ne.symm ne_h_la2_la3)
          | 3, _, 3, _, e9 => rfl
          | 3, _, 4, _, e9 => exact absurd e9 ne_h_la3_la4
          | 3, _, 5, _, e9 => exact absurd e9 ne_h_la3_la5
          | 4, _, 0, _, e9 => exact absurd e9 (Ne.symm ne_h_la0_la4)
          | 4, _, 1, _, e9 => exact absurd e9 (Ne.symm ne_h_la1_la4)
          | 4, _, 2, _, e9 => exact absurd e9 (Ne.symm ne_h_la2_la4)
          | 4, _, 3, _, e9 => exact absurd e9 (Ne.symm ne_h_la3_la4)
          | 4, _, 4, _, e9 => rfl
          | 4, _, 5, _, e9 => exact absurd e9 ne_h_la4_la5
          | 5, _, 0, _, e9 => exact absurd e9 (Ne.symm ne_h_la0_la5)
          | 5, _, 1, _, e9 => exact absurd e9 (Ne.symm ne_h_la1_la5)
          | 5, _, 2, _, e9 => exact absurd e9 (Ne.symm ne_h_la2_la5)
          | 5, _, 3, _, e9 => exact absurd e9 (Ne.symm ne_h_la3_la5)
          | 5, _, 4, _, e9 => exact absurd e9 (Ne.symm ne_h_la4_la5)
          | 5, _, 5, _, e9 => rfl
          | _ + 6, h9, _, _, _ => omega
          | _, _, _ + 6, h9, _ => omega
        have q1 := ini_rep (la := laI la0 la1 la2 la3 la4 la5) hfz hzP (x_fz0 hC hw hzP) (h_el (by omega)) hic hcp h_la0 (fun k h1 h2 => by match k, h1, h2 with | 1, _, _ => exact h_la1 | 2, _, _ => exact h_la2 | 3, _, _ => exact h_la3 | 4, _, _ => exact h_la4 | 5, _, _ => exact h_la5) hrw hi1 hi2 hil h_fi h_fp h_co h_cv h_rc
        have q2 := ini_own (rc := rc) (la := laI la0 la1 la2 la3 la4 la5) hel (fun k h2 => by match k, h2 with | 0, _ => exact hn_la0 | 1, _ => exact hn_la1 | 2, _ => exact hn_la2 | 3, _ => exact hn_la3 | 4, _ => exact hn_la4 | 5, _ => exact hn_la5) hrw hn_fi hn_fp hn_co hn_cv
        exact x_vret hC hr hw (⟨rfl, _, q1, rfl, hF, q2⟩) (show 10 + 3 * 4 + 0 ≤ 22 by omega) (show 582 + 185 * 4 + 0 ≤ 1322 by omega) d_R_init_121
      · have c_96 := Nat.not_le.mp ((not_congr (nI_leI (by omega) (by omega))).mp c_96)
        refine lv_aload_n hx hb d_R_init_99 rfl (lv_at hl 0 rfl) ?_
        refine x_get hC hw h_rc rfl 0 (by decide) (hts _ k_176) (fun _ h9 => h9) rfl d_R_init_100 ?_
        have hrw0 := hrw
        refine x_new (fs := [.int (nI 0), .null, .int (nI 0)]) hC hw rfl (hts _ k_101) (hts _ k_102) (hts _ k_8) nf_1 (show 10 + 3 * i + 0 + 1 ≤ 22 by omega) (show 582 + 185 * i + 0 + 3 ≤ 1322 by omega) d_R_init_103 (fun qr M25 H hn em fr hw => ?_)
        have ne_h_rc_qr : rc ≠ qr := x_neN h_rc hn
        have h_rc := (fr _ ne_h_rc_qr).trans h_rc
        have ne_h_la1_qr : la1 ≠ qr := x_neN h_la1 hn
        have h_la1 := (fr _ ne_h_la1_qr).trans h_la1
        have ne_h_la2_qr : la2 ≠ qr := x_neN h_la2 hn
        have h_la2 := (fr _ ne_h_la2_qr).trans h_la2
        have ne_h_la3_qr : la3 ≠ qr := x_neN h_la3 hn
        have h_la3 := (fr _ ne_h_la3_qr).trans h_la3
        have ne_h_la4_qr : la4 ≠ qr := x_neN h_la4 hn
        have h_la4 := (fr _ ne_h_la4_qr).trans h_la4
        have ne_h_la5_qr : la5 ≠ qr := x_neN h_la5 hn
        have h_la5 := (fr _ ne_h_la5_qr).trans h_la5
        have ne_h_fi_qr : fi ≠ qr := x_neN h_fi hn
        have h_fi := (fr _ ne_h_fi_qr).trans h_fi
        have ne_h_fp_qr : fp ≠ qr := x_neN h_fp hn
        have h_fp := (fr _ ne_h_fp_qr).trans h_fp
        have ne_h_co_qr : co ≠ qr := x_neN h_co hn
        have h_co := (fr _ ne_h_co_qr).trans h_co
        have ne_h_cv_qr : cv ≠ qr := x_neN h_cv hn
        have h_cv := (fr _ ne_h_cv_qr).trans h_cv
        have ne_h_la0_qr : la0 ≠ qr := x_neN h_la0 hn
        have h_la0 := (fr _ ne_h_la0_qr).trans h_la0
        have h_qr := em
        have hn_qr := hF.none hn
        have hF := hF.put em fr (Or.inr hn)
        have h_el := fun z => (fr _ (x_neN (h_el z) hn)).trans (h_el z)
        have hel_qr : cap ≠ 0 → el ≠ qr := fun z y => by have := h_el z; rw [y, em] at this; cases this
        have hnr : ∀ j, j < i → rw j ≠ qr := fun j hj => x_neN (hrw j hj).2.1 hn
        have hnq2 : ∀ j, j < i → pw j ≠ qr := fun j hj => x_neN (hrw j hj).2.2.1 hn
        have hrw := hrw.fr (xfr.rf.put em fr (Or.inl (List.mem_singleton.mpr rfl)) : xfr _ _ [qr]) (fun j hj z => hnr j hj (List.mem_singleton.mp z)) (fun j hj z => hnq2 j hj (List.mem_singleton.mp z))
        refine lv_dup hx hb d_R_init_106 rfl ?_
        refine lv_iload_n hx hb d_R_init_107 rfl (lv_at hl 1 rfl) ?_
        refine x_callG hC (c_S_init l G M25 (Array.size H) qr (nI i) h_qr) k_105 k_8 ⟨Nat.le_of_ble_eq_true rfl, Nat.le_of_ble_eq_true rfl⟩ ⟨(show 10 + 3 * i + 2 ≤ 22 by omega), (show 582 + 185 * i + 163 ≤ 1322 by omega)⟩ hw hl.1 (Nat.le_of_ble_eq_true rfl) d_R_init_108 (x_ivI hC k_105 k_103 k_104 rfl (show _ ∧ _ ∧ _ = some 1 from by decide +kernel) rfl d_R_init_108) (fun rv M26 H locs hq hw => ?_) (fun _ _ _ _ _ h _ _ => h.elim)
        obtain ⟨rfl, pa, hnx, h_qr, h_pa, fr⟩ := hq
        have ne_rc_pa : rc ≠ pa := x_neN h_rc hnx
        have ne_la1_pa : la1 ≠ pa := x_neN h_la1 hnx
        have ne_la2_pa : la2 ≠ pa := x_neN h_la2 hnx
        have ne_la3_pa : la3 ≠ pa := x_neN h_la3 hnx
        have ne_la4_pa : la4 ≠ pa := x_neN h_la4 hnx
        have ne_la5_pa : la5 ≠ pa := x_neN h_la5 hnx
        have ne_fi_pa : fi ≠ pa := x_neN h_fi hnx
        have ne_fp_pa : fp ≠ pa := x_neN h_fp hnx
        have ne_co_pa : co ≠ pa := x_neN h_co hnx
        have ne_cv_pa : cv ≠ pa := x_neN h_cv hnx
        have ne_la0_pa : la0 ≠ pa := x_neN h_la0 hnx
        have h_el := fun z => fr.get (h_el z) (fun y => hel_qr z (List.mem_singleton.mp y))
        have hnp : ∀ j, j < i → pw j ≠ pa := fun j hj => x_neN (hrw j hj).2.2.1 hnx
        have hn_pa := hF.none hnx
        have hF := hF.trans fr (by intro z hz; rw [List.mem_singleton.mp hz]; exact Or.inr hn_qr)
        have hrw := hrw.fr fr (fun j hj z => hnr j hj (List.mem_singleton.mp z)) (fun j hj z => hnq2 j hj (List.mem_singleton.mp z))
        have h_rc := fr.get h_rc (by simp [ne_h_rc_qr])
        have h_la1 := fr.get h_la1 (by simp [ne_h_la1_qr])
        have h_la2 := fr.get h_la2 (by simp [ne_h_la2_qr])
        have h_la3 := fr.get h_la3 (by simp [ne_h_la3_qr])
        have h_la4 := fr.get h_la4 (by simp [ne_h_la4_qr])
        have h_la5 := fr.get h_la5 (by simp [ne_h_la5_qr])
        have h_fi := fr.get h_fi (by simp [ne_h_fi_qr])
        have h_fp := fr.get h_fp (by simp [ne_h_fp_qr])
        have h_co := fr.get h_co (by simp [ne_h_co_qr])
        have h_cv := fr.get h_cv (by simp [ne_h_cv_qr])
        have h_la0 := fr.get h_la0 (by simp [ne_h_la0_qr])
        refine W.eq (g2 := F0 m 111 ls [.ref qr, .ref la0]) rfl ?_
        have hrw0 := hrw
        have h_rc0 := h_rc
        have h_la10 := h_la1
        have h_la20 := h_la2
        have h_la30 := h_la3
        have h_la40 := h_la4
        have h_la50 := h_la5
        have h_fi0 := h_fi
        have h_fp0 := h_fp
        have h_co0 := h_co
        have h_cv0 := h_cv
        have h_la00 := h_la0
        have h_qr0 := h_qr
        have h_pa0 := h_pa
        have h_el0 := h_el
        refine x_callG hC (c_AL_add l G M26 (Array.size H) la0 el fz i cap mc f 1 _ _ _ rfl k_985 (by decide) hfz hic (by omega) hcp hzP hrw.elP h_la0 h_el qr _ (Ne.symm ne_h_la0_qr) h_qr) k_119 k_4 ⟨Nat.le_of_ble_eq_true rfl, Nat.le_of_ble_eq_true rfl⟩ ⟨(show 10 + 3 * i + 3 ≤ 22 by omega), (show 582 + 185 * i + 185 ≤ 1322 by omega)⟩ hw hl.1 (Nat.le_of_ble_eq_true rfl) d_R_init_111 (x_ivV hC k_119 k_116 k_117 k_118 (show _ ∧ _ ∧ _ = some 1 from by decide +kernel) (x_recv hC hw h_la0 rfl) rfl d_R_init_111) (fun rv M27 H locs hq hw => ?_) (fun _ _ _ _ _ h _ _ => h.elim)
        obtain ⟨rfl, el', cap', f', a1, a2, a3, a4, a5, a6, a7, afz, fr⟩ := hq
        have nf_rc : rc ≠ el' := by rcases a7 with ⟨z1, z9⟩ | z; (rw [z1]; exact x_ne h_rc0 (h_el0 (by omega)) (by first | exact x_neA | exact x_neA.symm | (intro z; cases z))); exact x_neN h_rc0 z
        have h_rc := fr.get h_rc (by intro z; rcases List.mem_cons.mp z with z | z; exact (ne_h_rc_la0) z; exact nf_rc (List.mem_singleton.mp z))
        have nf_la1 : la1 ≠ el' := by rcases a7 with ⟨z1, z9⟩ | z; (rw [z1]; exact x_ne h_la10 (h_el0 (by omega)) (by first | exact x_neA | exact x_neA.symm | (intro z; cases z))); exact x_neN h_la10 z
        have h_la1 := fr.get h_la1 (by intro z; rcases List.mem_cons.mp z with z | z; exact ((Ne.symm ne_h_la0_la1)) z; exact nf_la1 (List.mem_singleton.mp z))
        have nf_la2 : la2 ≠ el' := by rcases a7 with ⟨z1, z9⟩ | z; (rw [z1]; exact x_ne h_la20 (h_el0 (by omega)) (by first | exact x_neA | exact x_neA.symm | (intro z; cases z))); exact x_neN h_la20 z
        have h_la2 := fr.get h_la2 (by intro z; rcases List.mem_cons.mp z with z | z; exact ((Ne.symm ne_h_la0_la2)) z; exact nf_la2 (List.mem_singleton.mp z))
        have nf_la3 : la3 ≠ el' := by rcases a7 with ⟨z1, z9⟩ | z; (rw [z1]; exact x_ne h_la30 (h_el0 (by omega)) (by first | exact x_neA | exact x_neA.symm | (intro z; cases z))); exact x_neN h_la30 z
        have h_la3 := fr.get h_la3 (by intro z; rcases List.mem_cons.mp z with z | z; exact ((Ne.symm ne_h_la0_la3)) z; exact nf_la3 (List.mem_singleton.mp z))
        have nf_la4 : la4 ≠ el' := by rcases a7 with ⟨z1, z9⟩ | z; (rw [z1]; exact x_ne h_la40 (h_el0 (by omega)) (by first | exact x_neA | exact x_neA.symm | (intro z; cases z))); exact x_neN h_la40 z
        have h_la4 := fr.get h_la4 (by intro z; rcases List.mem_cons.mp z with z | z; exact ((Ne.symm ne_h_la0_la4)) z; exact nf_la4 (List.mem_singleton.mp z))
        have nf_la5 : la5 ≠ el' := by rcases a7 with ⟨z1, z9⟩ | z; (rw [z1]; exact x_ne h_la50 (h_el0 (by omega)) (by first | exact x_neA | exact x_neA.symm | (intro z; cases z))); exact x_neN h_la50 z
        have h_la5 := fr.get h_la5 (by intro z; rcases List.mem_cons.mp z with z | z; exact ((Ne.symm ne_h_la0_la5)) z; exact nf_la5 (List.mem_singleton.mp z))
        have nf_fi : fi ≠ el' := by rcases a7 with ⟨z1, z9⟩ | z; (rw [z1]; exact x_ne h_fi0 (h_el0 (by omega)) (by first | exact x_neA | exact x_neA.symm | (intro z; cases z))); exact x_neN h_fi0 z
        have h_fi := fr.get h_fi (by intro z; rcases List.mem_cons.mp z with z | z; exact ((Ne.symm ne_h_la0_fi)) z; exact nf_fi (List.mem_singleton.mp z))
        have nf_fp : fp ≠ el' := by rcases a7 with ⟨z1, z9⟩ | z; (rw [z1]; exact x_ne h_fp0 (h_el0 (by omega)) (by first | exact x_neA | exact x_neA.symm | (intro z; cases z))); exact x_neN h_fp0 z
        have h_fp := fr.get h_fp (by intro z; rcases List.mem_cons.mp z with z | z; exact ((Ne.symm ne_la0_fp)) z; exact nf_fp (List.mem_singleton.mp z))
        have nf_co : co ≠ el' := by rcases a7 with ⟨z1, z9⟩ | z; (rw [z1]; exact x_ne h_co0 (h_el0 (by omega)) (by first | exact x_neA | exact x_neA.symm | (intro z; cases z))); exact x_neN h_co0 z
        have h_co := fr.get h_co (by intro z; rcases List.mem_cons.mp z with z | z; exact ((Ne.symm ne_h_la0_co)) z; exact nf_co (List.mem_singleton.mp z))
        have nf_cv : cv ≠ el' := by rcases a7 with ⟨z1, z9⟩ | z; (rw [z1]; exact x_ne h_cv0 (h_el0 (by omega)) (by first | exact x_neA | exact x_neA.symm | (intro z; cases z))); exact x_neN h_cv0 z
        have h_cv := fr.get h_cv (by intro z; rcases List.mem_cons.mp z with z | z; exact ((Ne.symm ne_la0_cv)) z; exact nf_cv (List.mem_singleton.mp z))
        have nf_qr : qr ≠ el' := by rcases a7 with ⟨z1, z9⟩ | z; (rw [z1]; exact x_ne h_qr0 (h_el0 (by omega)) (by first | exact x_neA | exact x_neA.symm | (intro z; cases z))); exact x_neN h_qr0 z
        have h_qr := fr.get h_qr (by intro z; rcases List.mem_cons.mp z with z | z; exact ((Ne.symm ne_h_la0_qr)) z; exact nf_qr (List.mem_singleton.mp z))
        have nf_pa : pa ≠ el' := by rcases a7 with ⟨z1, z9⟩ | z; (rw [z1]; exact x_ne h_pa0 (h_el0 (by omega)) (by first | exact x_neA | exact x_neA.symm | (intro z; cases z))); exact x_neN h_pa0 z
        have h_pa := fr.get h_pa (by intro z; rcases List.mem_cons.mp z with z | z; exact ((Ne.symm ne_la0_pa)) z; exact nf_pa (List.mem_singleton.mp z))
        have heln : el' = fz ∨ M el' = none := by rcases a7 with ⟨z1, _⟩ | z; (rw [z1]; exact hel); exact Or.inr (hF.none z)
        have hrw := hrw.fr fr (fun j hj z => by rcases List.mem_cons.mp z with z | z; exact x_ne (hrw0 j hj).2.1 h_la00 (by intro y; cases y) z; (rcases a7 with ⟨z1, z9⟩ | z2; (exact x_ne (hrw0 j hj).2.1 (h_el0 (by omega)) (by intro y; cases y) ((List.mem_singleton.mp z).trans z1)); exact x_neN (hrw0 j hj).2.1 z2 (List.mem_singleton.mp z))) (fun j hj z => by rcases List.mem_cons.mp z with z | z; exact x_ne (hrw0 j hj).2.2.1 h_la00 (by intro y; cases y) z; (rcases a7 with ⟨z1, z9⟩ | z2; (exact x_ne (hrw0 j hj).2.2.1 (h_el0 (by omega)) x_neA.symm ((List.mem_singleton.mp z).trans z1)); exact x_neN (hrw0 j hj).2.2.1 z2 (List.mem_singleton.mp z)))
        have hF := hF.trans fr (by intro z hz; rcases List.mem_cons.mp hz with rfl | hz; exact Or.inr hn_la0; (rw [List.mem_singleton.mp hz]; rcases heln with y | y; exact absurd y afz; exact Or.inr y))
        refine W.eq (g2 := F0 m 114 ls [.int (nI 1)]) rfl ?_
        have h_la0 := a1
        refine lv_pop hx hb d_R_init_114 rfl ?_
        refine lv_iinc (v := nI (i + 1)) (lv' := [(1, .int (nI (i + 1))), (0, .ref rc)]) hx hb d_R_init_115 hl (k := 1) rfl (by exact nI_1 _) (by decide) rfl (fun ls hl => ?_)
        refine lv_goto (tgt := 94) hx hb d_R_init_118 (by decide) ?_
        exact W.widen (show 10 + 3 * i + 3 ≤ 10 + 3 * (i + 1) by omega) (show 582 + 185 * i + 185 ≤ 582 + 185 * (i + 1) by omega) (ih94 (i + 1) (el') (cap') (f') ((mc + nI 1)) (va_up rw i qr) (va_up pw i pa) (by omega) (by omega) (a4) (a3) (heln) (hi1.next hnr) (hi2.next hnp) _ _ _ _ h_rc h_la1 h_la2 h_la3 h_la4 h_la5 h_fi h_fp h_co h_cv h_la0 (fun _ => a2) (hrw.next a5 a6 h_qr h_pa hn_qr hn_pa) hF hw (lv_sub hl [1, 0] rfl))
  exact W.widen (show 10 ≤ 10 + 3 * (0) by omega) (show 582 ≤ 582 + 185 * (0) by omega) (HL94 (4 + 1) (0) (fz) (0) (fun _ => none) (nI 0) (fun _ => 0) (fun _ => 0) (by omega) (by omega) (Or.inl ⟨rfl, rfl⟩) (Nat.le_refl 0) (Or.inl rfl) (fun i j hi => absurd hi (Nat.not_lt_zero i)) (fun i j hi => absurd hi (Nat.not_lt_zero i)) _ _ _ _ h_rc h_la1 h_la2 h_la3 h_la4 h_la5 h_fi h_fp h_co h_cv h_la0 (fun z => absurd rfl z) (fun j hj => absurd hj (Nat.not_lt_zero j)) hF hw (lv_sub hl [1, 0] rfl))
