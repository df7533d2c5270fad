/-! the uses' marks and twins -/
def usC (ad : Nat → Nat → Nat) (nu : Nat → Nat → Nat) (sg : Nat → Nat → Int32) (u : Nat) (mk : Int64) (tw : Option Nat) : va_E := .inr (5, [.int (sg 8 u), .int (sg 10 u), .int (sg 11 u), .ref (ad 2 (4 + nu 9 u)), .long mk, va_rf tw])
def SU (ad : Nat → Nat → Nat) (n : Nat) : List Nat := ad 12 0 :: ad 13 0 :: (List.range n).map (fun j => ad 4 j)
def twP (nu : Nat → Nat → Nat) (sg : Nat → Nat → Int32) (ad : Nat → Nat → Nat) (u : Nat) (t : Option Nat) : Prop := (t = none ∧ ∀ w, w < u → ¬ alk nu sg u w) ∨ ∃ w, w < u ∧ t = some (ad 4 w) ∧ alk nu sg u w ∧ ∀ v, v < w → ¬ alk nu sg u v
theorem x_narQ (C : String) (t : Option Nat) : narrow (.object C) (va_rf t) = va_rf t := by
  cases t <;> rfl
theorem x_fitQ (C : String) (t : Option Nat) : fits (.object C) (va_rf t) = true := by
  cases t <;> rfl
section US
variable {G : xT} {M M' : xMem} {fz : Nat} {ad : Nat → Nat → Nat} {nu : Nat → Nat → Nat} {sg : Nat → Nat → Int32}
theorem SU_u {n j : Nat} (h : j < n) : ad 4 j ∈ SU ad n := List.mem_cons_of_mem _ (List.mem_cons_of_mem _ (List.mem_map.mpr ⟨j, List.mem_range.mpr h, rfl⟩))
theorem SU_co {n : Nat} : ∀ a ∈ [ad 12 0, ad 13 0], a ∈ SU ad n := by
  intro a ha
  rcases List.mem_cons.mp ha with rfl | ha
  · exact List.mem_cons_self
  · rw [List.mem_singleton.mp ha]
    exact List.mem_cons_of_mem _ List.mem_cons_self
theorem SU_in {n a : Nat} (h : a ∈ SU ad n) : a = ad 12 0 ∨ a = ad 13 0 ∨ ∃ j, j < n ∧ a = ad 4 j := by
  rcases List.mem_cons.mp h with h | h
  · exact Or.inl h
  · rcases List.mem_cons.mp h with h | h
    · exact Or.inr (Or.inl h)
    · obtain ⟨j, hj, e⟩ := List.mem_map.mp h
      exact Or.inr (Or.inr ⟨j, List.mem_range.mp hj, e.symm⟩)
theorem SU_vl {n : Nat} (hn : n ≤ nu 7 0) : vlP ad nu (SU ad n) := by
  intro a ha
  rcases SU_in ha with h | h | ⟨j, hj, h⟩
  · exact ⟨12, 0, h, Nat.zero_lt_one, by decide⟩
  · exact ⟨13, 0, h, Nat.zero_lt_one, by decide⟩
  · exact ⟨4, j, h, Nat.lt_of_lt_of_le hj hn, by decide⟩
theorem cRep.nco (h : cRep G M fz ad nu sg) {k i : Nat} (hi : i < rng nu k) (h1 : k ≠ 12) (h2 : k ≠ 13) : ad k i ∉ [ad 12 0, ad 13 0] := by
  intro z
  rcases List.mem_cons.mp z with z | z
  · exact h.ne (k' := 12) (j := 0) hi Nat.zero_lt_one h1 z
  · exact h.ne (k' := 13) (j := 0) hi Nat.zero_lt_one h2 (List.mem_singleton.mp z)
theorem cRep.usesU (h : cRep G M fz ad nu sg) (hz9 : M' fz = none) (hfm : ∀ u, u < nu 7 0 → nu 9 u < nu 6 0) (fr : xfr M M' (SU ad (nu 7 0))) {mks : Nat → Int64} {tws : Nat → Option Nat} {k : Int32} {g : Nat → Int32} (hU : ∀ j, j < nu 7 0 → M' (ad 4 j) = some (usC ad nu sg j (mks j) (tws j))) (h3 : M' (ad 12 0) = some (.inr (2, [.ref (ad 13 0), .int k]))) (h4 : M' (ad 13 0) = some (.inl (G.2.1 0, 60, .inl g))) : cRep G M' fz ad nu sg := by
  refine h.inpl hz9 fr (fun _ => rfl) hfm (fun k i => k = 4 ∨ k = 12 ∨ k = 13) ?_ ?_ ?_
  · intro a ha
    rcases SU_in ha with h | h | ⟨j, hj, h⟩
    · exact ⟨12, 0, h, Nat.zero_lt_one, by decide, Or.inr (Or.inl rfl)⟩
    · exact ⟨13, 0, h, Nat.zero_lt_one, by decide, Or.inr (Or.inr rfl)⟩
    · exact ⟨4, j, h, hj, by decide, Or.inl rfl⟩
  · intro k' i hi hk
    rcases hk with rfl | rfl | rfl
    · exact ⟨_, hU i hi, mks i, tws i, rfl⟩
    · have hi0 : i = 0 := Nat.lt_one_iff.mp hi
      rw [hi0]
      exact ⟨_, h3, k, rfl⟩
    · have hi0 : i = 0 := Nat.lt_one_iff.mp hi
      rw [hi0]
      exact ⟨_, h4, g, rfl⟩
  · intro k' i hi hk
    exact eqK_of (fun _ _ => rfl) (fun _ _ => rfl)
theorem cRep.usO (h : cRep G M fz ad nu sg) {u : Nat} (hu : u < nu 7 0) : ∃ mk tw, M (ad 4 u) = some (usC ad nu sg u mk tw) := h.us hu
/-- of one form and one set of marks -/
theorem tw_alk {mks : Nat → Int64} {mk : Int64} {u j : Nat} (h40 : ∀ r, nu 1 r ≤ 40) (hb : ∀ k, k < 64 → (bitP mk k ↔ mkU nu sg u k)) (hj : ∀ k, k < 64 → (bitP (mks j) k ↔ mkU nu sg j k)) : (nu 9 j = nu 9 u ∧ mks j = mk) ↔ alk nu sg u j := by
  have e := eq64 (P := mkU nu sg j) (Q := mkU nu sg u) (h40 (4 + nu 9 j)) (h40 (4 + nu 9 u)) hj hb (fun k z => z.1) (fun k z => z.1)
  constructor
  · intro ⟨a, b⟩
    exact ⟨a.symm, fun k hk => (e.mp b k hk).symm⟩
  · intro ⟨a, b⟩
    exact ⟨a.symm, e.mpr (fun k hk => (b k hk).symm)⟩
theorem tw_P {mks : Nat → Int64} {mk : Int64} {u : Nat} {t : Option Nat} (h40 : ∀ r, nu 1 r ≤ 40) (hb : ∀ k, k < 64 → (bitP mk k ↔ mkU nu sg u k)) (hB : ∀ j, j < u → ∀ k, k < 64 → (bitP (mks j) k ↔ mkU nu sg j k))
    (h : (t = none ∧ ∀ j, j < u → ¬ (nu 9 j = nu 9 u ∧ mks j = mk)) ∨ ∃ j, j < u ∧ t = some (ad 4 j) ∧ (nu 9 j = nu 9 u ∧ mks j = mk) ∧ ∀ i, i < j → ¬ (nu 9 i = nu 9 u ∧ mks i = mk)) : twP nu sg ad u t := by
  rcases h with ⟨h1, h2⟩ | ⟨j, h1, h2, h3, h4⟩
  · exact Or.inl ⟨h1, fun w hw z => h2 w hw ((tw_alk h40 hb (hB w hw)).mpr z)⟩
  · exact Or.inr ⟨j, h1, h2, (tw_alk h40 hb (hB j h1)).mp h3, fun v hv z => h4 v hv ((tw_alk h40 hb (hB v (by omega))).mpr z)⟩
theorem tw_new {mk : Int64} {u : Nat} {t : Option Nat} (h40 : ∀ r, nu 1 r ≤ 40) (hb : ∀ k, k < 64 → (bitP mk k ↔ mkU nu sg u k)) (ht : twP nu sg ad u t) (h1 : ¬ mk = 0) (h2 : t = none) : newU nu sg u := by
  refine ⟨(any64 (Q := mkU nu sg u) (h40 (4 + nu 9 u)) hb (fun k z => z.1)).mp h1, fun ⟨w, hw, z⟩ => ?_⟩
  rcases ht with ⟨_, h⟩ | ⟨j, _, h, _⟩
  · exact h w hw z
  · rw [h2] at h
    cases h
theorem tw_old {mk : Int64} {u y : Nat} {t : Option Nat} (ht : twP nu sg ad u t) (h2 : t = some y) : ¬ newU nu sg u := by
  rcases ht with ⟨h, _⟩ | ⟨j, h1, _, h3, _⟩
  · rw [h2] at h
    cases h
  · exact fun z => z.2 ⟨j, h1, h3⟩
theorem tw_no {mk : Int64} {u : Nat} (h40 : ∀ r, nu 1 r ≤ 40) (hb : ∀ k, k < 64 → (bitP mk k ↔ mkU nu sg u k)) (h1 : mk = 0) : ¬ hasU nu sg u := fun z => (any64 (Q := mkU nu sg u) (h40 (4 + nu 9 u)) hb (fun k z => z.1)).mpr z h1
theorem upA {α : Type} {P : Nat → α → Prop} {f : Nat → α} {u : Nat} {v : α} (h : ∀ j, j < u → P j (f j)) (hv : P u v) : ∀ j, j < u + 1 → P j (va_up f u v j) := by
  intro j hj
  by_cases hz : j = u
  · rw [hz, va_up_self]
    exact hv
  · rw [va_up_ne _ _ hz]
    exact h j (by omega)
end US
set_option maxHeartbeats 400000 in
set_option maxRecDepth 100000 in
/-- twinOf -/
theorem c_R_twinOf (l : Launch) (G : xT) (M : xMem) (sz : Nat) (fz : Nat) (ad : Nat → Nat → Nat) (nu : Nat → Nat → Nat) (sg : Nat → Nat → Int32) (M0 : xMem) (hR : cRep G M0 fz ad nu sg) (S : List Nat) (hV : xfr M0 M S) (hSL : vlP ad nu S) (i : Nat) (mks : Nat → Int64) (tws : Nat → Option Nat) (mi : Int64) (ti : Option Nat) (hi : i < nu 7 0) (h12 : nu 7 0 ≤ 12) (h20 : nu 6 0 ≤ 20) (hfm : ∀ u, u < nu 7 0 → nu 9 u < nu 6 0) (hU : ∀ j, j < i → M (ad 4 j) = some (usC ad nu sg j (mks j) (tws j))) (h_u : M (ad 4 i) = some (usC ad nu sg i mi ti))  : xMet l G y_R_twinOf (Cond.code y_R_twinOf b_R_twinOf 5 (Option.some (Jvm.ClassFile.FieldType.object "RedactCheck$Use")) :: x_tbl) { frames := 3, cells := 0, slots := 0, locals := 64 } [.ref (ad 14 0), .ref (ad 4 i), .int (nI i)] M sz (fun u M' => ∃ t : Option Nat, u = some (va_rf t) ∧ ((t = none ∧ ∀ j, j < i → ¬ (nu 9 j = nu 9 i ∧ mks j = mi)) ∨ ∃ j, j < i ∧ t = some (ad 4 j) ∧ (nu 9 j = nu 9 i ∧ mks j = mi) ∧ ∀ v, v < j → ¬ (nu 9 v = nu 9 i ∧ mks v = mi)) ∧ M' = M) (fun _ _ => False) := by
  refine xMet.of (by decide) (Nat.le_of_ble_eq_true rfl) ?_
  intro p e s m below meth c ls hC hr hnm hno hsz hw hl
  obtain ⟨hx, hb, hown, hts, hK, hml, hlk, hz⟩ := id hC
  have hl : lv_has ls 5 [(0, .ref (ad 14 0)), (1, .ref (ad 4 i)), (2, .int (nI i))] := hl
  have h_ui := h_u
  refine lv_iconst (v := nI 0) hx hb d_R_twinOf_0 (by decide) ?_
  refine lv_istore_n (lv' := [(3, .int (nI 0)), (0, .ref (ad 14 0)), (1, .ref (ad 4 i)), (2, .int (nI i))]) hx hb d_R_twinOf_1 rfl hl (by decide) rfl (fun ls hl => ?_)
  have HL2 : ∀ (z2 j : Nat), j ≤ i → i + 1 ≤ j + z2 → (∀ v, v < j → ¬ (nu 9 v = nu 9 i ∧ mks v = mi)) → ∀ (H : Heap) (locs : List Loc) (ls : Array Slot), xWd G (xA M sz) s.heap M H locs → lv_has ls 5 [(0, .ref (ad 14 0)), (1, .ref (ad 4 i)), (2, .int (nI i)), (3, .int (nI j))] → W p l e { frames := 3, cells := 0, slots := 0, locals := 64 } s m ([.ref (ad 14 0), .ref (ad 4 i), .int (nI i)] : List Value).toArray below meth c H locs 0 0 (xMQ below G M sz (fun u M' => ∃ t : Option Nat, u = some (va_rf t) ∧ ((t = none ∧ ∀ j, j < i → ¬ (nu 9 j = nu 9 i ∧ mks j = mi)) ∨ ∃ j, j < i ∧ t = some (ad 4 j) ∧ (nu 9 j = nu 9 i ∧ mks j = mi) ∧ ∀ v, v < j → ¬ (nu 9 v = nu 9 i ∧ mks v = mi)) ∧ M' = M) (fun _ _ => False) s 0 0) (F0 m 2 ls []) := by
    intro z2
    induction z2 with
    | zero =>
      intro j  h1 h2
      omega
    | succ z2 ih2 =>
      intro j  hi2 hz2 hno H locs ls  hw hl
      refine lv_iload_n hx hb d_R_twinOf_2 rfl (lv_at hl 3 rfl) ?_
      refine lv_iload_n hx hb d_R_twinOf_3 rfl (lv_at hl 2 rfl) ?_
      refine lv_icmp_ge (tgt := 71) hx hb d_R_twinOf_4 (by decide) (fun c_4 => ?_) (fun c_4 => ?_)
      · have c_4 := (nI_leI (by omega) (by omega)).mp c_4
        refine lv_null hx hb d_R_twinOf_71 ?_
        exact x_aret hC hr (Or.inl ⟨_, rfl⟩) hw (Or.inl rfl) (⟨none, rfl, Or.inl ⟨rfl, fun v hv => hno v (by omega)⟩, rfl⟩) (Nat.le_of_ble_eq_true rfl) (Nat.le_of_ble_eq_true rfl) d_R_twinOf_72
      · have c_4 := Nat.not_le.mp ((not_congr (nI_leI (by omega) (by omega))).mp c_4)
        refine lv_iload_n hx hb d_R_twinOf_7 rfl (lv_at hl 3 rfl) ?_
        refine lv_aload_n hx hb d_R_twinOf_8 rfl (lv_at hl 0 rfl) ?_
        have hc1 := hR.rc
        have hc1 := hV.get hc1 (hR.ninS hSL (show 0 < 1 by omega) (by decide))
        refine x_get hC hw hc1 rfl 2 (by decide) (hts _ k_178) (fun _ h9 => h9) rfl d_R_twinOf_9 ?_
        obtain ⟨mc2, hc2⟩ := hR.la (k := 2) (by decide)
        have hc2 := hV.get hc2 (hR.ninS hSL (show 2 < 6 by omega) (by decide))
        refine x_callG hC (c_sizeV l G M (Array.size H) fz ad nu sg M0 hR _ hV hSL 2 (by decide)) k_212 k_4 ⟨Nat.le_of_ble_eq_true rfl, Nat.le_of_ble_eq_true rfl⟩ ⟨Nat.le_of_ble_eq_true rfl, Nat.le_of_ble_eq_true rfl⟩ hw hl.1 (Nat.le_of_ble_eq_true rfl) d_R_twinOf_12 (x_ivV hC k_212 k_209 k_210 k_211 (show _ ∧ _ ∧ _ = some 0 from by decide +kernel) (x_recv hC hw hc2 rfl) rfl d_R_twinOf_12) (fun rv M3 H locs hq hw => ?_) (fun _ _ _ _ _ h _ _ => h.elim)
        obtain ⟨rfl, hM⟩ := hq
        subst M3
        refine W.eq (g2 := F0 m 15 ls [.int (nI (nu 7 0)), .int (nI j)]) rfl ?_
        refine lv_icmp_ge (tgt := 71) hx hb d_R_twinOf_15 (by decide) (fun c_15 => ?_) (fun c_15 => ?_)
        · have c_15 := (nI_leI (by omega) (by omega)).mp c_15
          omega
        · have c_15 := Nat.not_le.mp ((not_congr (nI_leI (by omega) (by omega))).mp c_15)
          refine lv_aload_n hx hb d_R_twinOf_18 rfl (lv_at hl 0 rfl) ?_
          refine x_get hC hw hc1 rfl 2 (by decide) (hts _ k_178) (fun _ h9 => h9) rfl d_R_twinOf_19 ?_
          refine lv_iload_n hx hb d_R_twinOf_22 rfl (lv_at hl 3 rfl) ?_
          refine x_callG hC (c_getV l G M (Array.size H) fz ad nu sg M0 hR _ hV hSL 2 (by decide) (j) (show j < nu 7 0 by omega)) k_216 k_4 ⟨Nat.le_of_ble_eq_true rfl, Nat.le_of_ble_eq_true rfl⟩ ⟨Nat.le_of_ble_eq_true rfl, Nat.le_of_ble_eq_true rfl⟩ hw hl.1 (Nat.le_of_ble_eq_true rfl) d_R_twinOf_23 (x_ivV hC k_216 k_213 k_214 k_215 (show _ ∧ _ ∧ _ = some 1 from by decide +kernel) (x_recv hC hw hc2 rfl) rfl d_R_twinOf_23) (fun rv M4 H locs hq hw => ?_) (fun _ _ _ _ _ h _ _ => h.elim)
          obtain ⟨rfl, hM⟩ := hq
          subst M4
          refine W.eq (g2 := F0 m 26 ls [.ref (ad 4 j)]) rfl ?_
          have h_uj := hU j (by omega)
          have hfj := hfm j (by omega)
          have hfi := hfm i hi
          refine x_cast hC hw h_uj rfl (hts _ k_256) d_R_twinOf_26 ?_
          refine lv_astore (lv' := [(4, .ref (ad 4 j)), (0, .ref (ad 14 0)), (1, .ref (ad 4 i)), (2, .int (nI i)), (3, .int (nI j))]) hx hb d_R_twinOf_29 hl (by decide) rfl (fun ls hl => ?_)
          refine lv_aload hx hb d_R_twinOf_31 (lv_at hl 0 rfl) ?_
          refine x_get hC hw h_uj rfl 3 (by decide) (hts _ k_453) (fun _ h9 => h9) rfl d_R_twinOf_33 ?_
          have hc5 := hR.row (r := 4 + nu 9 j) (by omega)
          have hc5 := hV.get hc5 (hR.ninS hSL (show 4 + nu 9 j < 4 + nu 6 0 by omega) (by decide))
          refine x_get hC hw hc5 rfl 0 (by decide) (hts _ k_108) (fun _ h9 => h9) rfl d_R_twinOf_36 ?_
          refine x_vi (y := nI (nu 9 j)) (by rw [nmb_4]) ?_
          refine lv_aload_n hx hb d_R_twinOf_39 rfl (lv_at hl 2 rfl) ?_
          refine x_get hC hw h_ui rfl 3 (by decide) (hts _ k_453) (fun _ h9 => h9) rfl d_R_twinOf_40 ?_
          have hc6 := hR.row (r := 4 + nu 9 i) (by omega)
          have hc6 := hV.get hc6 (hR.ninS hSL (show 4 + nu 9 i < 4 + nu 6 0 by omega) (by decide))
          refine x_get hC hw hc6 rfl 0 (by decide) (hts _ k_108) (fun _ h9 => h9) rfl d_R_twinOf_43 ?_
          refine x_vi (y := nI (nu 9 i)) (by rw [nmb_4]) ?_
          refine lv_icmp_ne (tgt := 65) hx hb d_R_twinOf_46 (by decide) (fun c_46 => ?_) (fun c_46 => ?_)
          · have c_46 := (not_congr (nI_eq (by omega) (by omega))).mp c_46
            refine lv_iinc (v := nI (j + 1)) (lv' := [(3, .int (nI (j + 1))), (4, .ref (ad 4 j)), (0, .ref (ad 14 0)), (1, .ref (ad 4 i)), (2, .int (nI i))]) hx hb d_R_twinOf_65 hl (k := 4) rfl (by exact nI_1 _) (by decide) rfl (fun ls hl => ?_)
            refine lv_goto (tgt := 2) hx hb d_R_twinOf_68 (by decide) ?_
            exact ih2 (j + 1)  (by omega) (by omega) (x_all1 hno (fun z => c_46 z.1)) _ _ _ hw (lv_sub hl [2, 3, 4, 0] rfl)
          · have c_46 := (nI_eq (by omega) (by omega)).mp c_46
            refine lv_aload hx hb d_R_twinOf_49 (lv_at hl 0 rfl) ?_
            refine x_get hC hw h_uj rfl 4 (by decide) (hts _ k_454) (fun _ h9 => h9) rfl d_R_twinOf_51 ?_
            refine lv_aload_n hx hb d_R_twinOf_54 rfl (lv_at hl 2 rfl) ?_
            refine x_get hC hw h_ui rfl 4 (by decide) (hts _ k_454) (fun _ h9 => h9) rfl d_R_twinOf_55 ?_
            refine W.lcmp hx hb d_R_twinOf_58 ?_
            refine lv_if_ne (tgt := 65) hx hb d_R_twinOf_59 (by decide) (fun c_59 => ?_) (fun c_59 => ?_)
            · have c_59 := x_lcmpN.mp c_59
              refine lv_iinc (v := nI (j + 1)) (lv' := [(3, .int (nI (j + 1))), (4, .ref (ad 4 j)), (0, .ref (ad 14 0)), (1, .ref (ad 4 i)), (2, .int (nI i))]) hx hb d_R_twinOf_65 hl (k := 4) rfl (by exact nI_1 _) (by decide) rfl (fun ls hl => ?_)
              refine lv_goto (tgt := 2) hx hb d_R_twinOf_68 (by decide) ?_
              exact ih2 (j + 1)  (by omega) (by omega) (x_all1 hno (fun z => c_59 z.2)) _ _ _ hw (lv_sub hl [2, 3, 4, 0] rfl)
            · have c_59 := x_lcmp.mp c_59
              refine lv_aload hx hb d_R_twinOf_62 (lv_at hl 0 rfl) ?_
              exact x_aret hC hr (Or.inl ⟨_, rfl⟩) hw (Or.inr ⟨_, rfl⟩) (⟨some (ad 4 j), rfl, Or.inr ⟨j, by omega, rfl, ⟨c_46, c_59⟩, hno⟩, rfl⟩) (Nat.le_of_ble_eq_true rfl) (Nat.le_of_ble_eq_true rfl) d_R_twinOf_64
  exact HL2 (i + 1) (0)  (by omega) (by omega) (fun v hv => absurd hv (Nat.not_lt_zero v)) _ _ _ hw (lv_sub hl [1, 2, 3, 0] rfl)

theorem mu_up {M : xMem} {ad : Nat → Nat → Nat} {nu : Nat → Nat → Nat} {sg : Nat → Nat → Int32} {mks : Nat → Int64} {tws : Nat → Option Nat} {u : Nat} {mv : Int64} {tv : Option Nat} (h : ∀ j, j < u → M (ad 4 j) = some (usC ad nu sg j (mks j) (tws j))) (hu : M (ad 4 u) = some (usC ad nu sg u mv tv)) : ∀ j, j < u + 1 → M (ad 4 j) = some (usC ad nu sg j (va_up mks u mv j) (va_up tws u tv j)) := by
  intro j hj
  by_cases hz : j = u
  · rw [hz, va_up_self, va_up_self]
    exact hu
  · rw [va_up_ne _ _ hz, va_up_ne _ _ hz]
    exact h j (by omega)
theorem mu_own {ad : Nat → Nat → Nat} {nu : Nat → Nat → Nat} {a : Nat} (h : a ∈ SU ad (nu 7 0)) : own ad nu a := by
  rcases SU_in h with h | h | ⟨j, hj, h⟩
  · exact ⟨12, 0, Nat.zero_lt_one, h⟩
  · exact ⟨13, 0, Nat.zero_lt_one, h⟩
  · exact ⟨4, j, hj, h⟩
set_option maxHeartbeats 400000 in
set_option maxRecDepth 100000 in
/-- markUses -/
theorem c_R_markUses (l : Launch) (G : xT) (M : xMem) (sz : Nat) (fz : Nat) (ad : Nat → Nat → Nat) (nu : Nat → Nat → Nat) (sg : Nat → Nat → Int32) (hR : cRep G M fz ad nu sg) (h20 : nu 6 0 ≤ 20) (h12 : nu 7 0 ≤ 12) (h4 : nu 12 0 ≤ 4) (h8a : nu 15 0 ≤ 8) (h40 : ∀ r, nu 1 r ≤ 40) (h8 : ∀ w, nu 13 w ≤ 8) (hfm : ∀ u, u < nu 7 0 → nu 9 u < nu 6 0) (hlt : ∀ w, w < nu 12 0 → ∀ j, j < nu 13 w → ¬ sg 14 (8 * w + j) = 0)  : xMet l G y_R_markUses (Cond.code y_R_markUses b_R_markUses 4 (Option.some Jvm.ClassFile.FieldType.int) :: x_tbl) { frames := 6, cells := 0, slots := 0, locals := 141 } [.ref (ad 14 0)] M sz (fun u M' => u = some (.int (nI (cnt (newU nu sg) (nu 7 0)))) ∧ ∃ (mks : Nat → Int64) (tws : Nat → Option Nat), cRep G M' fz ad nu sg ∧ (∀ j, j < nu 7 0 → M' (ad 4 j) = some (usC ad nu sg j (mks j) (tws j))) ∧ (∀ j, j < nu 7 0 → ∀ k, k < 64 → (bitP (mks j) k ↔ mkU nu sg j k)) ∧ (∀ j, j < nu 7 0 → twP nu sg ad j (tws j)) ∧ cFr M M' ad nu) (fun _ _ => False) := by
  refine xMet.of (by decide) (Nat.le_of_ble_eq_true rfl) ?_
  intro p e s m below meth c ls hC hr hnm hno hsz hw hl
  obtain ⟨hx, hb, hown, hts, hK, hml, hlk, hz⟩ := id hC
  have hl : lv_has ls 4 [(0, .ref (ad 14 0))] := hl
  obtain ⟨n1, hc1⟩ := hR.co
  have h_q := hc1
  obtain ⟨p2, hc2⟩ := hR.cv
  have h_v := hc2
  have hF : xfr M M ((SU ad (nu 7 0))) := xfr.rf
  have hSL := SU_vl (ad := ad) (Nat.le_refl (nu 7 0))
  refine lv_iconst (v := nI 0) hx hb d_R_markUses_0 (by decide) ?_
  refine x_vi (y := nI (cnt (newU nu sg) 0)) (rfl) ?_
  refine lv_istore_n (lv' := [(1, .int (nI (cnt (newU nu sg) 0))), (0, .ref (ad 14 0))]) hx hb d_R_markUses_1 rfl hl (by decide) rfl (fun ls hl => ?_)
  refine lv_iconst (v := nI 0) hx hb d_R_markUses_2 (by decide) ?_
  refine lv_istore_n (lv' := [(2, .int (nI 0)), (1, .int (nI (cnt (newU nu sg) 0))), (0, .ref (ad 14 0))]) hx hb d_R_markUses_3 rfl hl (by decide) rfl (fun ls hl => ?_)
  have HL4 : ∀ (z4 u : Nat) (mks : Nat → Int64) (tws : Nat → Option Nat) (k : Int32) (g : Nat → Int32), u ≤ nu 7 0 → nu 7 0 + 1 ≤ u + z4 → (∀ j, j < u → ∀ k, k < 64 → (bitP (mks j) k ↔ mkU nu sg j k)) → (∀ j, j < u → twP nu sg ad j (tws j)) → ∀ (M1 : xMem), ∀ (H : Heap) (locs : List Loc) (ls : Array Slot), M1 (ad 12 0) = some (.inr (2, [.ref (ad 13 0), .int k])) → M1 (ad 13 0) = some (.inl (G.2.1 0, 60, .inl g)) → (∀ j, j < u → M1 (ad 4 j) = some (usC ad nu sg j (mks j) (tws j))) → (∀ j, u ≤ j → j < nu 7 0 → M1 (ad 4 j) = M (ad 4 j)) → xfr M M1 (SU ad (nu 7 0)) → xWd G (xA M sz) s.heap M1 H locs → lv_has ls 4 [(0, .ref (ad 14 0)), (1, .int (nI (cnt (newU nu sg) u))), (2, .int (nI u))] → W p l e { frames := 6, cells := 0, slots := 0, locals := 141 } s m ([.ref (ad 14 0)] : List Value).toArray below meth c H locs 0 0 (xMQ below G M sz (fun u M' => u = some (.int (nI (cnt (newU nu sg) (nu 7 0)))) ∧ ∃ (mks : Nat → Int64) (tws : Nat → Option Nat), cRep G M' fz ad nu sg ∧ (∀ j, j < nu 7 0 → M' (ad 4 j) = some (usC ad nu sg j (mks j) (tws j))) ∧ (∀ j, j < nu 7 0 → ∀ k, k < 64 → (bitP (mks j) k ↔ mkU nu sg j k)) ∧ (∀ j, j < nu 7 0 → twP nu sg ad j (tws j)) ∧ cFr M M' ad nu) (fun _ _ => False) s 0 0) (F0 m 4 ls []) := by
    intro z4
    induction z4 with
    | zero =>
      intro u mks tws k g h1 h2
      omega
    | succ z4 ih4 =>
      intro u mks tws k g hi4 hz4 hB hT M1 H locs ls h_q h_v hU hUo hF hw hl
      have hcnu := cnt_le (newU nu sg) u
      have hV := hF
      refine lv_iload_n hx hb d_R_markUses_4 rfl (lv_at hl 2 rfl) ?_
      refine lv_aload_n hx hb d_R_markUses_5 rfl (lv_at hl 0 rfl) ?_
      have hc3 := hR.rc
      have hc3 := hV.get hc3 (hR.ninS hSL (show 0 < 1 by omega) (by decide))
      refine x_get hC hw hc3 rfl 2 (by decide) (hts _ k_178) (fun _ h9 => h9) rfl d_R_markUses_6 ?_
      obtain ⟨mc4, hc4⟩ := hR.la (k := 2) (by decide)
      have hc4 := hV.get hc4 (hR.ninS hSL (show 2 < 6 by omega) (by decide))
      refine x_callG hC (c_sizeV l G M1 (Array.size H) fz ad nu sg M hR _ hV hSL 2 (by decide)) k_212 k_4 ⟨Nat.le_of_ble_eq_true rfl, Nat.le_of_ble_eq_true rfl⟩ ⟨Nat.le_of_ble_eq_true rfl, Nat.le_of_ble_eq_true rfl⟩ hw hl.1 (Nat.le_of_ble_eq_true rfl) d_R_markUses_9 (x_ivV hC k_212 k_209 k_210 k_211 (show _ ∧ _ ∧ _ = some 0 from by decide +kernel) (x_recv hC hw hc4 rfl) rfl d_R_markUses_9) (fun rv M5 H locs hq hw => ?_) (fun _ _ _ _ _ h _ _ => h.elim)
      obtain ⟨rfl, hM⟩ := hq
      subst M5
      refine W.eq (g2 := F0 m 12 ls [.int (nI (nu 7 0)), .int (nI u)]) rfl ?_
      refine lv_icmp_ge (tgt := 86) hx hb d_R_markUses_12 (by decide) (fun c_12 => ?_) (fun c_12 => ?_)
      · have c_12 := (nI_leI (by omega) (by omega)).mp c_12
        refine lv_iload_n hx hb d_R_markUses_86 rfl (lv_at hl 1 rfl) ?_
        have hke : u = nu 7 0 := by omega
        subst hke
        exact x_iret hC hr hw (⟨rfl, mks, tws, hR.usesU (x_fz0 hC hw hR.2.1.1) hfm hF hU h_q h_v, hU, hB, hT, cFr.of hF (fun a ha => Or.inl (mu_own ha))⟩) (Nat.le_of_ble_eq_true rfl) (Nat.le_of_ble_eq_true rfl) d_R_markUses_87
      · have c_12 := Nat.not_le.mp ((not_congr (nI_leI (by omega) (by omega))).mp c_12)
        refine lv_aload_n hx hb d_R_markUses_15 rfl (lv_at hl 0 rfl) ?_
        refine x_get hC hw hc3 rfl 2 (by decide) (hts _ k_178) (fun _ h9 => h9) rfl d_R_markUses_16 ?_
        refine lv_iload_n hx hb d_R_markUses_19 rfl (lv_at hl 2 rfl) ?_
        refine x_callG hC (c_getV l G M1 (Array.size H) fz ad nu sg M hR _ hV hSL 2 (by decide) (u) (show u < nu 7 0 by omega)) k_216 k_4 ⟨Nat.le_of_ble_eq_true rfl, Nat.le_of_ble_eq_true rfl⟩ ⟨Nat.le_of_ble_eq_true rfl, Nat.le_of_ble_eq_true rfl⟩ hw hl.1 (Nat.le_of_ble_eq_true rfl) d_R_markUses_20 (x_ivV hC k_216 k_213 k_214 k_215 (show _ ∧ _ ∧ _ = some 1 from by decide +kernel) (x_recv hC hw hc4 rfl) rfl d_R_markUses_20) (fun rv M6 H locs hq hw => ?_) (fun _ _ _ _ _ h _ _ => h.elim)
        obtain ⟨rfl, hM⟩ := hq
        subst M6
        refine W.eq (g2 := F0 m 23 ls [.ref (ad 4 u)]) rfl ?_
        obtain ⟨m0, t0, h_u0⟩ := hR.usO (u := u) (by omega)
        have h_u := (hUo u (Nat.le_refl u) (by omega)).trans h_u0
        have hfu := hfm u (by omega)
        refine x_cast hC hw h_u rfl (hts _ k_256) d_R_markUses_23 ?_
        refine lv_astore_n (lv' := [(3, .ref (ad 4 u)), (0, .ref (ad 14 0)), (1, .int (nI (cnt (newU nu sg) u))), (2, .int (nI u))]) hx hb d_R_markUses_26 rfl hl (by decide) rfl (fun ls hl => ?_)
        refine lv_aload_n hx hb d_R_markUses_27 rfl (lv_at hl 0 rfl) ?_
        refine lv_aload_n hx hb d_R_markUses_28 rfl (lv_at hl 1 rfl) ?_
        refine lv_aload_n hx hb d_R_markUses_29 rfl (lv_at hl 0 rfl) ?_
        refine x_get hC hw h_u rfl 3 (by decide) (hts _ k_453) (fun _ h9 => h9) rfl d_R_markUses_30 ?_
        refine lv_aload_n hx hb d_R_markUses_33 rfl (lv_at hl 0 rfl) ?_
        refine x_get hC hw h_u rfl 0 (by decide) (hts _ k_447) (fun _ h9 => h9) rfl d_R_markUses_34 ?_
        refine lv_aload_n hx hb d_R_markUses_37 rfl (lv_at hl 0 rfl) ?_
        refine x_get hC hw h_u rfl 1 (by decide) (hts _ k_449) (fun _ h9 => h9) rfl d_R_markUses_38 ?_
        refine lv_aload_n hx hb d_R_markUses_41 rfl (lv_at hl 0 rfl) ?_
        refine x_get hC hw h_u rfl 2 (by decide) (hts _ k_451) (fun _ h9 => h9) rfl d_R_markUses_42 ?_
        refine x_callG hC (c_R_marksOf l G M1 (Array.size H) fz ad nu sg M hR _ hV hSL (4 + nu 9 u) (sg 8 u) (sg 10 u) (sg 11 u) k g (by omega) h8a (h40 _) h4 h8 hlt h_q h_v) k_589 k_1 ⟨Nat.le_of_ble_eq_true rfl, Nat.le_of_ble_eq_true rfl⟩ ⟨Nat.le_of_ble_eq_true rfl, Nat.le_of_ble_eq_true rfl⟩ hw hl.1 (Nat.le_of_ble_eq_true rfl) d_R_markUses_45 (x_ivV hC k_589 k_586 k_588 kp_11 (show _ ∧ _ ∧ _ = some 4 from by decide +kernel) (x_recv hC hw hc3 rfl) rfl d_R_markUses_45) (fun rv M7 H locs hq hw => ?_) (fun _ _ _ _ _ h _ _ => h.elim)
        obtain ⟨mv, rfl, hmv, k', g', h_q, h_v, fr⟩ := hq
        have hmv : ∀ k, k < 64 → (bitP mv k ↔ mkU nu sg u k) := hmv
        have hF := hF.trans fr (fun z hz => Or.inl (SU_co z hz))
        have hU := fun j (hj : j < u) => fr.get (hU j hj) (hR.nco (k := 4) (i := j) (show j < nu 7 0 by omega) (by decide) (by decide))
        have hUo : ∀ j, u + 1 ≤ j → j < nu 7 0 → M7 (ad 4 j) = M (ad 4 j) := fun j h1 h2 => (fr.2 _ (hR.nco (k := 4) (i := j) h2 (by decide) (by decide)) (by rw [hUo j (by omega) h2]; exact hR.nn (k := 4) h2 (by decide))).trans (hUo j (by omega) h2)
        have hc3 := fr.get hc3 (by simp [(hR.ne (k := 14) (i := 0) (k' := 12) (j := 0) Nat.zero_lt_one Nat.zero_lt_one (by decide)), (hR.ne (k := 14) (i := 0) (k' := 13) (j := 0) Nat.zero_lt_one Nat.zero_lt_one (by decide))])
        have h_u := fr.get h_u (by simp [(hR.ne (k := 4) (i := u) (k' := 12) (j := 0) (show u < nu 7 0 by omega) Nat.zero_lt_one (by decide)), (hR.ne (k := 4) (i := u) (k' := 13) (j := 0) (show u < nu 7 0 by omega) Nat.zero_lt_one (by decide))])
        refine W.eq (g2 := F0 m 48 ls [.long mv, .ref (ad 4 u)]) rfl ?_
        refine x_put (ty := .long) hC hw h_u rfl 4 (by decide) (hts _ k_454) (fun _ h9 => h9) rfl (by decide +kernel) rfl rfl (Nat.le_of_ble_eq_true rfl) d_R_markUses_48 (fun M8 H locs em fr hw => ?_)
        have em : M8 (ad 4 u) = some (.inr (5, [.int (sg 8 u), .int (sg 10 u), .int (sg 11 u), .ref (ad 2 (4 + nu 9 u)), .long mv, va_rf t0])) := em
        have h_q := (fr _ (Ne.symm (hR.ne (k := 4) (i := u) (k' := 12) (j := 0) (show u < nu 7 0 by omega) Nat.zero_lt_one (by decide)))).trans h_q
        have h_v := (fr _ (Ne.symm (hR.ne (k := 4) (i := u) (k' := 13) (j := 0) (show u < nu 7 0 by omega) Nat.zero_lt_one (by decide)))).trans h_v
        have h_u := em
        have hF := hF.put em fr (Or.inl (SU_u (show u < nu 7 0 by omega)))
        have hU := fun j (hj : j < u) => (fr _ (hR.neI (k := 4) (i := j) (j := u) (show j < nu 7 0 by omega) (show u < nu 7 0 by omega) (by decide) (by omega))).trans (hU j hj)
        have hUo := fun j (h1 : u + 1 ≤ j) (h2 : j < nu 7 0) => (fr _ (hR.neI (k := 4) (i := j) (j := u) h2 (show u < nu 7 0 by omega) (by decide) (by omega))).trans (hUo j h1 h2)
        refine lv_aload_n hx hb d_R_markUses_51 rfl (lv_at hl 0 rfl) ?_
        refine lv_aload_n hx hb d_R_markUses_52 rfl (lv_at hl 1 rfl) ?_
        refine lv_aload_n hx hb d_R_markUses_53 rfl (lv_at hl 0 rfl) ?_
        refine lv_iload_n hx hb d_R_markUses_54 rfl (lv_at hl 3 rfl) ?_
        have hV := hF
        have hc9 := hR.rc
        have hc9 := hV.get hc9 (hR.ninS hSL (show 0 < 1 by omega) (by decide))
        refine x_callG hC (c_R_twinOf l G M8 (Array.size H) fz ad nu sg M hR _ hV hSL u mks tws mv t0 (by omega) h12 h20 hfm hU h_u) k_610 k_1 ⟨Nat.le_of_ble_eq_true rfl, Nat.le_of_ble_eq_true rfl⟩ ⟨Nat.le_of_ble_eq_true rfl, Nat.le_of_ble_eq_true rfl⟩ hw hl.1 (Nat.le_of_ble_eq_true rfl) d_R_markUses_55 (x_ivV hC k_610 k_607 k_609 kp_15 (show _ ∧ _ ∧ _ = some 2 from by decide +kernel) (x_recv hC hw hc9 rfl) rfl d_R_markUses_55) (fun rv M10 H locs hq hw => ?_) (fun _ _ _ _ _ h _ _ => h.elim)
        obtain ⟨tv, rfl, htv, hM⟩ := hq
        have htv := tw_P h40 hmv hB htv
        subst M10
        refine W.eq (g2 := F0 m 58 ls [va_rf tv, .ref (ad 4 u)]) rfl ?_
        refine x_put (ty := .object "RedactCheck$Use") hC hw h_u rfl 5 (by decide) (hts _ k_455) (fun _ h9 => h9) rfl (by decide +kernel) (x_narQ _ _) (x_fitQ _ _) (Nat.le_of_ble_eq_true rfl) d_R_markUses_58 (fun M11 H locs em fr hw => ?_)
        have em : M11 (ad 4 u) = some (.inr (5, [.int (sg 8 u), .int (sg 10 u), .int (sg 11 u), .ref (ad 2 (4 + nu 9 u)), .long mv, va_rf tv])) := em
        have h_q := (fr _ (Ne.symm (hR.ne (k := 4) (i := u) (k' := 12) (j := 0) (show u < nu 7 0 by omega) Nat.zero_lt_one (by decide)))).trans h_q
        have h_v := (fr _ (Ne.symm (hR.ne (k := 4) (i := u) (k' := 13) (j := 0) (show u < nu 7 0 by omega) Nat.zero_lt_one (by decide)))).trans h_v
        have h_u := em
        have hF := hF.put em fr (Or.inl (SU_u (show u < nu 7 0 by omega)))
        have hU := fun j (hj : j < u) => (fr _ (hR.neI (k := 4) (i := j) (j := u) (show j < nu 7 0 by omega) (show u < nu 7 0 by omega) (by decide) (by omega))).trans (hU j hj)
        have hUo := fun j (h1 : u + 1 ≤ j) (h2 : j < nu 7 0) => (fr _ (hR.neI (k := 4) (i := j) (j := u) h2 (show u < nu 7 0 by omega) (by decide) (by omega))).trans (hUo j h1 h2)
        have h_uu := h_u
        refine lv_aload_n hx hb d_R_markUses_61 rfl (lv_at hl 0 rfl) ?_
        refine x_get hC hw h_u rfl 4 (by decide) (hts _ k_454) (fun _ h9 => h9) rfl d_R_markUses_62 ?_
        refine lv_lconst (v := 0) hx hb d_R_markUses_65 (by decide) ?_
        refine W.lcmp hx hb d_R_markUses_66 ?_
        refine lv_if_eq (tgt := 80) hx hb d_R_markUses_67 (by decide) (fun c_67 => ?_) (fun c_67 => ?_)
        · have c_67 := x_lcmp.mp c_67
          have hnn : ¬ newU nu sg u := fun z => tw_no h40 hmv c_67 z.1
          have hl : lv_has ls 4 [(3, .ref (ad 4 u)), (0, .ref (ad 14 0)), (1, .int (nI (cnt (newU nu sg) (u + 1)))), (2, .int (nI u))] := by rw [cnt_f hnn]; exact hl
          refine lv_iinc (v := nI (u + 1)) (lv' := [(2, .int (nI (u + 1))), (3, .ref (ad 4 u)), (0, .ref (ad 14 0)), (1, .int (nI (cnt (newU nu sg) (u + 1))))]) hx hb d_R_markUses_80 hl (k := 3) rfl (by exact nI_1 _) (by decide) rfl (fun ls hl => ?_)
          refine lv_goto (tgt := 4) hx hb d_R_markUses_83 (by decide) ?_
          exact ih4 (u + 1) (va_up mks u mv) (va_up tws u tv) (k') (g') (by omega) (by omega) (upA (P := fun j z => ∀ k, k < 64 → (bitP z k ↔ mkU nu sg j k)) hB hmv) (upA (P := fun j z => twP nu sg ad j z) hT htv) _ _ _ _ h_q h_v (mu_up hU h_uu) (fun j h1 h2 => hUo j (by omega) h2) hF hw (lv_sub hl [2, 3, 0] rfl)
        · have c_67 := x_lcmpN.mp c_67
          refine lv_aload_n hx hb d_R_markUses_70 rfl (lv_at hl 0 rfl) ?_
          refine x_get hC hw h_u rfl 5 (by decide) (hts _ k_455) (fun _ h9 => h9) rfl d_R_markUses_71 ?_
          refine x_aloadQ_n (n := 0) hx hb tv rfl (fun et => ?_) (fun y et => ?_)
          · have hnew := tw_new h40 hmv htv c_67 et
            refine lv_ifnonnullN hx hb d_R_markUses_74 ?_
            refine lv_iinc (v := nI (cnt (newU nu sg) (u + 1))) (lv' := [(1, .int (nI (cnt (newU nu sg) (u + 1)))), (3, .ref (ad 4 u)), (0, .ref (ad 14 0)), (2, .int (nI u))]) hx hb d_R_markUses_77 hl (k := 2) rfl (by exact (nI_1 _).trans (congrArg nI (cnt_t hnew).symm)) (by decide) rfl (fun ls hl => ?_)
            refine lv_iinc (v := nI (u + 1)) (lv' := [(2, .int (nI (u + 1))), (1, .int (nI (cnt (newU nu sg) (u + 1)))), (3, .ref (ad 4 u)), (0, .ref (ad 14 0))]) hx hb d_R_markUses_80 hl (k := 3) rfl (by exact nI_1 _) (by decide) rfl (fun ls hl => ?_)
            refine lv_goto (tgt := 4) hx hb d_R_markUses_83 (by decide) ?_
            exact ih4 (u + 1) (va_up mks u mv) (va_up tws u tv) (k') (g') (by omega) (by omega) (upA (P := fun j z => ∀ k, k < 64 → (bitP z k ↔ mkU nu sg j k)) hB hmv) (upA (P := fun j z => twP nu sg ad j z) hT htv) _ _ _ _ h_q h_v (mu_up hU h_uu) (fun j h1 h2 => hUo j (by omega) h2) hF hw (lv_sub hl [3, 1, 0] rfl)
          · have hnn := tw_old (mk := mv) htv et
            have hl : lv_has ls 4 [(3, .ref (ad 4 u)), (0, .ref (ad 14 0)), (1, .int (nI (cnt (newU nu sg) (u + 1)))), (2, .int (nI u))] := by rw [cnt_f hnn]; exact hl
            refine lv_ifnonnull (tgt := 80) hx hb d_R_markUses_74 (by decide) ?_
            refine lv_iinc (v := nI (u + 1)) (lv' := [(2, .int (nI (u + 1))), (3, .ref (ad 4 u)), (0, .ref (ad 14 0)), (1, .int (nI (cnt (newU nu sg) (u + 1))))]) hx hb d_R_markUses_80 hl (k := 3) rfl (by exact nI_1 _) (by decide) rfl (fun ls hl => ?_)
            refine lv_goto (tgt := 4) hx hb d_R_markUses_83 (by decide) ?_
            exact ih4 (u + 1) (va_up mks u mv) (va_up tws u tv) (k') (g') (by omega) (by omega) (upA (P := fun j z => ∀ k, k < 64 → (bitP z k ↔ mkU nu sg j k)) hB hmv) (upA (P := fun j z => twP nu sg ad j z) hT htv) _ _ _ _ h_q h_v (mu_up hU h_uu) (fun j h1 h2 => hUo j (by omega) h2) hF hw (lv_sub hl [2, 3, 0] rfl)
  exact HL4 (nu 7 0 + 1) (0) (fun _ => 0) (fun _ => none) (n1) (p2) (by omega) (by omega) (fun j hj => absurd hj (Nat.not_lt_zero j)) (fun j hj => absurd hj (Nat.not_lt_zero j)) _ _ _ _ h_q h_v (fun j hj => absurd hj (Nat.not_lt_zero j)) (fun _ _ _ => rfl) hF hw (lv_sub hl [2, 1, 0] rfl)
