/-! looking at the class's cells through what has been written elsewhere -/
def vlP (ad : Nat → Nat → Nat) (nu : Nat → Nat → Nat) (S : List Nat) : Prop := ∀ a ∈ S, ∃ k i, a = ad k i ∧ i < rng nu k ∧ k ∈ [4, 10, 11, 12, 13]
section CV
variable {G : xT} {M M' : xMem} {fz : Nat} {ad ad' : Nat → Nat → Nat} {nu nu' : Nat → Nat → Nat} {sg sg' : Nat → Nat → Int32}
theorem vlP.nil : vlP ad nu [] := fun a h => by cases h
theorem vlP.app {S T : List Nat} (h : vlP ad nu S) (h2 : vlP ad nu T) : vlP ad nu (S ++ T) := fun a ha => (List.mem_append.mp ha).elim (h a) (h2 a)
theorem vlP.cons {S : List Nat} {k i : Nat} (hi : i < rng nu k) (hk : k ∈ [4, 10, 11, 12, 13]) (h : vlP ad nu S) : vlP ad nu (ad k i :: S) := fun a ha => (List.mem_cons.mp ha).elim (fun z => ⟨k, i, z, hi, hk⟩) (h a)
theorem vlP.co : vlP ad nu [ad 12 0, ad 13 0] := vlP.cons (k := 12) Nat.zero_lt_one (by decide) (vlP.cons (k := 13) Nat.zero_lt_one (by decide) vlP.nil)
theorem vlP.fi : vlP ad nu [ad 10 0, ad 11 0] := vlP.cons (k := 10) Nat.zero_lt_one (by decide) (vlP.cons (k := 11) Nat.zero_lt_one (by decide) vlP.nil)
theorem cRep.ninS (h : cRep G M fz ad nu sg) {S : List Nat} (hS : vlP ad nu S) {k i : Nat} (hi : i < rng nu k) (hk : k ∉ [4, 10, 11, 12, 13]) : ad k i ∉ S := by
  intro z
  obtain ⟨k', i', e, hi', hk'⟩ := hS _ z
  have := (h.inj hi hi' e).1
  subst this
  exact hk hk'
theorem xfr.app {M M1 M2 : xMem} {S T : List Nat} (h : xfr M M1 S) (h2 : xfr M1 M2 T) : xfr M M2 (S ++ T) := (h.wide (fun q hq => List.mem_append_left T hq)).trans h2 (fun q hq => Or.inl (List.mem_append_right S hq))
theorem cRep.elV (h : cRep G M fz ad nu sg) {S : List Nat} (hV : xfr M M' S) (hS : vlP ad nu S) {k : Nat} (hk : k < 6) : ∃ (cap : Nat) (f : Nat → Option Nat), (cap ≠ 0 → M' (ad 1 k) = some (.inl (G.2.1 3, cap, .inr (.inr (.inr (.inr f)))))) ∧ ln nu k ≤ cap ∧ capP fz (ad 1 k) cap ∧ ∀ j, j < ln nu k → f j = some (elA ad k j) := by
  obtain ⟨cap, f, h1, h2⟩ := h.el hk
  exact ⟨cap, f, fun z => hV.get (h1 z) (h.ninS hS (k := 1) hk (by decide)), h2⟩
theorem cRep.laV (h : cRep G M fz ad nu sg) {S : List Nat} (hV : xfr M M' S) (hS : vlP ad nu S) {k : Nat} (hk : k < 6) : ∃ mc : Int32, M' (ad 0 k) = some (.inr (8, [.ref (ad 1 k), .int (nI (ln nu k)), .int mc])) := by
  obtain ⟨mc, h1⟩ := h.la hk
  exact ⟨mc, hV.get h1 (h.ninS hS (k := 0) hk (by decide))⟩
end CV
theorem sw_st {nu : Nat → Nat → Nat} {sg : Nat → Nat → Int32} {f g : Nat → Int32} {rs w p : Nat} (h : ∀ j, j < nu 13 w → f j = sg 14 (8 * w + j)) : swP (nu 13 w) f g rs p ↔ stP nu sg g rs w p := by
  unfold swP stP
  constructor
  · intro ⟨a, b, c⟩
    exact ⟨a, b, fun k hk => by rw [c k hk]; exact h k hk⟩
  · intro ⟨a, b, c⟩
    exact ⟨a, b, fun k hk => by rw [c k hk]; exact (h k hk).symm⟩
theorem ntP_s {S : Nat → Nat → Prop} {kd no en : Int32} {ws p : Nat} {X : Nat × (Nat → Int32)} : ntP S kd no en ws (p + 1) X = ntW S kd no en p ws (ntP S kd no en ws p X) := rfl
theorem c_sizeV (l : Launch) (G : xT) (M : xMem) (sz : Nat) (fz : Nat) (ad : Nat → Nat → Nat) (nu : Nat → Nat → Nat) (sg : Nat → Nat → Int32) (M0 : xMem) (hR : cRep G M0 fz ad nu sg) (S : List Nat) (hV : xfr M0 M S) (hSL : vlP ad nu S) (k : Nat) (hk : k < 6) : xMet l G y_AL_size (Cond.code y_AL_size b_AL_size 1 (Option.some Jvm.ClassFile.FieldType.int) :: x_tbl) { frames := 0, cells := 0, slots := 0, locals := 0 } [.ref (ad 0 k)] M sz (fun u M' => u = some (.int (nI (ln nu k))) ∧ M' = M) (fun _ _ => False) := by
  obtain ⟨mc, h_la⟩ := hR.laV hV hSL hk
  exact c_AL_size l G M sz (ad 0 k) (ad 1 k) (ln nu k) mc h_la
theorem c_getV (l : Launch) (G : xT) (M : xMem) (sz : Nat) (fz : Nat) (ad : Nat → Nat → Nat) (nu : Nat → Nat → Nat) (sg : Nat → Nat → Int32) (M0 : xMem) (hR : cRep G M0 fz ad nu sg) (S : List Nat) (hV : xfr M0 M S) (hSL : vlP ad nu S) (k : Nat) (hk : k < 6) (i : Nat) (hi : i < ln nu k) : xMet l G y_AL_get (Cond.code y_AL_get b_AL_get 2 (Option.some (Jvm.ClassFile.FieldType.object "java/lang/Object")) :: x_tbl) { frames := 2, cells := 0, slots := 0, locals := 43 } [.ref (ad 0 k), .int (nI i)] M sz (fun u M' => u = some (.ref (elA ad k i)) ∧ M' = M) (fun _ _ => False) := by
  obtain ⟨mc, h_la⟩ := hR.laV hV hSL hk
  obtain ⟨cap, f, h_el, h1, h2, h3⟩ := hR.elV hV hSL hk
  exact c_AL_get l G M sz (ad 0 k) (ad 1 k) (ln nu k) cap i _ mc f hi h1 (by unfold capP at h2; omega) (h3 i hi) h_la (h_el (by omega))
set_option maxHeartbeats 400000 in
set_option maxRecDepth 100000 in
/-- findWords -/
theorem c_R_findWords (l : Launch) (G : xT) (M : xMem) (sz : Nat) (fz : Nat) (ad : Nat → Nat → Nat) (nu : Nat → Nat → Nat) (sg : Nat → Nat → Int32) (M0 : xMem) (hR : cRep G M0 fz ad nu sg) (S : List Nat) (hV : xfr M0 M S) (hSL : vlP ad nu S) (kd no en : Int32) (rs n0 : Nat) (g f0 : Nat → Int32) (hrs : rs ≤ 60) (hn0 : n0 ≤ 100) (h4 : nu 12 0 ≤ 4) (h8 : ∀ w, nu 13 w ≤ 8) (h_f : M (ad 10 0) = some (.inr (7, [.int (nI n0), .ref (ad 11 0)]))) (h_fp : M (ad 11 0) = some (.inl (G.2.1 0, 500, .inl f0))) (h_q : M (ad 12 0) = some (.inr (2, [.ref (ad 13 0), .int (nI rs)]))) (h_v : M (ad 13 0) = some (.inl (G.2.1 0, 60, .inl g))) : xMet l G y_R_findWords (Cond.code y_R_findWords b_R_findWords 6 none :: x_tbl) { frames := 3, cells := 0, slots := 0, locals := 64 } [.ref (ad 14 0), .int kd, .int no, .int en] M sz (fun u M' => u = none ∧ M' (ad 10 0) = some (.inr (7, [.int (nI (ntP (fun w q => stP nu sg g rs w q) kd no en (nu 12 0) rs (n0, f0)).1), .ref (ad 11 0)])) ∧ M' (ad 11 0) = some (.inl (G.2.1 0, 500, .inl ((ntP (fun w q => stP nu sg g rs w q) kd no en (nu 12 0) rs (n0, f0)).2))) ∧ xfr M M' [ad 10 0, ad 11 0]) (fun _ _ => False) := by
  refine xMet.of (by decide) (Nat.le_of_ble_eq_true rfl) ?_
  intro p e s m below meth c ls hC hr hnm hno hsz hw hl
  obtain ⟨hx, hb, hown, hts, hK, hml, hlk, hz⟩ := id hC
  have hl : lv_has ls 6 [(0, .ref (ad 14 0)), (1, .int kd), (2, .int no), (3, .int en)] := hl
  have hF : xfr M M [ad 10 0, ad 11 0] := xfr.rf
  have hV0 := hV
  have hSL0 := hSL
  refine lv_iconst (v := nI 0) hx hb d_R_findWords_0 (by decide) ?_
  refine lv_istore (lv' := [(4, .int (nI 0)), (0, .ref (ad 14 0)), (1, .int kd), (2, .int no), (3, .int en)]) hx hb d_R_findWords_1 hl (by decide) rfl (fun ls hl => ?_)
  have HL3 : ∀ (z3 pl : Nat), pl ≤ rs → rs + 1 ≤ pl + z3 → ∀ (M1 : xMem), ∀ (H : Heap) (locs : List Loc) (ls : Array Slot), M1 (ad 10 0) = some (.inr (7, [.int (nI (ntP (fun w q => stP nu sg g rs w q) kd no en (nu 12 0) pl (n0, f0)).1), .ref (ad 11 0)])) → M1 (ad 11 0) = some (.inl (G.2.1 0, 500, .inl ((ntP (fun w q => stP nu sg g rs w q) kd no en (nu 12 0) pl (n0, f0)).2))) → M1 (ad 12 0) = some (.inr (2, [.ref (ad 13 0), .int (nI rs)])) → M1 (ad 13 0) = some (.inl (G.2.1 0, 60, .inl g)) → xfr M M1 [ad 10 0, ad 11 0] → xWd G (xA M sz) s.heap M1 H locs → lv_has ls 6 [(0, .ref (ad 14 0)), (1, .int kd), (2, .int no), (3, .int en), (4, .int (nI pl))] → W p l e { frames := 3, cells := 0, slots := 0, locals := 64 } s m ([.ref (ad 14 0), .int kd, .int no, .int en] : List Value).toArray below meth c H locs 0 0 (xMQ below G M sz (fun u M' => u = none ∧ M' (ad 10 0) = some (.inr (7, [.int (nI (ntP (fun w q => stP nu sg g rs w q) kd no en (nu 12 0) rs (n0, f0)).1), .ref (ad 11 0)])) ∧ M' (ad 11 0) = some (.inl (G.2.1 0, 500, .inl ((ntP (fun w q => stP nu sg g rs w q) kd no en (nu 12 0) rs (n0, f0)).2))) ∧ xfr M M' [ad 10 0, ad 11 0]) (fun _ _ => False) s 0 0) (F0 m 3 ls []) := by
    intro z3
    induction z3 with
    | zero =>
      intro pl  h1 h2
      omega
    | succ z3 ih3 =>
      intro pl  hi3 hz3  M1 H locs ls h_f h_fp h_q h_v hF hw hl
      refine lv_iload hx hb d_R_findWords_3 (lv_at hl 4 rfl) ?_
      have hV := hV0.app hF
      have hSL := hSL0.app (vlP.fi (ad := ad) (nu := nu))
      refine lv_aload_n hx hb d_R_findWords_5 rfl (lv_at hl 0 rfl) ?_
      have hc1 := hR.rc
      have hc1 := hV.get hc1 (hR.ninS hSL (show 0 < 1 by omega) (by decide))
      refine x_get hC hw hc1 rfl 7 (by decide) (hts _ k_183) (fun _ h9 => h9) rfl d_R_findWords_6 ?_
      refine x_get hC hw h_q rfl 1 (by decide) (hts _ k_95) (u_same (hts _ k_89)) rfl d_R_findWords_9 ?_
      refine lv_icmp_ge (tgt := 80) hx hb d_R_findWords_12 (by decide) (fun c_12 => ?_) (fun c_12 => ?_)
      · have c_12 := (nI_leI (by omega) (by omega)).mp c_12
        obtain rfl : pl = rs := by omega
        exact x_vret hC hr hw (⟨rfl, h_f, h_fp, hF⟩) (Nat.le_of_ble_eq_true rfl) (Nat.le_of_ble_eq_true rfl) d_R_findWords_80
      · have c_12 := Nat.not_le.mp ((not_congr (nI_leI (by omega) (by omega))).mp c_12)
        refine lv_iconst (v := nI 0) hx hb d_R_findWords_15 (by decide) ?_
        refine lv_istore (lv' := [(5, .int (nI 0)), (0, .ref (ad 14 0)), (1, .int kd), (2, .int no), (3, .int en), (4, .int (nI pl))]) hx hb d_R_findWords_16 hl (by decide) rfl (fun ls hl => ?_)
        have HL18 : ∀ (z18 w : Nat), w ≤ nu 12 0 → nu 12 0 + 1 ≤ w + z18 → ∀ (M1 : xMem), ∀ (H : Heap) (locs : List Loc) (ls : Array Slot), M1 (ad 10 0) = some (.inr (7, [.int (nI (ntW (fun w q => stP nu sg g rs w q) kd no en pl w (ntP (fun w q => stP nu sg g rs w q) kd no en (nu 12 0) pl (n0, f0))).1), .ref (ad 11 0)])) → M1 (ad 11 0) = some (.inl (G.2.1 0, 500, .inl ((ntW (fun w q => stP nu sg g rs w q) kd no en pl w (ntP (fun w q => stP nu sg g rs w q) kd no en (nu 12 0) pl (n0, f0))).2))) → M1 (ad 12 0) = some (.inr (2, [.ref (ad 13 0), .int (nI rs)])) → M1 (ad 13 0) = some (.inl (G.2.1 0, 60, .inl g)) → xfr M M1 [ad 10 0, ad 11 0] → xWd G (xA M sz) s.heap M1 H locs → lv_has ls 6 [(0, .ref (ad 14 0)), (1, .int kd), (2, .int no), (3, .int en), (4, .int (nI pl)), (5, .int (nI w))] → W p l e { frames := 3, cells := 0, slots := 0, locals := 64 } s m ([.ref (ad 14 0), .int kd, .int no, .int en] : List Value).toArray below meth c H locs 0 0 (xMQ below G M sz (fun u M' => u = none ∧ M' (ad 10 0) = some (.inr (7, [.int (nI (ntP (fun w q => stP nu sg g rs w q) kd no en (nu 12 0) rs (n0, f0)).1), .ref (ad 11 0)])) ∧ M' (ad 11 0) = some (.inl (G.2.1 0, 500, .inl ((ntP (fun w q => stP nu sg g rs w q) kd no en (nu 12 0) rs (n0, f0)).2))) ∧ xfr M M' [ad 10 0, ad 11 0]) (fun _ _ => False) s 0 0) (F0 m 18 ls []) := by
          intro z18
          induction z18 with
          | zero =>
            intro w  h1 h2
            omega
          | succ z18 ih18 =>
            intro w  hi18 hz18  M1 H locs ls h_f h_fp h_q h_v hF hw hl
            refine lv_iload hx hb d_R_findWords_18 (lv_at hl 5 rfl) ?_
            have hV := hV0.app hF
            have hSL := hSL0.app (vlP.fi (ad := ad) (nu := nu))
            refine lv_aload_n hx hb d_R_findWords_20 rfl (lv_at hl 0 rfl) ?_
            have hc2 := hR.rc
            have hc2 := hV.get hc2 (hR.ninS hSL (show 0 < 1 by omega) (by decide))
            refine x_get hC hw hc2 rfl 3 (by decide) (hts _ k_179) (fun _ h9 => h9) rfl d_R_findWords_21 ?_
            obtain ⟨mc3, hc3⟩ := hR.la (k := 3) (by decide)
            have hc3 := hV.get hc3 (hR.ninS hSL (show 3 < 6 by omega) (by decide))
            refine x_callG hC (c_sizeV l G M1 (Array.size H) fz ad nu sg M0 hR _ hV hSL 3 (by decide)) k_212 k_4 ⟨Nat.le_of_ble_eq_true rfl, Nat.le_of_ble_eq_true rfl⟩ ⟨Nat.le_of_ble_eq_true rfl, Nat.le_of_ble_eq_true rfl⟩ hw hl.1 (Nat.le_of_ble_eq_true rfl) d_R_findWords_24 (x_ivV hC k_212 k_209 k_210 k_211 (show _ ∧ _ ∧ _ = some 0 from by decide +kernel) (x_recv hC hw hc3 rfl) rfl d_R_findWords_24) (fun rv M4 H locs hq hw => ?_) (fun _ _ _ _ _ h _ _ => h.elim)
            obtain ⟨rfl, hM⟩ := hq
            subst M4
            refine W.eq (g2 := F0 m 27 ls [.int (nI (nu 12 0)), .int (nI w)]) rfl ?_
            refine lv_icmp_ge (tgt := 74) hx hb d_R_findWords_27 (by decide) (fun c_27 => ?_) (fun c_27 => ?_)
            · have c_27 := (nI_leI (by omega) (by omega)).mp c_27
              have hke : w = nu 12 0 := by omega
              subst hke
              have hl : lv_has ls 6 [(0, .ref (ad 14 0)), (1, .int kd), (2, .int no), (3, .int en), (4, .int (nI pl))] := lv_sub hl [0, 1, 2, 3, 4] rfl
              refine lv_iinc (v := nI (pl + 1)) (lv' := [(4, .int (nI (pl + 1))), (0, .ref (ad 14 0)), (1, .int kd), (2, .int no), (3, .int en)]) hx hb d_R_findWords_74 hl (k := 4) rfl (by exact nI_1 _) (by decide) rfl (fun ls hl => ?_)
              refine lv_goto (tgt := 3) hx hb d_R_findWords_77 (by decide) ?_
              exact ih3 (pl + 1)  (by omega) (by omega)  _ _ _ _ h_f h_fp h_q h_v hF hw (lv_sub hl [1, 2, 3, 4, 0] rfl)
            · have c_27 := Nat.not_le.mp ((not_congr (nI_leI (by omega) (by omega))).mp c_27)
              refine lv_aload_n hx hb d_R_findWords_30 rfl (lv_at hl 0 rfl) ?_
              refine x_get hC hw hc2 rfl 3 (by decide) (hts _ k_179) (fun _ h9 => h9) rfl d_R_findWords_31 ?_
              refine lv_iload hx hb d_R_findWords_34 (lv_at hl 5 rfl) ?_
              refine x_callG hC (c_getV l G M1 (Array.size H) fz ad nu sg M0 hR _ hV hSL 3 (by decide) (w) (show w < nu 12 0 by omega)) k_216 k_4 ⟨Nat.le_of_ble_eq_true rfl, Nat.le_of_ble_eq_true rfl⟩ ⟨Nat.le_of_ble_eq_true rfl, Nat.le_of_ble_eq_true rfl⟩ hw hl.1 (Nat.le_of_ble_eq_true rfl) d_R_findWords_36 (x_ivV hC k_216 k_213 k_214 k_215 (show _ ∧ _ ∧ _ = some 1 from by decide +kernel) (x_recv hC hw hc3 rfl) rfl d_R_findWords_36) (fun rv M5 H locs hq hw => ?_) (fun _ _ _ _ _ h _ _ => h.elim)
              obtain ⟨rfl, hM⟩ := hq
              subst M5
              refine W.eq (g2 := F0 m 39 ls [.ref (ad 5 w)]) rfl ?_
              have hc6 := hR.wo (w := w) (by omega)
              have hc6 := hV.get hc6 (hR.ninS hSL (show w < nu 12 0 by omega) (by decide))
              refine x_cast hC hw hc6 rfl (hts _ k_243) d_R_findWords_39 ?_
              refine lv_aload_n hx hb d_R_findWords_42 rfl (lv_at hl 0 rfl) ?_
              refine x_get hC hw hc2 rfl 7 (by decide) (hts _ k_183) (fun _ h9 => h9) rfl d_R_findWords_43 ?_
              refine lv_iload hx hb d_R_findWords_46 (lv_at hl 4 rfl) ?_
              obtain ⟨p7, hc7, hp7⟩ := hR.lt (w := w) (by omega)
              have hc7 := hV.get hc7 (hR.ninS hSL (show w < nu 12 0 by omega) (by decide))
              have h8w := h8 w
              refine x_callG hC (c_D_standsIn l G M1 (Array.size H) (ad 5 w) (ad 6 w) (ad 12 0) (ad 13 0) (nu 13 w) rs pl p7 g (by omega) (by omega) (by omega) hc6 hc7 h_q h_v) k_247 k_23 ⟨Nat.le_of_ble_eq_true rfl, Nat.le_of_ble_eq_true rfl⟩ ⟨Nat.le_of_ble_eq_true rfl, Nat.le_of_ble_eq_true rfl⟩ hw hl.1 (Nat.le_of_ble_eq_true rfl) d_R_findWords_48 (x_ivV hC k_247 k_244 k_245 k_246 (show _ ∧ _ ∧ _ = some 2 from by decide +kernel) (x_recv hC hw hc6 rfl) rfl d_R_findWords_48) (fun rv M8 H locs hq hw => ?_) (fun _ _ _ _ _ h _ _ => h.elim)
              obtain ⟨rfl, hM⟩ := hq
              subst M8
              refine W.eq (g2 := F0 m 51 ls [.int (zI (swP (nu 13 w) p7 g rs pl))]) rfl ?_
              refine x_vi (y := zI (stP nu sg g rs w pl)) (zI_c (sw_st hp7)) ?_
              refine lv_if_eq (tgt := 68) hx hb d_R_findWords_51 (by decide) (fun c_51 => ?_) (fun c_51 => ?_)
              · have c_51 := zI_0.mp c_51
                rw [← ntW_f (S := (fun w q => stP nu sg g rs w q)) c_51] at h_f h_fp
                refine lv_iinc (v := nI (w + 1)) (lv' := [(5, .int (nI (w + 1))), (0, .ref (ad 14 0)), (1, .int kd), (2, .int no), (3, .int en), (4, .int (nI pl))]) hx hb d_R_findWords_68 hl (k := 5) rfl (by exact nI_1 _) (by decide) rfl (fun ls hl => ?_)
                refine lv_goto (tgt := 18) hx hb d_R_findWords_71 (by decide) ?_
                exact ih18 (w + 1)  (by omega) (by omega)  _ _ _ _ h_f h_fp h_q h_v hF hw (lv_sub hl [1, 2, 3, 4, 5, 0] rfl)
              · have c_51 := zI_1.mp c_51
                refine lv_aload_n hx hb d_R_findWords_54 rfl (lv_at hl 0 rfl) ?_
                refine x_get hC hw hc2 rfl 6 (by decide) (hts _ k_182) (fun _ h9 => h9) rfl d_R_findWords_55 ?_
                refine lv_iload_n hx hb d_R_findWords_58 rfl (lv_at hl 1 rfl) ?_
                refine lv_iload_n hx hb d_R_findWords_59 rfl (lv_at hl 2 rfl) ?_
                refine lv_iload hx hb d_R_findWords_60 (lv_at hl 4 rfl) ?_
                refine lv_iload hx hb d_R_findWords_62 (lv_at hl 5 rfl) ?_
                refine lv_iload_n hx hb d_R_findWords_64 rfl (lv_at hl 3 rfl) ?_
                refine x_callG hC (c_F_add l G M1 (Array.size H) (ad 10 0) (ad 11 0) (ntW (fun w q => stP nu sg g rs w q) kd no en pl w (ntP (fun w q => stP nu sg g rs w q) kd no en (nu 12 0) pl (n0, f0))).1 pl w kd no en (ntW (fun w q => stP nu sg g rs w q) kd no en pl w (ntP (fun w q => stP nu sg g rs w q) kd no en (nu 12 0) pl (n0, f0))).2 (ntW_le (ntP_le hn0)) h_f h_fp) k_255 k_5 ⟨Nat.le_of_ble_eq_true rfl, Nat.le_of_ble_eq_true rfl⟩ ⟨Nat.le_of_ble_eq_true rfl, Nat.le_of_ble_eq_true rfl⟩ hw hl.1 (Nat.le_of_ble_eq_true rfl) d_R_findWords_65 (x_ivV hC k_255 k_252 k_253 k_254 (show _ ∧ _ ∧ _ = some 5 from by decide +kernel) (x_recv hC hw h_f rfl) rfl d_R_findWords_65) (fun rv M9 H locs hq hw => ?_) (fun _ _ _ _ _ h _ _ => h.elim)
                obtain ⟨rfl, h_f, h_fp, fr⟩ := hq
                have hF := hF.trans fr (by intro z hz; exact Or.inl hz)
                have h_f : M9 (ad 10 0) = some (.inr (7, [.int (nI (ntW (fun w q => stP nu sg g rs w q) kd no en pl (w + 1) (ntP (fun w q => stP nu sg g rs w q) kd no en (nu 12 0) pl (n0, f0))).1), .ref (ad 11 0)])) := by rw [ntW_t (S := (fun w q => stP nu sg g rs w q)) c_51]; exact h_f
                have h_fp : M9 (ad 11 0) = some (.inl (G.2.1 0, 500, .inl ((ntW (fun w q => stP nu sg g rs w q) kd no en pl (w + 1) (ntP (fun w q => stP nu sg g rs w q) kd no en (nu 12 0) pl (n0, f0))).2))) := by rw [ntW_t (S := (fun w q => stP nu sg g rs w q)) c_51]; exact h_fp
                have h_q := fr.get h_q (by simp [(hR.ne (k := 12) (i := 0) (k' := 10) (j := 0) Nat.zero_lt_one Nat.zero_lt_one (by decide)), (hR.ne (k := 12) (i := 0) (k' := 11) (j := 0) Nat.zero_lt_one Nat.zero_lt_one (by decide))])
                have h_v := fr.get h_v (by simp [(hR.ne (k := 13) (i := 0) (k' := 10) (j := 0) Nat.zero_lt_one Nat.zero_lt_one (by decide)), (hR.ne (k := 13) (i := 0) (k' := 11) (j := 0) Nat.zero_lt_one Nat.zero_lt_one (by decide))])
                refine W.eq (g2 := F0 m 68 ls []) rfl ?_
                refine lv_iinc (v := nI (w + 1)) (lv' := [(5, .int (nI (w + 1))), (0, .ref (ad 14 0)), (1, .int kd), (2, .int no), (3, .int en), (4, .int (nI pl))]) hx hb d_R_findWords_68 hl (k := 5) rfl (by exact nI_1 _) (by decide) rfl (fun ls hl => ?_)
                refine lv_goto (tgt := 18) hx hb d_R_findWords_71 (by decide) ?_
                exact ih18 (w + 1)  (by omega) (by omega)  _ _ _ _ h_f h_fp h_q h_v hF hw (lv_sub hl [1, 2, 3, 4, 5, 0] rfl)
        exact HL18 (nu 12 0 + 1) (0)  (by omega) (by omega)  _ _ _ _ h_f h_fp h_q h_v hF hw (lv_sub hl [1, 2, 3, 4, 5, 0] rfl)
  exact HL3 (rs + 1) (0)  (by omega) (by omega)  _ _ _ _ h_f h_fp h_q h_v hF hw (lv_sub hl [1, 2, 3, 4, 0] rfl)
