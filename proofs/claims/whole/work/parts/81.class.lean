/-! rows that have been cut -/
def cutSg (sg : Nat → Nat → Int32) (r m : Nat) (f : Nat → Int32) : Nat → Nat → Int32 := fun k j => if (2 ≤ k ∧ k ≤ 5) ∧ 40 * r ≤ j ∧ j < 40 * r + m then f ((j - 40 * r) * 4 + (k - 2)) else sg k j
theorem cutSg_in {sg : Nat → Nat → Int32} {r m c j : Nat} {f : Nat → Int32} (hc : c < 4) (hj : j < m) : cutSg sg r m f (2 + c) (40 * r + j) = f (j * 4 + c) := by
  unfold cutSg
  rw [if_pos ⟨⟨by omega, by omega⟩, by omega, by omega⟩]
  congr 1
  omega
theorem cutSg_out {sg : Nat → Nat → Int32} {r m k j : Nat} {f : Nat → Int32} (hj : j < 40 * r ∨ 40 * r + m ≤ j) : cutSg sg r m f k j = sg k j := by
  unfold cutSg
  rw [if_neg (fun z => by omega)]
theorem cutSg_S {sg : Nat → Nat → Int32} {r m : Nat} {f : Nat → Int32} : eqx [2, 3, 4, 5] sg (cutSg sg r m f) := by
  intro k hk
  simp only [List.mem_cons, List.not_mem_nil, or_false, not_or] at hk
  funext j
  unfold cutSg
  rw [if_neg (fun z => by omega)]
theorem cutS.cong {P Q : Nat → Prop} {k : Nat} {f f' : Nat → Int32} (h : cutS P k f f') (hc : ∀ i, i < k → (P i ↔ Q i)) : cutS Q k f f' := by
  have ek : ∀ i, i ≤ k → kp P i = kp Q i := fun i hi => kp_c (fun j hj => hc j (by omega))
  refine ⟨fun i hi he => ?_, fun j hj => h.2 j (by rw [ek k (Nat.le_refl k)]; exact hj)⟩
  have g := h.1 i hi ((em_c (fun j hj => hc j (by omega))).mpr he)
  rw [ek i (by omega)] at g
  exact ⟨g.1.trans (cV_c (hc i hi)), g.2.1, g.2.2.1, g.2.2.2.trans (cV_c (hc i hi))⟩
/-- what the class has cut is what the reference asks for -/
theorem cut_F {nu : Nat → Nat → Nat} {sg : Nat → Nat → Int32} {Q : Nat → Prop} {r t : Nat} {g f' : Nat → Int32} (h : cutS Q (nu 1 r) g f') (hg : ∀ j, j < nu 1 r → g (j * 4 + 0) = sg 2 (40 * r + j) ∧ g (j * 4 + 1) = sg 3 (40 * r + j) ∧ g (j * 4 + 2) = sg 4 (40 * r + j) ∧ g (j * 4 + 3) = sg 5 (40 * r + j)) : cutF nu sg (va_up nu 1 (va_up (nu 1) t (kp Q (nu 1 r)))) (cutSg sg t (kp Q (nu 1 r)) f') Q r t := by
  have hcv : ∀ (x : Int32) (s : Nat → Int32) (c i : Nat), i < nu 1 r → g (i * 4 + c) = s (40 * r + i) → cV Q x (fun j => g (j * 4 + c)) 0 i = cV Q x s (40 * r) i := by
    intro x s c i hi e
    by_cases hq : Q i
    · rw [cV_t hq, cV_t hq]
    · rw [cV_f hq, cV_f hq, Nat.zero_add]
      exact e
  refine ⟨va_up_self _ _ _, ⟨fun i hi he => ?_, fun j hj => cutSg_out hj⟩, ⟨fun i hi he => ?_, fun j hj => cutSg_out hj⟩, ⟨fun i hi he => ?_, fun j hj => cutSg_out hj⟩, ⟨fun i hi he => ?_, fun j hj => cutSg_out hj⟩⟩
  · rw [cutSg_in (c := 0) (by decide) (kp_lt he hi)]
    exact (h.1 i hi he).1.trans (hcv _ _ 0 i hi (hg i hi).1)
  · rw [cutSg_in (c := 1) (by decide) (kp_lt he hi)]
    exact (h.1 i hi he).2.1.trans (hg i hi).2.1
  · rw [cutSg_in (c := 2) (by decide) (kp_lt he hi)]
    exact (h.1 i hi he).2.2.1.trans (hg i hi).2.2.1
  · rw [cutSg_in (c := 3) (by decide) (kp_lt he hi)]
    exact (h.1 i hi he).2.2.2.trans (hcv _ _ 3 i hi (hg i hi).2.2.2)
theorem mk_same {nu nu1 : Nat → Nat → Nat} {sg sg1 : Nat → Nat → Int32} {r k : Nat} {pg dx dy : Int32} (hs : rowSame nu sg nu1 sg1 r) (hn : nu 1 r ≤ 40) (hN : ∀ x, x = 12 ∨ x = 13 ∨ x = 15 → nu1 x = nu x) (hS : ∀ x, x = 14 ∨ x = 16 ∨ x = 17 ∨ x = 18 ∨ x = 19 ∨ x = 20 → sg1 x = sg x) : mkP nu1 sg1 r pg dx dy k ↔ mkP nu sg r pg dx dy k := by
  have hme : ∀ x y wd n, meP sg1 pg x y wd n = meP sg pg x y wd n := by
    intro x y wd n
    unfold meP arP
    rw [hS 16 (by omega), hS 17 (by omega), hS 18 (by omega), hS 19 (by omega), hS 20 (by omega)]
  unfold mkP
  rw [hs.1, hme, hN 15 (by omega)]
  refine and_congr_right (fun hk => ?_)
  obtain ⟨s1, s2, s3, s4⟩ := hs.2 k (by omega)
  rw [s1, s2, s3, s4]
  refine and_congr_right (fun _ => or_congr ?_ Iff.rfl)
  rw [iwP_n (hN 12 (by omega)) (hN 13 (by omega)) (hS 14 (by omega))]
  exact iwP_c (fun j hj => (hs.2 j (by omega)).1)
section CC
variable {G : xT} {M M' : xMem} {fz : Nat} {ad : Nat → Nat → Nat} {nu : Nat → Nat → Nat} {sg : Nat → Nat → Int32}
theorem cRep.coU (h : cRep G M fz ad nu sg) (hz9 : M' fz = none) (hfm : ∀ u, u < nu 7 0 → nu 9 u < nu 6 0) (fr : xfr M M' [ad 12 0, ad 13 0]) {k : Int32} {g : Nat → Int32} (h3 : M' (ad 12 0) = some (.inr (2, [.ref (ad 13 0), .int k]))) (h4 : M' (ad 13 0) = some (.inl (G.2.1 0, 60, .inl g))) : cRep G M' fz ad nu sg := by
  refine h.inpl hz9 fr (fun _ => rfl) hfm (fun k i => k = 12 ∨ k = 13) ?_ ?_ ?_
  · intro a ha
    rcases List.mem_cons.mp ha with rfl | ha
    · exact ⟨12, 0, rfl, Nat.zero_lt_one, by decide, Or.inl rfl⟩
    · exact ⟨13, 0, List.mem_singleton.mp ha, Nat.zero_lt_one, by decide, Or.inr rfl⟩
  · intro k' i hi hk
    rcases hk with rfl | rfl
    · have hi0 : i = 0 := Nat.lt_one_iff.mp hi
      rw [hi0]
      exact ⟨_, h3, k, rfl⟩
    · have hi0 : i = 0 := Nat.lt_one_iff.mp hi
      rw [hi0]
      exact ⟨_, h4, g, rfl⟩
  · intro k' i hi hk
    exact eqK_of (fun _ _ => rfl) (fun _ _ => rfl)
/-- row r has been cut in place -/
theorem cRep.cutU (h : cRep G M fz ad nu sg) (hz9 : M' fz = none) (hfm : ∀ u, u < nu 7 0 → nu 9 u < nu 6 0) (h40 : ∀ r, nu 1 r ≤ 40) {Q : Nat → Prop} {r : Nat} {f' : Nat → Int32} (hr : r < 4 + nu 6 0) (fr : xfr M M' [ad 2 r, ad 3 r]) (h1 : M' (ad 2 r) = some (.inr (1, [.int (nI (nmb r)), .ref (ad 3 r), .int (nI (kp Q (nu 1 r)))]))) (h2 : M' (ad 3 r) = some (.inl (G.2.1 0, 160, .inl f'))) : cRep G M' fz ad (va_up nu 1 (va_up (nu 1) r (kp Q (nu 1 r)))) (cutSg sg r (kp Q (nu 1 r)) f') := by
  refine h.rowU hz9 hfm hr fr ?_ h2 ((eqx.up nu 1 _).wide (by decide)) cutSg_S ?_ ?_
  · rw [va_up_self, va_up_self]
    exact h1
  · rw [va_up_self, va_up_self]
    intro j hj
    exact ⟨(cutSg_in (c := 0) (by decide) hj).symm, (cutSg_in (c := 1) (by decide) hj).symm, (cutSg_in (c := 2) (by decide) hj).symm, (cutSg_in (c := 3) (by decide) hj).symm⟩
  · intro i hi
    rw [va_up_self, va_up_ne _ _ hi]
    refine ⟨rfl, fun j hj => ?_⟩
    have h9 := h40 i
    have h8 := h40 r
    have h7 := kp_le Q (nu 1 r)
    rw [cutSg_out (by omega), cutSg_out (by omega), cutSg_out (by omega), cutSg_out (by omega)]
    exact ⟨rfl, rfl, rfl, rfl⟩
theorem own_eq {ad : Nat → Nat → Nat} {nu nu' : Nat → Nat → Nat} (hr : ∀ k, rng nu' k = rng nu k) {a : Nat} (h : own ad nu' a) : own ad nu a := by
  obtain ⟨k, i, h1, h2⟩ := h
  exact ⟨k, i, by rw [← hr]; exact h1, h2⟩
theorem rng_eqx {nu nu' : Nat → Nat → Nat} {L : List Nat} (hN : eqx L nu nu') (hL : 6 ∉ L ∧ 7 ∉ L ∧ 12 ∉ L ∧ 15 ∉ L ∧ 21 ∉ L) : ∀ k, rng nu' k = rng nu k := by
  intro k
  unfold rng
  rw [hN 6 hL.1, hN 7 hL.2.1, hN 12 hL.2.2.1, hN 15 hL.2.2.2.1, hN 21 hL.2.2.2.2]
end CC
theorem up40 {nu : Nat → Nat → Nat} {q v : Nat} (h : ∀ r, nu 1 r ≤ 40) (hv : v ≤ 40) : ∀ r, va_up nu 1 (va_up (nu 1) q v) 1 r ≤ 40 := by
  intro r
  rw [va_up_self]
  by_cases hz : r = q
  · rw [hz, va_up_self]
    exact hv
  · rw [va_up_ne _ _ hz]
    exact h r
theorem x_345 {P : Nat → Prop} {L : List Nat} {α : Type} {f g : Nat → α} (h : eqx L f g) (hL : ∀ x, P x → x ∉ L) : ∀ x, P x → g x = f x := fun x hx => h x (hL x hx)
set_option maxHeartbeats 400000 in
set_option maxRecDepth 100000 in
/-- cutPages -/
theorem c_R_cutPages (l : Launch) (G : xT) (M : xMem) (sz : Nat) (fz : Nat) (ad : Nat → Nat → Nat) (nu : Nat → Nat → Nat) (sg : Nat → Nat → Int32) (hR : cRep G M fz ad nu sg) (h20 : nu 6 0 ≤ 20) (h12 : nu 7 0 ≤ 12) (h4 : nu 12 0 ≤ 4) (h8a : nu 15 0 ≤ 8) (h40 : ∀ r, nu 1 r ≤ 40) (h8 : ∀ w, nu 13 w ≤ 8) (hfm : ∀ u, u < nu 7 0 → nu 9 u < nu 6 0) (hlt : ∀ w, w < nu 12 0 → ∀ j, j < nu 13 w → ¬ sg 14 (8 * w + j) = 0) : xMet l G y_R_cutPages (Cond.code y_R_cutPages b_R_cutPages 6 (Option.some Jvm.ClassFile.FieldType.int) :: x_tbl) { frames := 6, cells := 0, slots := 0, locals := 141 } [.ref (ad 14 0)] M sz (fun u M' => u = some (.int (nI (sm (fun p => cnt (mkG nu sg p) 40) 4))) ∧ ∃ (nu' : Nat → Nat → Nat) (sg' : Nat → Nat → Int32), cRep G M' fz ad nu' sg' ∧ eqx [1] nu nu' ∧ eqx [2, 3, 4, 5] sg sg' ∧ ((∀ z, z < 4 → rowCut nu sg nu' sg' (mkG nu sg z) z z) ∧ ∀ z, 4 ≤ z → rowSame nu sg nu' sg' z) ∧ (∀ r, nu' 1 r ≤ 40) ∧ (∀ j, j < nu 7 0 → M' (ad 4 j) = M (ad 4 j)) ∧ cFr M M' ad nu) (fun _ _ => False) := by
  refine xMet.of (by decide) (Nat.le_of_ble_eq_true rfl) ?_
  intro p e s m below meth c ls hC hr hnm hno hsz hw hl
  obtain ⟨hx, hb, hown, hts, hK, hml, hlk, hz⟩ := id hC
  have hl : lv_has ls 6 [(0, .ref (ad 14 0))] := hl
  refine lv_iconst (v := nI 0) hx hb d_R_cutPages_0 (by decide) ?_
  refine x_vi (y := nI (sm (fun p => cnt (mkG nu sg p) 40) 0)) (rfl) ?_
  refine lv_istore_n (lv' := [(1, .int (nI (sm (fun p => cnt (mkG nu sg p) 40) 0))), (0, .ref (ad 14 0))]) hx hb d_R_cutPages_1 rfl hl (by decide) rfl (fun ls hl => ?_)
  refine lv_iconst (v := nI 0) hx hb d_R_cutPages_2 (by decide) ?_
  refine lv_istore_n (lv' := [(2, .int (nI 0)), (1, .int (nI (sm (fun p => cnt (mkG nu sg p) 40) 0))), (0, .ref (ad 14 0))]) hx hb d_R_cutPages_3 rfl hl (by decide) rfl (fun ls hl => ?_)
  have HL4 : ∀ (z4 q : Nat) (nu1 : Nat → Nat → Nat) (sg1 : Nat → Nat → Int32), q ≤ 4 → 4 + 1 ≤ q + z4 → (eqx [1] nu nu1) → (eqx [2, 3, 4, 5] sg sg1) → ((∀ z, z < q → rowCut nu sg nu1 sg1 (mkG nu sg z) z z) ∧ ∀ z, q ≤ z → rowSame nu sg nu1 sg1 z) → (∀ r, nu1 1 r ≤ 40) → ∀ (M1 : xMem), ∀ (H : Heap) (locs : List Loc) (ls : Array Slot), (cRep G M1 fz ad nu1 sg1) → (∀ j, j < nu 7 0 → M1 (ad 4 j) = M (ad 4 j)) → (cFr M M1 ad nu) → xWd G (xA M sz) s.heap M1 H locs → lv_has ls 6 [(0, .ref (ad 14 0)), (1, .int (nI (sm (fun p => cnt (mkG nu sg p) 40) q))), (2, .int (nI q))] → W p l e { frames := 6, cells := 0, slots := 0, locals := 141 } s m ([.ref (ad 14 0)] : List Value).toArray below meth c H locs 0 0 (xMQ below G M sz (fun u M' => u = some (.int (nI (sm (fun p => cnt (mkG nu sg p) 40) 4))) ∧ ∃ (nu' : Nat → Nat → Nat) (sg' : Nat → Nat → Int32), cRep G M' fz ad nu' sg' ∧ eqx [1] nu nu' ∧ eqx [2, 3, 4, 5] sg sg' ∧ ((∀ z, z < 4 → rowCut nu sg nu' sg' (mkG nu sg z) z z) ∧ ∀ z, 4 ≤ z → rowSame nu sg nu' sg' z) ∧ (∀ r, nu' 1 r ≤ 40) ∧ (∀ j, j < nu 7 0 → M' (ad 4 j) = M (ad 4 j)) ∧ cFr M M' ad nu) (fun _ _ => False) s 0 0) (F0 m 4 ls []) := by
    intro z4
    induction z4 with
    | zero =>
      intro q nu1 sg1 h1 h2
      omega
    | succ z4 ih4 =>
      intro q nu1 sg1 hi4 hz4 hN hS hP h401 M1 H locs ls  hR1 hUs hC9 hw hl
      have hfm1 : ∀ u, u < nu1 7 0 → nu1 9 u < nu1 6 0 := by rw [hN 7 (by decide), hN 9 (by decide), hN 6 (by decide)]; exact hfm
      have hrg := rng_eqx hN (by decide)
      refine lv_iload_n hx hb d_R_cutPages_4 rfl (lv_at hl 2 rfl) ?_
      refine lv_aload_n hx hb d_R_cutPages_5 rfl (lv_at hl 0 rfl) ?_
      have hc1 := hR1.rc
      refine x_get hC hw hc1 rfl 0 (by decide) (hts _ k_176) (fun _ h9 => h9) rfl d_R_cutPages_6 ?_
      obtain ⟨mc2, hc2⟩ := hR1.la (k := 0) (by decide)
      refine x_callG hC (c_size l G M1 (Array.size H) fz ad nu1 sg1 hR1 0 (by decide)) k_212 k_4 ⟨Nat.le_of_ble_eq_true rfl, Nat.le_of_ble_eq_true rfl⟩ ⟨Nat.le_of_ble_eq_true rfl, Nat.le_of_ble_eq_true rfl⟩ hw hl.1 (Nat.le_of_ble_eq_true rfl) d_R_cutPages_9 (x_ivV hC k_212 k_209 k_210 k_211 (show _ ∧ _ ∧ _ = some 0 from by decide +kernel) (x_recv hC hw hc2 rfl) rfl d_R_cutPages_9) (fun rv M3 H locs hq hw => ?_) (fun _ _ _ _ _ h _ _ => h.elim)
      obtain ⟨rfl, hM⟩ := hq
      subst M3
      refine W.eq (g2 := F0 m 12 ls [.int (nI 4), .int (nI q)]) rfl ?_
      refine lv_icmp_ge (tgt := 57) hx hb d_R_cutPages_12 (by decide) (fun c_12 => ?_) (fun c_12 => ?_)
      · have c_12 := (nI_leI (by omega) (by omega)).mp c_12
        refine lv_iload_n hx hb d_R_cutPages_57 rfl (lv_at hl 1 rfl) ?_
        obtain rfl : q = 4 := by omega
        exact x_iret hC hr hw (⟨rfl, nu1, sg1, hR1, hN, hS, hP, h401, hUs, hC9⟩) (Nat.le_of_ble_eq_true rfl) (Nat.le_of_ble_eq_true rfl) d_R_cutPages_58
      · have c_12 := Nat.not_le.mp ((not_congr (nI_leI (by omega) (by omega))).mp c_12)
        refine lv_aload_n hx hb d_R_cutPages_15 rfl (lv_at hl 0 rfl) ?_
        refine x_get hC hw hc1 rfl 0 (by decide) (hts _ k_176) (fun _ h9 => h9) rfl d_R_cutPages_16 ?_
        refine lv_iload_n hx hb d_R_cutPages_19 rfl (lv_at hl 2 rfl) ?_
        refine x_callG hC (c_get l G M1 (Array.size H) fz ad nu1 sg1 hR1 0 (by decide) (q) (show q < 4 by omega)) k_216 k_4 ⟨Nat.le_of_ble_eq_true rfl, Nat.le_of_ble_eq_true rfl⟩ ⟨Nat.le_of_ble_eq_true rfl, Nat.le_of_ble_eq_true rfl⟩ hw hl.1 (Nat.le_of_ble_eq_true rfl) d_R_cutPages_20 (x_ivV hC k_216 k_213 k_214 k_215 (show _ ∧ _ ∧ _ = some 1 from by decide +kernel) (x_recv hC hw hc2 rfl) rfl d_R_cutPages_20) (fun rv M4 H locs hq hw => ?_) (fun _ _ _ _ _ h _ _ => h.elim)
        obtain ⟨rfl, hM⟩ := hq
        subst M4
        refine W.eq (g2 := F0 m 23 ls [.ref (ad 2 q)]) rfl ?_
        have hc5 := hR1.row (r := q) (by omega)
        refine x_cast hC hw hc5 rfl (hts _ k_101) d_R_cutPages_23 ?_
        refine lv_astore_n (lv' := [(3, .ref (ad 2 q)), (0, .ref (ad 14 0)), (1, .int (nI (sm (fun p => cnt (mkG nu sg p) 40) q))), (2, .int (nI q))]) hx hb d_R_cutPages_26 rfl hl (by decide) rfl (fun ls hl => ?_)
        refine lv_aload_n hx hb d_R_cutPages_27 rfl (lv_at hl 1 rfl) ?_
        refine lv_aload_n hx hb d_R_cutPages_28 rfl (lv_at hl 0 rfl) ?_
        refine lv_iload_n hx hb d_R_cutPages_29 rfl (lv_at hl 3 rfl) ?_
        refine lv_iconst (v := nI 0) hx hb d_R_cutPages_30 (by decide) ?_
        refine lv_iconst (v := nI 0) hx hb d_R_cutPages_31 (by decide) ?_
        obtain ⟨n6, hc6⟩ := hR1.co
        obtain ⟨p7, hc7⟩ := hR1.cv
        refine x_callG hC (c_R_marksOf l G M1 (Array.size H) fz ad nu1 sg1 _ hR1 [] xfr.rf vlP.nil q (nI q) (nI 0) (nI 0) n6 p7 (by omega) (by rw [hN 15 (by decide)]; exact h8a) (h401 _) (by rw [hN 12 (by decide)]; exact h4) (by rw [hN 13 (by decide)]; exact h8) (by rw [hN 12 (by decide), hN 13 (by decide), hS 14 (by decide)]; exact hlt) hc6 hc7) k_589 k_1 ⟨Nat.le_of_ble_eq_true rfl, Nat.le_of_ble_eq_true rfl⟩ ⟨Nat.le_of_ble_eq_true rfl, Nat.le_of_ble_eq_true rfl⟩ hw hl.1 (Nat.le_of_ble_eq_true rfl) d_R_cutPages_32 (x_ivV hC k_589 k_586 k_588 kp_11 (show _ ∧ _ ∧ _ = some 4 from by decide +kernel) (x_recv hC hw hc1 rfl) rfl d_R_cutPages_32) (fun rv M8 H locs hq hw => ?_) (fun _ _ _ _ _ h _ _ => h.elim)
        obtain ⟨mv, rfl, hmv, k', g', h_q, h_v, fr⟩ := hq
        have hmq : ∀ k, k < 64 → (bitP mv k ↔ mkG nu sg q k) := fun k hk => (hmv k hk).trans (mk_same (hP.2 q (Nat.le_refl q)) (h40 q) (x_345 hN (by intro x hx; rcases hx with rfl | rfl | rfl <;> decide)) (x_345 hS (by intro x hx; rcases hx with rfl | rfl | rfl | rfl | rfl | rfl <;> decide)))
        have hUs : ∀ j, j < nu 7 0 → M8 (ad 4 j) = M (ad 4 j) := fun j hj => (fr.2 _ (hR.nco (k := 4) (i := j) hj (by decide) (by decide)) (by rw [hUs j hj]; exact hR.nn (k := 4) hj (by decide))).trans (hUs j hj)
        have hC9 := hC9.trans (cFr.of (ad := ad) (nu := nu) fr (own2 (k := 12) (k' := 13) Nat.zero_lt_one Nat.zero_lt_one)) (fun a ha => Or.inl ha)
        have hR1 := hR1.coU (x_fz0 hC hw hR1.2.1.1) hfm1 fr h_q h_v
        refine W.eq (g2 := F0 m 35 ls [.long mv]) rfl ?_
        refine lv_lstore (lv' := [(4, .long mv), (3, .ref (ad 2 q)), (0, .ref (ad 14 0)), (1, .int (nI (sm (fun p => cnt (mkG nu sg p) 40) q))), (2, .int (nI q))]) hx hb d_R_cutPages_35 hl (by decide) rfl (fun ls hl => ?_)
        refine lv_aload_n hx hb d_R_cutPages_37 rfl (lv_at hl 1 rfl) ?_
        refine lv_lload hx hb d_R_cutPages_38 (lv_at hl 0 rfl) ?_
        have hc9 := hR1.row (r := q) (by omega)
        obtain ⟨p10, hc10, hp10⟩ := hR1.pa (r := q) (by omega)
        refine x_callG hC (c_S_cut l G M8 (Array.size H) (ad 2 q) (ad 3 q) (nu1 1 q) (nI (nmb q)) mv p10 (h401 q) hc9 hc10) k_621 k_6 ⟨Nat.le_of_ble_eq_true rfl, Nat.le_of_ble_eq_true rfl⟩ ⟨Nat.le_of_ble_eq_true rfl, Nat.le_of_ble_eq_true rfl⟩ hw hl.1 (Nat.le_of_ble_eq_true rfl) d_R_cutPages_40 (x_ivA (x := ⟨"RedactCheck$SignRow", "cut", "(J)V"⟩) (owner := "RedactCheck$Row") hC k_618 k_616 k_617 k_620 k_619 (show _ ∧ _ ∧ _ = some 1 from by decide +kernel) (x_recv hC hw hc9 rfl) rfl d_R_cutPages_40) (fun rv M11 H locs hq hw => ?_) (fun _ _ _ _ _ h _ _ => h.elim)
        obtain ⟨rfl, f', h_r, h_p, hcut, fr⟩ := hq
        have h4q := h401 q
        have hcq := hcut.cong (fun i hi => hmq i (by omega))
        have hkp : kp (bitP mv) (nu1 1 q) = kp (mkG nu sg q) (nu1 1 q) := kp_c (fun i hi => hmq i (by omega))
        rw [hkp] at h_r
        have hR2 := hR1.cutU (x_fz0 hC hw hR1.2.1.1) hfm1 h401 (by omega) fr h_r h_p
        have hcF := cut_F (t := q) hcq hp10
        have hUs : ∀ j, j < nu 7 0 → M11 (ad 4 j) = M (ad 4 j) := fun j hj => (fr.2 _ (fun z => by rcases List.mem_cons.mp z with z | z; exact hR.ne (k := 4) (k' := 2) hj (show q < 4 + nu 6 0 by omega) (by decide) z; exact hR.ne (k := 4) (k' := 3) hj (show q < 4 + nu 6 0 by omega) (by decide) (List.mem_singleton.mp z)) (by rw [hUs j hj]; exact hR.nn (k := 4) hj (by decide))).trans (hUs j hj)
        have hC9 := hC9.trans (cFr.of (ad := ad) (nu := nu) fr (own2 (k := 2) (k' := 3) (show q < 4 + nu 6 0 by omega) (show q < 4 + nu 6 0 by omega))) (fun a ha => Or.inl ha)
        refine W.eq (g2 := F0 m 43 ls []) rfl ?_
        refine lv_iload_n hx hb d_R_cutPages_43 rfl (lv_at hl 3 rfl) ?_
        refine lv_lload hx hb d_R_cutPages_44 (lv_at hl 0 rfl) ?_
        refine x_callG hC (c_bitCount l G M11 (Array.size H) mv) k_647 k_26 ⟨Nat.le_of_ble_eq_true rfl, Nat.le_of_ble_eq_true rfl⟩ ⟨Nat.le_of_ble_eq_true rfl, Nat.le_of_ble_eq_true rfl⟩ hw hl.1 (Nat.le_of_ble_eq_true rfl) d_R_cutPages_46 (x_ivS hC k_647 k_645 k_646 k_26 (show _ ∧ _ ∧ _ = some 1 from by decide +kernel) rfl d_R_cutPages_46) (fun rv M12 H locs hq hw => ?_) (fun _ _ _ _ _ h _ _ => h.elim)
        obtain ⟨rfl, hM⟩ := hq
        subst M12
        refine W.eq (g2 := F0 m 49 ls [.int (nI (cnt (bitP mv) 64)), .int (nI (sm (fun p => cnt (mkG nu sg p) 40) q))]) rfl ?_
        refine x_vi (y := nI (cnt (mkG nu sg q) 40)) (congrArg nI (cnt64 (h40 q) hmq (fun k z => z.1))) ?_
        refine lv_iadd hx hb d_R_cutPages_49 ?_
        refine x_vi (y := nI ((sm (fun p => cnt (mkG nu sg p) 40) q) + (cnt (mkG nu sg q) 40))) (nI_add _ _) ?_
        refine x_vi (y := nI (sm (fun p => cnt (mkG nu sg p) 40) (q + 1))) (rfl) ?_
        refine lv_istore_n (lv' := [(1, .int (nI (sm (fun p => cnt (mkG nu sg p) 40) (q + 1)))), (4, .long mv), (3, .ref (ad 2 q)), (0, .ref (ad 14 0)), (2, .int (nI q))]) hx hb d_R_cutPages_50 rfl hl (by decide) rfl (fun ls hl => ?_)
        refine lv_iinc (v := nI (q + 1)) (lv' := [(2, .int (nI (q + 1))), (1, .int (nI (sm (fun p => cnt (mkG nu sg p) 40) (q + 1)))), (4, .long mv), (3, .ref (ad 2 q)), (0, .ref (ad 14 0))]) hx hb d_R_cutPages_51 hl (k := 4) rfl (by exact nI_1 _) (by decide) rfl (fun ls hl => ?_)
        refine lv_goto (tgt := 4) hx hb d_R_cutPages_54 (by decide) ?_
        exact ih4 (q + 1) (va_up nu1 1 (va_up (nu1 1) q (kp (mkG nu sg q) (nu1 1 q)))) (cutSg sg1 q (kp (mkG nu sg q) (nu1 1 q)) f') (by omega) (by omega) (hN.trans (eqx.up nu1 1 _) (fun _ h => h) (fun _ h => h)) (hS.trans cutSg_S (fun _ h => h) (fun _ h => h)) (x_pgs hP hcF h40) (up40 h401 (Nat.le_trans (kp_le _ _) (h401 q))) _ _ _ _ (hR2) (hUs) (hC9) hw (lv_sub hl [4, 1, 0] rfl)
  exact HL4 (4 + 1) (0) (nu) (sg) (by omega) (by omega) (eqx.rf) (eqx.rf) (⟨fun z hz => absurd hz (Nat.not_lt_zero z), fun z _ => rowSame.rf⟩) (h40) _ _ _ _ (hR) (fun _ _ => rfl) (cFr.rf) hw (lv_sub hl [2, 1, 0] rfl)
