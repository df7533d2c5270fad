/-! uses whose forms are changed -/
theorem cnt_0 {Q : Nat → Prop} {n : Nat} (h : ∀ k, k < n → ¬ Q k) : cnt Q n = 0 := by
  rw [cnt_tail (n := 0) (m := n) (Nat.zero_le n) (fun k _ hk => h k hk)]
  rfl
section UR
variable {nu nu0 nu1 : Nat → Nat → Nat} {sg sg0 sg1 : Nat → Nat → Int32}
theorem x_usT {u w c : Nat} (h : usP nu sg nu0 sg0 u) (hw : w < u) (ha : alk nu sg u w) (hcw : CFp nu sg w c) (hu : hasU nu sg u) (h40 : ∀ R, nu 1 R ≤ 40) : usP nu sg nu0 sg0 (u + 1) := by
  obtain ⟨h1, h2, h3, h4⟩ := h
  refine ⟨h1, h2, fun v hv hv2 d hd => ?_, h4⟩
  by_cases hz : v = u
  · rw [hz] at hd ⊢
    have e : d = c := hd.uniq (hcw.ofA (Nat.le_of_lt hw) ha)
    have z := (h3 w hw (ha.has hu) c hcw).cong (fun k hk => (ha.2 k hk).symm) (h40 _)
    rw [e, ha.1]
    exact z
  · exact h3 v (by omega) hv2 d hd
theorem usP_n {u : Nat} (h : usP nu sg nu0 sg0 u) (e : nu1 1 = nu0 1) : usP nu sg nu1 sg0 u := by
  unfold usP rowCut rowSame at h ⊢
  rw [e]
  exact h
theorem x_ufS {f : Nat → Nat} {u : Nat} (h : ufP nu sg f u) (hu : ¬ hasU nu sg u) : ufP nu sg f (u + 1) := by
  refine x_ufN (f1 := f) h hu ?_
  funext j
  by_cases hz : j = u
  · rw [hz, va_up_self]
  · rw [va_up_ne _ _ hz]
end UR
section UU
variable {G : xT} {M M' : xMem} {fz : Nat} {ad : Nat → Nat → Nat} {nu : Nat → Nat → Nat} {sg : Nat → Nat → Int32}
theorem cRep.useU (h : cRep G M fz ad nu sg) (hz9 : M' fz = none) (hfm : ∀ u, u < nu 7 0 → nu 9 u < nu 6 0) {u c : Nat} {mk : Int64} {tw : Option Nat} (hu : u < nu 7 0) (fr : ∀ b, b ≠ ad 4 u → M' b = M b) (h1 : M' (ad 4 u) = some (.inr (5, [.int (sg 8 u), .int (sg 10 u), .int (sg 11 u), .ref (ad 2 (4 + c)), .long mk, va_rf tw]))) : cRep G M' fz ad (va_up nu 9 (va_up (nu 9) u c)) sg := by
  have e : ∀ k, k ≠ 9 → va_up nu 9 (va_up (nu 9) u c) k = nu k := fun k hk => va_up_ne _ _ hk
  have hrg : ∀ k, rng (va_up nu 9 (va_up (nu 9) u c)) k = rng nu k := rng_eqx (eqx.up nu 9 _) (by decide)
  have hfr : xfr M M' [ad 4 u] := xfr.rf.put h1 fr (Or.inl (List.mem_singleton.mpr rfl))
  refine h.inpl hz9 hfr hrg hfm (fun k i => k = 4 ∧ i = u) ?_ ?_ ?_
  · intro a ha
    exact ⟨4, u, List.mem_singleton.mp ha, hu, by decide, rfl, rfl⟩
  · rintro k i hi ⟨rfl, rfl⟩
    refine ⟨_, h1, mk, tw, ?_⟩
    rw [va_up_self, va_up_self]
  · intro k i hi hk
    by_cases h4 : k = 4
    · subst h4
      have hne : i ≠ u := fun z => hk ⟨rfl, z⟩
      refine ⟨rfl, rfl, rfl, ?_⟩
      rw [va_up_self, va_up_ne _ _ hne]
    · refine eqK_of (fun x hx => e x ?_) (fun _ _ => rfl)
      have hz : ∀ k, k < 15 → ¬ (k = 4) → ∀ x ∈ depN k, x ≠ 9 := by decide
      exact hz k (rng_k hi) h4 x hx
end UU
theorem copy_ok {G : xT} {M M' : xMem} {fz : Nat} {ad : Nat → Nat → Nat} {nu nu' : Nat → Nat → Nat} {sg sg' : Nat → Nat → Int32} {q pa el' cap' : Nat} {f' : Nat → Option Nat} {mc : Int32} (h : cRep G M fz ad nu sg) (hz9 : M' fz = none) (hfm : ∀ u, u < nu 7 0 → nu 9 u < nu 6 0) (fr : xfr M M' [ad 0 1, el']) (hq : M q = none) (hpa : M pa = none) (hel : el' = ad 1 1 ∨ M el' = none) (hfz : el' ≠ fz)
    (hla : M' (ad 0 1) = some (.inr (8, [.ref el', .int (nI (ln nu 1 + 1)), .int mc]))) (hea : M' el' = some (.inl (G.2.1 3, cap', .inr (.inr (.inr (.inr f')))))) (hcap : ln nu 1 < cap') (hcp : capP fz el' cap') (hpre : ∀ j, j < ln nu 1 → f' j = some (elA ad 1 j)) (hlast : f' (ln nu 1) = some q)
    (hN : eqx [0, 1, 6] nu nu') (hS : eqx [2, 3, 4, 5] sg sg') (hx : nu' 6 0 = nu 6 0 + 1) {f : Nat → Int32} (e1 : ∀ i, i ≠ 4 + nu 6 0 → nu' 1 i = nu 1 i) (eS : ∀ i, i ≠ 4 + nu 6 0 → ∀ j, j < nu 1 i → sg' 2 (40 * i + j) = sg 2 (40 * i + j) ∧ sg' 3 (40 * i + j) = sg 3 (40 * i + j) ∧ sg' 4 (40 * i + j) = sg 4 (40 * i + j) ∧ sg' 5 (40 * i + j) = sg 5 (40 * i + j)) (hnew : ∀ j, j < nu' 1 (4 + nu 6 0) → f (j * 4 + 0) = sg' 2 (40 * (4 + nu 6 0) + j) ∧ f (j * 4 + 1) = sg' 3 (40 * (4 + nu 6 0) + j) ∧ f (j * 4 + 2) = sg' 4 (40 * (4 + nu 6 0) + j) ∧ f (j * 4 + 3) = sg' 5 (40 * (4 + nu 6 0) + j)) (h_q : M' q = some (.inr (1, [.int (nI (nu 6 0)), .ref pa, .int (nI (nu' 1 (4 + nu 6 0)))]))) (h_pa : M' pa = some (.inl (G.2.1 0, 160, .inl f))) : cRep G M' fz (adN ad 1 el' 2 3 (4 + nu 6 0) q pa) nu' sg' ∧ ∀ a, own (adN ad 1 el' 2 3 (4 + nu 6 0) q pa) nu' a → own ad nu a ∨ M a = none := by
  have e : ∀ x, x ∉ [0, 1, 6] → nu' x 0 = nu x 0 := fun x hx => congrFun (hN x hx) 0
  have hrg : ∀ k i, i < rng nu' k → i < rng nu k ∨ ((k = 2 ∨ k = 3) ∧ i = 4 + nu 6 0) := fun k i hi => match k, hi with
  | 0, hi => Or.inl hi
  | 1, hi => Or.inl hi
  | 2, hi => by
    have hi : i < 4 + nu' 6 0 := hi
    rw [hx] at hi
    by_cases hz : i = 4 + nu 6 0
    · exact Or.inr ⟨Or.inl rfl, hz⟩
    · exact Or.inl (show i < 4 + nu 6 0 by omega)
  | 3, hi => by
    have hi : i < 4 + nu' 6 0 := hi
    rw [hx] at hi
    by_cases hz : i = 4 + nu 6 0
    · exact Or.inr ⟨Or.inr rfl, hz⟩
    · exact Or.inl (show i < 4 + nu 6 0 by omega)
  | 4, hi => Or.inl (show i < nu 7 0 by rw [← e 7 (by decide)]; exact hi)
  | 5, hi => Or.inl (show i < nu 12 0 by rw [← e 12 (by decide)]; exact hi)
  | 6, hi => Or.inl (show i < nu 12 0 by rw [← e 12 (by decide)]; exact hi)
  | 7, hi => Or.inl (show i < nu 15 0 by rw [← e 15 (by decide)]; exact hi)
  | 8, hi => Or.inl (show i < nu 21 0 by rw [← e 21 (by decide)]; exact hi)
  | 9, hi => Or.inl (show i < nu 21 0 by rw [← e 21 (by decide)]; exact hi)
  | 10, hi => Or.inl hi
  | 11, hi => Or.inl hi
  | 12, hi => Or.inl hi
  | 13, hi => Or.inl hi
  | 14, hi => Or.inl hi
  | _ + 15, hi => absurd hi (Nat.not_lt_zero _)
  refine h.grow hfm (k0 := 1) (K := 2) (K2 := 3) (ix := 4 + nu 6 0) (q := q) (pa := pa) (by decide) (by decide) (by decide) (by decide) (by decide) hz9 fr hq hpa hel hfz hla hea hcap hcp hpre hlast hx hrg (Nat.lt_irrefl _) (Nat.lt_irrefl _) (adN_K (by decide)) ?_ ?_ ?_
  · rw [adN_K (by decide)]
    refine ⟨_, h_q, ?_⟩
    show _ = _
    rw [nmb_4, adN_K2 (by decide) (by decide)]
  · rw [adN_K2 (by decide) (by decide)]
    exact ⟨_, h_pa, f, rfl, hnew⟩
  · intro k i hi hk
    have hln : i ≠ 1 → i < 6 → ln nu' i = ln nu i := by
      intro h2 h1
      match i, h1, h2 with
      | 0, _, _ => rfl
      | 1, _, h2 => exact absurd rfl h2
      | 2, _, _ => exact e 7 (by decide)
      | 3, _, _ => exact e 12 (by decide)
      | 4, _, _ => exact e 15 (by decide)
      | 5, _, _ => exact e 21 (by decide)
      | _ + 6, h1, _ => omega
    by_cases h0 : k ≤ 1
    · have h2 : i ≠ 1 := fun z => hk ⟨h0, z⟩
      have : k = 0 ∨ k = 1 := by omega
      rcases this with rfl | rfl
      · exact hln h2 hi
      · exact hln h2 hi
    by_cases hs2 : k = 2
    · subst hs2
      exact e1 i (Nat.ne_of_lt hi)
    by_cases hs3 : k = 3
    · subst hs3
      exact ⟨e1 i (Nat.ne_of_lt hi), eS i (Nat.ne_of_lt hi)⟩
    have hk15 := rng_k hi
    refine eqK_of (fun x hx => hN x ?_) (fun x hx => hS x ?_)
    · have hz : ∀ k, k < 15 → ¬ (k ≤ 1 ∨ k = 2 ∨ k = 3) → ∀ x ∈ depN k, x ∉ [0, 1, 6] := by decide
      exact hz k hk15 (by omega) x hx
    · have hz : ∀ k, k < 15 → ¬ (k ≤ 1 ∨ k = 2 ∨ k = 3) → ∀ x ∈ depS k, x ∉ [2, 3, 4, 5] := by decide
      exact hz k hk15 (by omega) x hx
def cpyN (nu : Nat → Nat → Nat) (v : Nat) : Nat → Nat → Nat := va_up (va_up nu 6 (fun _ => nu 6 0 + 1)) 1 (va_up (nu 1) (4 + nu 6 0) v)
section CY
variable {nu : Nat → Nat → Nat} {v : Nat}
theorem cpy_N : eqx [1, 6] nu (cpyN nu v) := by
  intro k hk
  simp only [List.mem_cons, List.not_mem_nil, or_false, not_or] at hk
  unfold cpyN
  rw [va_up_ne _ _ hk.1, va_up_ne _ _ hk.2]
theorem cpy_1 : cpyN nu v 1 = va_up (nu 1) (4 + nu 6 0) v := va_up_self _ _ _
theorem cpy_6 : cpyN nu v 6 0 = nu 6 0 + 1 := by
  unfold cpyN
  rw [va_up_ne _ _ (by decide), va_up_self]
theorem cpy_40 (h : ∀ r, nu 1 r ≤ 40) (hv : v ≤ 40) : ∀ r, cpyN nu v 1 r ≤ 40 := by
  intro r
  rw [cpy_1]
  by_cases hz : r = 4 + nu 6 0
  · rw [hz, va_up_self]
    exact hv
  · rw [va_up_ne _ _ hz]
    exact h r
theorem cpy_S {sg : Nat → Nat → Int32} {f : Nat → Int32} (h40 : ∀ r, nu 1 r ≤ 40) (hv : v ≤ 40) : ∀ i, i ≠ 4 + nu 6 0 → ∀ j, j < nu 1 i → cutSg sg (4 + nu 6 0) v f 2 (40 * i + j) = sg 2 (40 * i + j) ∧ cutSg sg (4 + nu 6 0) v f 3 (40 * i + j) = sg 3 (40 * i + j) ∧ cutSg sg (4 + nu 6 0) v f 4 (40 * i + j) = sg 4 (40 * i + j) ∧ cutSg sg (4 + nu 6 0) v f 5 (40 * i + j) = sg 5 (40 * i + j) := by
  intro i hi j hj
  have h9 := h40 i
  rw [cutSg_out (by omega), cutSg_out (by omega), cutSg_out (by omega), cutSg_out (by omega)]
  exact ⟨rfl, rfl, rfl, rfl⟩
theorem cpy_F {sg : Nat → Nat → Int32} {Q : Nat → Prop} {r : Nat} {g f' : Nat → Int32} (h : cutS Q (nu 1 r) g f') (hg : ∀ j, j < nu 1 r → g (j * 4 + 0) = sg 2 (40 * r + j) ∧ g (j * 4 + 1) = sg 3 (40 * r + j) ∧ g (j * 4 + 2) = sg 4 (40 * r + j) ∧ g (j * 4 + 3) = sg 5 (40 * r + j)) : cutF nu sg (cpyN nu (kp Q (nu 1 r))) (cutSg sg (4 + nu 6 0) (kp Q (nu 1 r)) f') Q r (4 + nu 6 0) := by
  have z := cut_F (t := 4 + nu 6 0) h hg
  unfold cutF at z ⊢
  rw [va_up_self] at z
  rw [cpy_1]
  exact z
theorem cpy_g {f g : Nat → Int32} {sg : Nat → Nat → Int32} {r n : Nat} (h : ∀ j, j < n * 4 → g j = f j) (hf : ∀ j, j < n → f (j * 4 + 0) = sg 2 (40 * r + j) ∧ f (j * 4 + 1) = sg 3 (40 * r + j) ∧ f (j * 4 + 2) = sg 4 (40 * r + j) ∧ f (j * 4 + 3) = sg 5 (40 * r + j)) : ∀ j, j < n → g (j * 4 + 0) = sg 2 (40 * r + j) ∧ g (j * 4 + 1) = sg 3 (40 * r + j) ∧ g (j * 4 + 2) = sg 4 (40 * r + j) ∧ g (j * 4 + 3) = sg 5 (40 * r + j) := by
  intro j hj
  rw [h _ (by omega), h _ (by omega), h _ (by omega), h _ (by omega)]
  exact hf j hj
end CY
set_option maxHeartbeats 400000 in
set_option maxRecDepth 100000 in
/-- addCutCopy -/
theorem c_R_addCutCopy (l : Launch) (G : xT) (M : xMem) (sz : Nat) (fz : Nat) (ad : Nat → Nat → Nat) (nu : Nat → Nat → Nat) (sg : Nat → Nat → Int32) (hR : cRep G M fz ad nu sg) (r : Nat) (mv : Int64) (Q : Nat → Prop) (hmq : ∀ k, k < 64 → (bitP mv k ↔ Q k)) (hrr : r < 4 + nu 6 0) (h20 : nu 6 0 ≤ 20) (h40 : ∀ r, nu 1 r ≤ 40) (hfm : ∀ u, u < nu 7 0 → nu 9 u < nu 6 0) : xMet l G y_R_addCutCopy (Cond.code y_R_addCutCopy b_R_addCutCopy 5 (Option.some (Jvm.ClassFile.FieldType.object "RedactCheck$SignRow")) :: x_tbl) { frames := 7, cells := 3, slots := 185, locals := 172 } [.ref (ad 14 0), .ref (ad 2 r), .long mv] M sz (fun u M' => ∃ (ad' : Nat → Nat → Nat) (nu' : Nat → Nat → Nat) (sg' : Nat → Nat → Int32), u = some (.ref (ad' 2 (4 + nu 6 0))) ∧ cRep G M' fz ad' nu' sg' ∧ eqx [1, 6] nu nu' ∧ eqx [2, 3, 4, 5] sg sg' ∧ nu' 6 0 = nu 6 0 + 1 ∧ cutF nu sg nu' sg' Q r (4 + nu 6 0) ∧ (∀ k i, i < rng nu k → k ≠ 1 → ad' k i = ad k i) ∧ (∀ j, j < nu 7 0 → M' (ad 4 j) = M (ad 4 j)) ∧ cFr M M' ad nu ∧ (∀ a, own ad' nu' a → own ad nu a ∨ M a = none) ∧ ∀ r, nu' 1 r ≤ 40) (fun _ _ => False) := by
  refine xMet.of (by decide) (Nat.le_of_ble_eq_true rfl) ?_
  intro p e s m below meth c ls hC hr hnm hno hsz hw hl
  obtain ⟨hx, hb, hown, hts, hK, hml, hlk, hz⟩ := id hC
  have hl : lv_has ls 5 [(0, .ref (ad 14 0)), (1, .ref (ad 2 r)), (2, .long mv)] := hl
  have hF : xfr M M [] := xfr.rf
  have hV := hF
  have hSL := vlP.nil (ad := ad) (nu := nu)
  refine lv_aload_n hx hb d_R_addCutCopy_0 rfl (lv_at hl 1 rfl) ?_
  refine lv_aload_n hx hb d_R_addCutCopy_1 rfl (lv_at hl 0 rfl) ?_
  have hc1 := hR.rc
  have hc1 := hV.get hc1 (hR.ninS hSL (show 0 < 1 by omega) (by decide))
  refine x_get hC hw hc1 rfl 1 (by decide) (hts _ k_177) (fun _ h9 => h9) rfl d_R_addCutCopy_2 ?_
  obtain ⟨mc2, hc2⟩ := hR.la (k := 1) (by decide)
  have hc2 := hV.get hc2 (hR.ninS hSL (show 1 < 6 by omega) (by decide))
  refine x_callG hC (c_sizeV l G M (Array.size s.heap) fz ad nu sg M hR _ hV hSL 1 (by decide)) k_212 k_4 ⟨Nat.le_of_ble_eq_true rfl, Nat.le_of_ble_eq_true rfl⟩ ⟨Nat.le_of_ble_eq_true rfl, Nat.le_of_ble_eq_true rfl⟩ hw hl.1 (Nat.le_of_ble_eq_true rfl) d_R_addCutCopy_5 (x_ivV hC k_212 k_209 k_210 k_211 (show _ ∧ _ ∧ _ = some 0 from by decide +kernel) (x_recv hC hw hc2 rfl) rfl d_R_addCutCopy_5) (fun rv M3 H locs hq hw => ?_) (fun _ _ _ _ _ h _ _ => h.elim)
  obtain ⟨rfl, hM⟩ := hq
  subst M3
  refine W.eq (g2 := F0 m 8 ls [.int (nI (nu 6 0)), .ref (ad 2 r)]) rfl ?_
  have hc4 := hR.row (r := r) (by omega)
  have hc4 := hV.get hc4 (hR.ninS hSL (show r < 4 + nu 6 0 by omega) (by decide))
  obtain ⟨p5, hc5, hp5⟩ := hR.pa (r := r) (by omega)
  have hc5 := hV.get hc5 (hR.ninS hSL (show r < 4 + nu 6 0 by omega) (by decide))
  refine x_callG hC (c_S_copyNumbered l G M (Array.size H) (ad 2 r) (ad 3 r) (nu 1 r) (nI (nmb r)) (nI (nu 6 0)) p5 (h40 r) hc4 hc5) k_662 k_8 ⟨Nat.le_of_ble_eq_true rfl, Nat.le_of_ble_eq_true rfl⟩ ⟨Nat.le_of_ble_eq_true rfl, Nat.le_of_ble_eq_true rfl⟩ hw hl.1 (Nat.le_of_ble_eq_true rfl) d_R_addCutCopy_8 (x_ivV hC k_662 k_659 k_660 k_661 (show _ ∧ _ ∧ _ = some 1 from by decide +kernel) (x_recv hC hw hc4 rfl) rfl d_R_addCutCopy_8) (fun rv M6 H locs hq hw => ?_) (fun _ _ _ _ _ h _ _ => h.elim)
  obtain ⟨qn, pa, g1, rfl, hn_qn, hn_pa, h_qn, h_pa, hg1, fr⟩ := hq
  have hF := hF.trans fr (by intro z hz; cases hz)
  have hV := hF
  have hg2 := cpy_g hg1 hp5
  have hc1 := fr.get hc1 (by simp [])
  have hc2 := fr.get hc2 (by simp [])
  have hc4 := fr.get hc4 (by simp [])
  have hc5 := fr.get hc5 (by simp [])
  refine W.eq (g2 := F0 m 11 ls [.ref qn]) rfl ?_
  refine lv_astore (lv' := [(4, .ref qn), (0, .ref (ad 14 0)), (1, .ref (ad 2 r)), (2, .long mv)]) hx hb d_R_addCutCopy_11 hl (by decide) rfl (fun ls hl => ?_)
  refine lv_aload hx hb d_R_addCutCopy_13 (lv_at hl 0 rfl) ?_
  refine lv_lload_n hx hb d_R_addCutCopy_15 rfl (lv_at hl 3 rfl) ?_
  refine x_callG hC (c_S_cut l G M6 (Array.size H) qn pa (nu 1 r) (nI (nu 6 0)) mv g1 (h40 r) h_qn h_pa) k_621 k_6 ⟨Nat.le_of_ble_eq_true rfl, Nat.le_of_ble_eq_true rfl⟩ ⟨Nat.le_of_ble_eq_true rfl, Nat.le_of_ble_eq_true rfl⟩ hw hl.1 (Nat.le_of_ble_eq_true rfl) d_R_addCutCopy_16 (x_ivA (x := ⟨"RedactCheck$SignRow", "cut", "(J)V"⟩) (owner := "RedactCheck$Row") hC k_618 k_616 k_617 k_620 k_619 (show _ ∧ _ ∧ _ = some 1 from by decide +kernel) (x_recv hC hw h_qn rfl) rfl d_R_addCutCopy_16) (fun rv M7 H locs hq hw => ?_) (fun _ _ _ _ _ h _ _ => h.elim)
  obtain ⟨rfl, f', h_qn, h_pa, hcut, fr⟩ := hq
  have hF := hF.trans fr (x_fr0 hn_qn hn_pa)
  have hV := hF
  have h4q := h40 r
  have hcq := hcut.cong (fun i hi => hmq i (by omega))
  have hkp : kp (bitP mv) (nu 1 r) = kp Q (nu 1 r) := kp_c (fun i hi => hmq i (by omega))
  rw [hkp] at h_qn
  refine W.eq (g2 := F0 m 19 ls []) rfl ?_
  refine lv_aload_n hx hb d_R_addCutCopy_19 rfl (lv_at hl 1 rfl) ?_
  have hc8 := hR.rc
  have hc8 := hV.get hc8 (hR.ninS hSL (show 0 < 1 by omega) (by decide))
  refine x_get hC hw hc8 rfl 1 (by decide) (hts _ k_177) (fun _ h9 => h9) rfl d_R_addCutCopy_20 ?_
  refine lv_aload hx hb d_R_addCutCopy_23 (lv_at hl 0 rfl) ?_
  obtain ⟨mc9, hc9⟩ := hR.la (k := 1) (by decide)
  have hc9 := hV.get hc9 (hR.ninS hSL (show 1 < 6 by omega) (by decide))
  refine x_callG hC (c_add l G M7 (Array.size H) fz ad nu sg M hR hF 1 (by decide) (show nu 6 0 < 22 by omega) _ _ _ rfl k_985 qn _ h_qn) k_119 k_4 ⟨Nat.le_of_ble_eq_true rfl, Nat.le_of_ble_eq_true rfl⟩ ⟨Nat.le_of_ble_eq_true rfl, Nat.le_of_ble_eq_true rfl⟩ hw hl.1 (Nat.le_of_ble_eq_true rfl) d_R_addCutCopy_25 (x_ivV hC k_119 k_116 k_117 k_118 (show _ ∧ _ ∧ _ = some 1 from by decide +kernel) (x_recv hC hw hc9 rfl) rfl d_R_addCutCopy_25) (fun rv M10 H locs hq hw => ?_) (fun _ _ _ _ _ h _ _ => h.elim)
  obtain ⟨rfl, el', cap', ff, mc', a1, a2, a3, a4, a5, a6, a7, a8, fr, a9, a10, a11⟩ := hq
  have h_qn := a10 _ _ h_qn hn_qn
  have h_pa := a10 _ _ h_pa hn_pa
  refine W.eq (g2 := F0 m 28 ls [.int (nI 1)]) rfl ?_
  refine lv_pop hx hb d_R_addCutCopy_28 rfl ?_
  refine lv_aload hx hb d_R_addCutCopy_29 (lv_at hl 0 rfl) ?_
  have hk4 : kp Q (nu 1 r) ≤ 40 := Nat.le_trans (kp_le _ _) (h40 r)
  obtain ⟨q1, q2⟩ := copy_ok (nu' := cpyN nu (kp Q (nu 1 r))) (sg' := cutSg sg (4 + nu 6 0) (kp Q (nu 1 r)) f') hR (x_fz0 hC hw hR.2.1.1) hfm a11 hn_qn hn_pa a7 a8 a1 a2 a3 a4 a5 a6 (cpy_N.wide (by decide)) cutSg_S cpy_6 (fun i hi => by rw [cpy_1, va_up_ne _ _ hi]) (cpy_S h40 hk4) (by rw [cpy_1, va_up_self]; exact fun j hj => ⟨(cutSg_in (c := 0) (by decide) hj).symm, (cutSg_in (c := 1) (by decide) hj).symm, (cutSg_in (c := 2) (by decide) hj).symm, (cutSg_in (c := 3) (by decide) hj).symm⟩) (by rw [cpy_1, va_up_self]; exact h_qn) h_pa
  exact x_aret hC hr (Or.inl ⟨_, rfl⟩) hw (Or.inr ⟨_, rfl⟩) (⟨_, _, _, congrArg (fun z => some (Value.ref z)) (adN_K (by decide)).symm, q1, cpy_N, cutSg_S, cpy_6, cpy_F hcq hg2, (fun k i hi hk => adN_o (fun z => hk z.1) (fun z => by obtain ⟨rfl, rfl⟩ := z; exact Nat.lt_irrefl _ hi) (fun z => by obtain ⟨rfl, rfl⟩ := z; exact Nat.lt_irrefl _ hi)), (fun j hj => a9 4 j hj (by decide) (by omega)), cFr.of a11 (own_add hR (by decide) a7), q2, cpy_40 h40 hk4⟩) (Nat.le_of_ble_eq_true rfl) (Nat.le_of_ble_eq_true rfl) d_R_addCutCopy_31
