theorem x_fw4 {nu : Nat → Nat → Nat} {sg : Nat → Nat → Int32} {row : Nat → Int32} {rs w q k : Nat} {g g1 : Nat → Int32} (h : ∀ j, j < rs → g j = zI (iwU nu sg row rs w q j ∨ (stP nu sg row rs w q ∧ q ≤ j ∧ j < q + k))) (e : g1 = va_up g (q + k) (zI True)) (hs : stP nu sg row rs w q) : ∀ j, j < rs → g1 j = zI (iwU nu sg row rs w q j ∨ (stP nu sg row rs w q ∧ q ≤ j ∧ j < q + (k + 1))) := by
  intro j hj
  rw [e]
  by_cases hz : j = q + k
  · rw [hz, va_up_self]
    exact zI_c ⟨fun _ => Or.inr ⟨hs, by omega, by omega⟩, fun _ => trivial⟩
  · rw [va_up_ne _ _ hz, h j hj]
    exact zI_c (or_congr Iff.rfl (and_congr Iff.rfl (by omega)))
set_option maxHeartbeats 1000000 in
set_option maxRecDepth 100000 in
/-- findWords -/
theorem c_M_findWords (l : Launch) (G : xT) (M : xMem) (sz : Nat) (md : Nat) (am : Nat → Nat) (nu : Nat → Nat → Nat) (sg : Nat → Nat → Int32) (hR : mRep G M md am nu sg) (h4 : nu 12 0 ≤ 4) (h8 : ∀ w, w < nu 12 0 → nu 13 w ≤ 8) (hs : nu 29 0 ≤ 60) : xMet l G y_M_findWords (Cond.code y_M_findWords b_M_findWords 4 none :: x_tbl) { frames := 1, cells := 0, slots := 0, locals := 25 } [.ref md] M sz (fun v M' => v = none ∧ ∃ (nu' : Nat → Nat → Nat) (sg' : Nat → Nat → Int32), mRep G M' md am nu' sg' ∧ eqx [] nu nu' ∧ eqx [31] sg sg' ∧ xfr M M' (mS md am) ∧ ∀ k, k < nu 29 0 → sg' 31 k = zI (iwP nu sg (sg 30) (nu 29 0) k)) (fun _ _ => False) := by
  refine xMet.of (by decide) (Nat.le_of_ble_eq_true rfl) ?_
  intro p e s m below meth c ls hC hr hnm hno hsz hw hl
  obtain ⟨hx, hb, hown, hts, hK, hml, hlk, hz⟩ := id hC
  have hl : lv_has ls 4 [(0, .ref md)] := hl
  have hF : xfr M M (mS md am) := xfr.rf
  refine lv_iconst (v := nI 0) hx hb d_M_findWords_0 (by decide) ?_
  refine lv_istore_n (lv' := [(1, .int (nI 0)), (0, .ref md)]) hx hb d_M_findWords_1 rfl hl (by decide) rfl (fun ls hl => ?_)
  have HL2 : ∀ (z2 k : Nat) (nuL1 : Nat → Nat → Nat) (sgL2 : Nat → Nat → Int32), k ≤ nu 29 0 → nu 29 0 + 1 ≤ k + z2 → (∀ j, j < k → sgL2 31 j = zI (iwU nu sg (sg 30) (nu 29 0) 0 0 j)) → ∀ (M1 : xMem), mRep G M1 md am nuL1 sgL2 → eqx [] nu nuL1 → eqx [31] sg sgL2 → xfr M M1 (mS md am) → ∀ (H : Heap) (locs : List Loc) (ls : Array Slot), xWd G (xA M sz) s.heap M1 H locs → lv_has ls 4 [(0, .ref md), (1, .int (nI k))] → W p l e { frames := 1, cells := 0, slots := 0, locals := 25 } s m ([.ref md] : List Value).toArray below meth c H locs 0 0 (xMQ below G M sz (fun v M' => v = none ∧ ∃ (nu' : Nat → Nat → Nat) (sg' : Nat → Nat → Int32), mRep G M' md am nu' sg' ∧ eqx [] nu nu' ∧ eqx [31] sg sg' ∧ xfr M M' (mS md am) ∧ ∀ k, k < nu 29 0 → sg' 31 k = zI (iwP nu sg (sg 30) (nu 29 0) k)) (fun _ _ => False) s 0 0) (F0 m 2 ls []) := by
    intro z2
    induction z2 with
    | zero =>
      intro k  nuL1 sgL2 h1 h2
      omega
    | succ z2 ih2 =>
      intro k  nuL1 sgL2 hi2 hz2 hg M1 hR hnuL1 hsgL2 hF H locs ls hw hl
      refine lv_iload_n hx hb d_M_findWords_2 rfl (lv_at hl 1 rfl) ?_
      refine lv_aload_n hx hb d_M_findWords_3 rfl (lv_at hl 0 rfl) ?_
      refine x_get hC hw hR.1 rfl 29 (by decide) (hts _ k_763) (fun _ h9 => h9) rfl d_M_findWords_4 ?_
      refine x_vi (y := nI (nu 29 0)) (by rw [hnuL1 29 (by decide)]) ?_
      refine lv_icmp_ge (tgt := 23) hx hb d_M_findWords_7 (by decide) (fun c_7 => ?_) (fun c_7 => ?_)
      · have c_7 := (nI_leI (by omega) (by omega)).mp c_7
        refine lv_iconst (v := nI 0) hx hb d_M_findWords_23 (by decide) ?_
        refine lv_istore_n (lv' := [(1, .int (nI 0)), (0, .ref md)]) hx hb d_M_findWords_24 rfl hl (by decide) rfl (fun ls hl => ?_)
        have HL25 : ∀ (z25 w : Nat) (nuL3 : Nat → Nat → Nat) (sgL4 : Nat → Nat → Int32), w ≤ nu 12 0 → nu 12 0 + 1 ≤ w + z25 → (∀ j, j < nu 29 0 → sgL4 31 j = zI (iwU nu sg (sg 30) (nu 29 0) w 0 j)) → ∀ (M1 : xMem), mRep G M1 md am nuL3 sgL4 → eqx [] nuL1 nuL3 → eqx [31] sgL2 sgL4 → xfr M M1 (mS md am) → ∀ (H : Heap) (locs : List Loc) (ls : Array Slot), xWd G (xA M sz) s.heap M1 H locs → lv_has ls 4 [(0, .ref md), (1, .int (nI w))] → W p l e { frames := 1, cells := 0, slots := 0, locals := 25 } s m ([.ref md] : List Value).toArray below meth c H locs 0 0 (xMQ below G M sz (fun v M' => v = none ∧ ∃ (nu' : Nat → Nat → Nat) (sg' : Nat → Nat → Int32), mRep G M' md am nu' sg' ∧ eqx [] nu nu' ∧ eqx [31] sg sg' ∧ xfr M M' (mS md am) ∧ ∀ k, k < nu 29 0 → sg' 31 k = zI (iwP nu sg (sg 30) (nu 29 0) k)) (fun _ _ => False) s 0 0) (F0 m 25 ls []) := by
          intro z25
          induction z25 with
          | zero =>
            intro w  nuL3 sgL4 h1 h2
            omega
          | succ z25 ih25 =>
            intro w  nuL3 sgL4 hi25 hz25 hg M1 hR hnuL3 hsgL4 hF H locs ls hw hl
            refine lv_iload_n hx hb d_M_findWords_25 rfl (lv_at hl 1 rfl) ?_
            refine lv_aload_n hx hb d_M_findWords_26 rfl (lv_at hl 0 rfl) ?_
            refine x_get hC hw hR.1 rfl 12 (by decide) (hts _ k_746) (fun _ h9 => h9) rfl d_M_findWords_27 ?_
            refine x_vi (y := nI (nu 12 0)) (by rw [hnuL3 12 (by decide), hnuL1 12 (by decide)]) ?_
            refine lv_icmp_ge (tgt := 91) hx hb d_M_findWords_30 (by decide) (fun c_30 => ?_) (fun c_30 => ?_)
            · have c_30 := (nI_leI (by omega) (by omega)).mp c_30
              exact x_vret hC hr hw (⟨rfl, nuL3, sgL4, hR, (eqx.trans (L := []) (eqx.trans (L := []) (eqx.rf (L := [])) hnuL1 (by decide) (by decide)) hnuL3 (by decide) (by decide)), (eqx.trans (L := [31]) (eqx.trans (L := [31]) (eqx.rf (L := [31])) hsgL2 (by decide) (by decide)) hsgL4 (by decide) (by decide)), hF, fun j hj => (hg j hj).trans (zI_c (by rw [show w = nu 12 0 by omega]; exact iwU_end))⟩) (Nat.le_of_ble_eq_true rfl) (Nat.le_of_ble_eq_true rfl) d_M_findWords_91
            · have c_30 := Nat.not_le.mp ((not_congr (nI_leI (by omega) (by omega))).mp c_30)
              refine lv_iconst (v := nI 0) hx hb d_M_findWords_33 (by decide) ?_
              refine lv_istore_n (lv' := [(2, .int (nI 0)), (0, .ref md), (1, .int (nI w))]) hx hb d_M_findWords_34 rfl hl (by decide) rfl (fun ls hl => ?_)
              have HL35 : ∀ (z35 q : Nat) (nuL5 : Nat → Nat → Nat) (sgL6 : Nat → Nat → Int32), q ≤ nu 29 0 → nu 29 0 + 1 ≤ q + z35 → (∀ j, j < nu 29 0 → sgL6 31 j = zI (iwU nu sg (sg 30) (nu 29 0) w q j)) → ∀ (M1 : xMem), mRep G M1 md am nuL5 sgL6 → eqx [] nuL3 nuL5 → eqx [31] sgL4 sgL6 → xfr M M1 (mS md am) → ∀ (H : Heap) (locs : List Loc) (ls : Array Slot), xWd G (xA M sz) s.heap M1 H locs → lv_has ls 4 [(0, .ref md), (1, .int (nI w)), (2, .int (nI q))] → W p l e { frames := 1, cells := 0, slots := 0, locals := 25 } s m ([.ref md] : List Value).toArray below meth c H locs 0 0 (xMQ below G M sz (fun v M' => v = none ∧ ∃ (nu' : Nat → Nat → Nat) (sg' : Nat → Nat → Int32), mRep G M' md am nu' sg' ∧ eqx [] nu nu' ∧ eqx [31] sg sg' ∧ xfr M M' (mS md am) ∧ ∀ k, k < nu 29 0 → sg' 31 k = zI (iwP nu sg (sg 30) (nu 29 0) k)) (fun _ _ => False) s 0 0) (F0 m 35 ls []) := by
                intro z35
                induction z35 with
                | zero =>
                  intro q  nuL5 sgL6 h1 h2
                  omega
                | succ z35 ih35 =>
                  intro q  nuL5 sgL6 hi35 hz35 hg M1 hR hnuL5 hsgL6 hF H locs ls hw hl
                  refine lv_iload_n hx hb d_M_findWords_35 rfl (lv_at hl 2 rfl) ?_
                  refine lv_aload_n hx hb d_M_findWords_36 rfl (lv_at hl 0 rfl) ?_
                  refine x_get hC hw hR.1 rfl 29 (by decide) (hts _ k_763) (fun _ h9 => h9) rfl d_M_findWords_37 ?_
                  refine x_vi (y := nI (nu 29 0)) (by rw [hnuL5 29 (by decide), hnuL3 29 (by decide), hnuL1 29 (by decide)]) ?_
                  refine lv_icmp_ge (tgt := 85) hx hb d_M_findWords_40 (by decide) (fun c_40 => ?_) (fun c_40 => ?_)
                  · have c_40 := (nI_leI (by omega) (by omega)).mp c_40
                    refine lv_iinc (v := nI (w + 1)) (lv' := [(1, .int (nI (w + 1))), (0, .ref md), (2, .int (nI q))]) hx hb d_M_findWords_85 hl (k := 1) rfl (by exact nI_1 _) (by decide) rfl (fun ls hl => ?_)
                    refine lv_goto (tgt := 25) hx hb d_M_findWords_88 (by decide) ?_
                    exact ih25 (w + 1)  nuL5 sgL6 (by omega) (by omega) (fun j hj => (hg j hj).trans (zI_c (by rw [show q = nu 29 0 by omega]; exact iwU_row))) _ hR (eqx.trans (L := []) (eqx.trans (L := []) (eqx.rf (L := [])) hnuL3 (by decide) (by decide)) hnuL5 (by decide) (by decide)) (eqx.trans (L := [31]) (eqx.trans (L := [31]) (eqx.rf (L := [31])) hsgL4 (by decide) (by decide)) hsgL6 (by decide) (by decide)) hF _ _ _ hw (lv_sub hl [1, 0] rfl)
                  · have c_40 := Nat.not_le.mp ((not_congr (nI_leI (by omega) (by omega))).mp c_40)
                    refine lv_iconst (v := nI 0) hx hb d_M_findWords_43 (by decide) ?_
                    refine lv_istore_n (lv' := [(3, .int (nI 0)), (0, .ref md), (1, .int (nI w)), (2, .int (nI q))]) hx hb d_M_findWords_44 rfl hl (by decide) rfl (fun ls hl => ?_)
                    have HL45 : ∀ (z45 k : Nat) (nuL7 : Nat → Nat → Nat) (sgL8 : Nat → Nat → Int32), k ≤ nu 13 w → nu 13 w + 1 ≤ k + z45 → (∀ j, j < nu 29 0 → sgL8 31 j = zI (iwU nu sg (sg 30) (nu 29 0) w q j ∨ (stP nu sg (sg 30) (nu 29 0) w q ∧ q ≤ j ∧ j < q + k))) → ∀ (M1 : xMem), mRep G M1 md am nuL7 sgL8 → eqx [] nuL5 nuL7 → eqx [31] sgL6 sgL8 → xfr M M1 (mS md am) → ∀ (H : Heap) (locs : List Loc) (ls : Array Slot), xWd G (xA M sz) s.heap M1 H locs → lv_has ls 4 [(0, .ref md), (1, .int (nI w)), (2, .int (nI q)), (3, .int (nI k))] → W p l e { frames := 1, cells := 0, slots := 0, locals := 25 } s m ([.ref md] : List Value).toArray below meth c H locs 0 0 (xMQ below G M sz (fun v M' => v = none ∧ ∃ (nu' : Nat → Nat → Nat) (sg' : Nat → Nat → Int32), mRep G M' md am nu' sg' ∧ eqx [] nu nu' ∧ eqx [31] sg sg' ∧ xfr M M' (mS md am) ∧ ∀ k, k < nu 29 0 → sg' 31 k = zI (iwP nu sg (sg 30) (nu 29 0) k)) (fun _ _ => False) s 0 0) (F0 m 45 ls []) := by
                      intro z45
                      induction z45 with
                      | zero =>
                        intro k  nuL7 sgL8 h1 h2
                        omega
                      | succ z45 ih45 =>
                        intro k  nuL7 sgL8 hi45 hz45 hg M1 hR hnuL7 hsgL8 hF H locs ls hw hl
                        have h8w := h8 w (by omega)
                        refine lv_iload_n hx hb d_M_findWords_45 rfl (lv_at hl 3 rfl) ?_
                        refine lv_aload_n hx hb d_M_findWords_46 rfl (lv_at hl 0 rfl) ?_
                        refine x_get hC hw hR.1 rfl 13 (by decide) (hts _ k_747) (fun _ h9 => h9) rfl d_M_findWords_47 ?_
                        refine lv_iload_n hx hb d_M_findWords_50 rfl (lv_at hl 1 rfl) ?_
                        refine m_ldN hC hw hR 13 w rfl (rfl) (by show _ < 4; omega) (by decide) d_M_findWords_51 ?_
                        refine x_vi (y := nI (nu 13 w)) (by rw [hnuL7 13 (by decide), hnuL5 13 (by decide), hnuL3 13 (by decide), hnuL1 13 (by decide)]) ?_
                        refine lv_icmp_ge (tgt := 79) hx hb d_M_findWords_52 (by decide) (fun c_52 => ?_) (fun c_52 => ?_)
                        · have c_52 := (nI_leI (by omega) (by omega)).mp c_52
                          refine lv_iinc (v := nI (q + 1)) (lv' := [(2, .int (nI (q + 1))), (0, .ref md), (1, .int (nI w)), (3, .int (nI k))]) hx hb d_M_findWords_79 hl (k := 2) rfl (by exact nI_1 _) (by decide) rfl (fun ls hl => ?_)
                          refine lv_goto (tgt := 35) hx hb d_M_findWords_82 (by decide) ?_
                          exact ih35 (q + 1)  nuL7 sgL8 (by omega) (by omega) (fun j hj => (hg j hj).trans (zI_c (Iff.trans (by rw [show k = nu 13 w by omega]) (iwU_next (by omega))))) _ hR (eqx.trans (L := []) (eqx.trans (L := []) (eqx.rf (L := [])) hnuL5 (by decide) (by decide)) hnuL7 (by decide) (by decide)) (eqx.trans (L := [31]) (eqx.trans (L := [31]) (eqx.rf (L := [31])) hsgL6 (by decide) (by decide)) hsgL8 (by decide) (by decide)) hF _ _ _ hw (lv_sub hl [1, 2, 0] rfl)
                        · have c_52 := Nat.not_le.mp ((not_congr (nI_leI (by omega) (by omega))).mp c_52)
                          refine lv_aload_n hx hb d_M_findWords_55 rfl (lv_at hl 0 rfl) ?_
                          refine lv_iload_n hx hb d_M_findWords_56 rfl (lv_at hl 1 rfl) ?_
                          refine lv_iload_n hx hb d_M_findWords_57 rfl (lv_at hl 2 rfl) ?_
                          have h8w := h8 w (by omega)
                          refine x_callG hC (c_M_stands l G M1 (Array.size H) md am nuL7 sgL8 hR w q (by omega) (by rw [hnuL7 13 (by decide), hnuL5 13 (by decide), hnuL3 13 (by decide), hnuL1 13 (by decide)]; exact h8w) (by omega) (by rw [hnuL7 29 (by decide), hnuL5 29 (by decide), hnuL3 29 (by decide), hnuL1 29 (by decide)]; exact hs)) k_902 k_13 ⟨Nat.le_of_ble_eq_true rfl, Nat.le_of_ble_eq_true rfl⟩ ⟨Nat.le_of_ble_eq_true rfl, Nat.le_of_ble_eq_true rfl⟩ hw hl.1 (Nat.le_of_ble_eq_true rfl) d_M_findWords_58 (x_ivV hC k_902 k_899 k_901 kp_27 (show _ ∧ _ ∧ _ = some 2 from by decide +kernel) (x_recv hC hw hR.1 rfl) rfl d_M_findWords_58) (fun rv M9 H locs hq hw => ?_) (fun _ _ _ _ _ h _ _ => h.elim)
                          obtain ⟨rfl, hM⟩ := hq
                          subst M9
                          refine W.eq (g2 := F0 m 61 ls [.int (zI (stP nuL7 sgL8 (sgL8 30) (nuL7 29 0) w q))]) rfl ?_
                          refine x_vi (y := zI (stP nu sg (sg 30) (nu 29 0) w q)) (by unfold stP; rw [hnuL7 13 (by decide), hnuL5 13 (by decide), hnuL3 13 (by decide), hnuL1 13 (by decide), hnuL7 29 (by decide), hnuL5 29 (by decide), hnuL3 29 (by decide), hnuL1 29 (by decide), hsgL8 30 (by decide), hsgL6 30 (by decide), hsgL4 30 (by decide), hsgL2 30 (by decide), hsgL8 14 (by decide), hsgL6 14 (by decide), hsgL4 14 (by decide), hsgL2 14 (by decide)]) ?_
                          refine lv_if_eq (tgt := 79) hx hb d_M_findWords_61 (by decide) (fun c_61 => ?_) (fun c_61 => ?_)
                          · have c_61 := zI_0.mp c_61
                            refine lv_iinc (v := nI (q + 1)) (lv' := [(2, .int (nI (q + 1))), (0, .ref md), (1, .int (nI w)), (3, .int (nI k))]) hx hb d_M_findWords_79 hl (k := 2) rfl (by exact nI_1 _) (by decide) rfl (fun ls hl => ?_)
                            refine lv_goto (tgt := 35) hx hb d_M_findWords_82 (by decide) ?_
                            exact ih35 (q + 1)  nuL7 sgL8 (by omega) (by omega) (fun j hj => (hg j hj).trans (zI_c (Iff.trans ⟨fun h => h.elim Or.inl (fun z => absurd z.1 c_61), fun h => h.elim Or.inl (fun z => absurd z.1 c_61)⟩ (iwU_next (by omega))))) _ hR (eqx.trans (L := []) (eqx.trans (L := []) (eqx.rf (L := [])) hnuL5 (by decide) (by decide)) hnuL7 (by decide) (by decide)) (eqx.trans (L := [31]) (eqx.trans (L := [31]) (eqx.rf (L := [31])) hsgL6 (by decide) (by decide)) hsgL8 (by decide) (by decide)) hF _ _ _ hw (lv_sub hl [1, 2, 0] rfl)
                          · have c_61 := zI_1.mp c_61
                            have b1 := c_61.2.1
                            refine lv_aload_n hx hb d_M_findWords_64 rfl (lv_at hl 0 rfl) ?_
                            refine x_get hC hw hR.1 rfl 31 (by decide) (hts _ k_765) (fun _ h9 => h9) rfl d_M_findWords_65 ?_
                            refine lv_iload_n hx hb d_M_findWords_68 rfl (lv_at hl 2 rfl) ?_
                            refine lv_iload_n hx hb d_M_findWords_69 rfl (lv_at hl 3 rfl) ?_
                            refine lv_iadd hx hb d_M_findWords_70 ?_
                            refine x_vi (y := nI (q + k)) (nI_add _ _) ?_
                            refine lv_iconst (v := nI 1) hx hb d_M_findWords_71 (by decide) ?_
                            refine m_stZ hC hw hR hF 31 (q + k) rfl True ((zI_t trivial).symm) (rfl) (by show _ < 60; omega) (by decide) d_M_findWords_72 (fun M10 H locs sg11 hsg11 esg11 hR hF hw => ?_)
                            refine lv_iinc (v := nI (k + 1)) (lv' := [(3, .int (nI (k + 1))), (0, .ref md), (1, .int (nI w)), (2, .int (nI q))]) hx hb d_M_findWords_73 hl (k := 3) rfl (by exact nI_1 _) (by decide) rfl (fun ls hl => ?_)
                            refine lv_goto (tgt := 45) hx hb d_M_findWords_76 (by decide) ?_
                            exact ih45 (k + 1)  nuL7 sg11 (by omega) (by omega) (x_fw4 hg esg11 c_61) _ hR (eqx.trans (L := []) (eqx.rf (L := [])) hnuL7 (by decide) (by decide)) (eqx.trans (L := [31]) (eqx.trans (L := [31]) (eqx.rf (L := [31])) hsgL8 (by decide) (by decide)) hsg11 (by decide) (by decide)) hF _ _ _ hw (lv_sub hl [1, 2, 3, 0] rfl)
                    exact HL45 (nu 13 w + 1) (0)  nuL5 sgL6 (by omega) (by omega) (fun j hj => (hg j hj).trans (zI_c ⟨Or.inl, fun h => h.elim id (fun z => by omega)⟩)) _ hR eqx.rf eqx.rf hF _ _ _ hw (lv_sub hl [1, 2, 3, 0] rfl)
              exact HL35 (nu 29 0 + 1) (0)  nuL3 sgL4 (by omega) (by omega) (hg) _ hR eqx.rf eqx.rf hF _ _ _ hw (lv_sub hl [1, 2, 0] rfl)
        exact HL25 (nu 12 0 + 1) (0)  nuL1 sgL2 (by omega) (by omega) (fun j hj => hg j (by omega)) _ hR eqx.rf eqx.rf hF _ _ _ hw (lv_sub hl [1, 0] rfl)
      · have c_7 := Nat.not_le.mp ((not_congr (nI_leI (by omega) (by omega))).mp c_7)
        refine lv_aload_n hx hb d_M_findWords_10 rfl (lv_at hl 0 rfl) ?_
        refine x_get hC hw hR.1 rfl 31 (by decide) (hts _ k_765) (fun _ h9 => h9) rfl d_M_findWords_11 ?_
        refine lv_iload_n hx hb d_M_findWords_14 rfl (lv_at hl 1 rfl) ?_
        refine lv_iconst (v := nI 0) hx hb d_M_findWords_15 (by decide) ?_
        refine m_stZ hC hw hR hF 31 k rfl False ((zI_f id).symm) (rfl) (by show _ < 60; omega) (by decide) d_M_findWords_16 (fun M12 H locs sg13 hsg13 esg13 hR hF hw => ?_)
        refine lv_iinc (v := nI (k + 1)) (lv' := [(1, .int (nI (k + 1))), (0, .ref md)]) hx hb d_M_findWords_17 hl (k := 1) rfl (by exact nI_1 _) (by decide) rfl (fun ls hl => ?_)
        refine lv_goto (tgt := 2) hx hb d_M_findWords_20 (by decide) ?_
        exact ih2 (k + 1)  nuL1 sg13 (by omega) (by omega) (x_upS (f := fun j => zI (iwU nu sg (sg 30) (nu 29 0) 0 0 j)) hg esg13 (zI_c ⟨fun h => h.elim, fun h => absurd h iwU_0⟩)) _ hR (eqx.trans (L := []) (eqx.rf (L := [])) hnuL1 (by decide) (by decide)) (eqx.trans (L := [31]) (eqx.trans (L := [31]) (eqx.rf (L := [31])) hsgL2 (by decide) (by decide)) hsg13 (by decide) (by decide)) hF _ _ _ hw (lv_sub hl [1, 0] rfl)
  exact HL2 (nu 29 0 + 1) (0)  nu sg (by omega) (by omega) (fun j hj => absurd hj (Nat.not_lt_zero j)) _ hR eqx.rf eqx.rf hF _ _ _ hw (lv_sub hl [1, 0] rfl)

set_option maxHeartbeats 1000000 in
set_option maxRecDepth 100000 in
/-- digit -/
theorem c_M_digit (l : Launch) (G : xT) (M : xMem) (sz : Nat)  (b : Int32) : xMet l G y_M_digit (Cond.code y_M_digit b_M_digit 1 (Option.some Jvm.ClassFile.FieldType.int) :: x_tbl) { frames := 1, cells := 0, slots := 0, locals := 25 } [.int b] M sz (fun v M' => v = some (.int (dgI b)) ∧ M' = M) (fun _ _ => False) := by
  refine xMet.of (by decide) (Nat.le_of_ble_eq_true rfl) ?_
  intro p e s m below meth c ls hC hr hnm hno hsz hw hl
  obtain ⟨hx, hb, hown, hts, hK, hml, hlk, hz⟩ := id hC
  have hl : lv_has ls 1 [(0, .int b)] := hl
  refine lv_iload_n hx hb d_M_digit_0 rfl (lv_at hl 0 rfl) ?_
  refine lv_bipush (v := nI 48) hx hb d_M_digit_1 (by decide) ?_
  refine lv_bipush (v := nI 57) hx hb d_M_digit_3 (by decide) ?_
  refine x_callG hC (c_M_in l G M (Array.size s.heap) b (nI 48) (nI 57)) k_842 k_13 ⟨Nat.le_of_ble_eq_true rfl, Nat.le_of_ble_eq_true rfl⟩ ⟨Nat.le_of_ble_eq_true rfl, Nat.le_of_ble_eq_true rfl⟩ hw hl.1 (Nat.le_of_ble_eq_true rfl) d_M_digit_5 (x_ivS hC k_842 k_840 k_841 k_13 (show _ ∧ _ ∧ _ = some 3 from by decide +kernel) rfl d_M_digit_5) (fun rv M1 H locs hq hw => ?_) (fun _ _ _ _ _ h _ _ => h.elim)
  obtain ⟨rfl, hM⟩ := hq
  subst M1
  refine W.eq (g2 := F0 m 8 ls [.int (zI (inP b (nI 48) (nI 57)))]) rfl ?_
  refine lv_if_eq (tgt := 16) hx hb d_M_digit_8 (by decide) (fun c_8 => ?_) (fun c_8 => ?_)
  · have c_8 := zI_0.mp c_8
    have c_8 : ¬ (¬ b < nI 48 ∧ ¬ b > nI 57) := c_8
    refine lv_iload_n hx hb d_M_digit_16 rfl (lv_at hl 0 rfl) ?_
    refine lv_bipush (v := nI 65) hx hb d_M_digit_17 (by decide) ?_
    refine lv_bipush (v := nI 70) hx hb d_M_digit_19 (by decide) ?_
    refine x_callG hC (c_M_in l G M (Array.size H) b (nI 65) (nI 70)) k_842 k_13 ⟨Nat.le_of_ble_eq_true rfl, Nat.le_of_ble_eq_true rfl⟩ ⟨Nat.le_of_ble_eq_true rfl, Nat.le_of_ble_eq_true rfl⟩ hw hl.1 (Nat.le_of_ble_eq_true rfl) d_M_digit_21 (x_ivS hC k_842 k_840 k_841 k_13 (show _ ∧ _ ∧ _ = some 3 from by decide +kernel) rfl d_M_digit_21) (fun rv M2 H locs hq hw => ?_) (fun _ _ _ _ _ h _ _ => h.elim)
    obtain ⟨rfl, hM⟩ := hq
    subst M2
    refine W.eq (g2 := F0 m 24 ls [.int (zI (inP b (nI 65) (nI 70)))]) rfl ?_
    refine lv_if_eq (tgt := 35) hx hb d_M_digit_24 (by decide) (fun c_24 => ?_) (fun c_24 => ?_)
    · have c_24 := zI_0.mp c_24
      have c_24 : ¬ (¬ b < nI 65 ∧ ¬ b > nI 70) := c_24
      refine lv_iload_n hx hb d_M_digit_35 rfl (lv_at hl 0 rfl) ?_
      refine lv_bipush (v := nI 97) hx hb d_M_digit_36 (by decide) ?_
      refine lv_bipush (v := nI 102) hx hb d_M_digit_38 (by decide) ?_
      refine x_callG hC (c_M_in l G M (Array.size H) b (nI 97) (nI 102)) k_842 k_13 ⟨Nat.le_of_ble_eq_true rfl, Nat.le_of_ble_eq_true rfl⟩ ⟨Nat.le_of_ble_eq_true rfl, Nat.le_of_ble_eq_true rfl⟩ hw hl.1 (Nat.le_of_ble_eq_true rfl) d_M_digit_40 (x_ivS hC k_842 k_840 k_841 k_13 (show _ ∧ _ ∧ _ = some 3 from by decide +kernel) rfl d_M_digit_40) (fun rv M3 H locs hq hw => ?_) (fun _ _ _ _ _ h _ _ => h.elim)
      obtain ⟨rfl, hM⟩ := hq
      subst M3
      refine W.eq (g2 := F0 m 43 ls [.int (zI (inP b (nI 97) (nI 102)))]) rfl ?_
      refine lv_if_eq (tgt := 56) hx hb d_M_digit_43 (by decide) (fun c_43 => ?_) (fun c_43 => ?_)
      · have c_43 := zI_0.mp c_43
        have c_43 : ¬ (¬ b < nI 97 ∧ ¬ b > nI 102) := c_43
        refine lv_iconst (v := (-1)) hx hb d_M_digit_56 (by decide) ?_
        exact x_iret hC hr hw (⟨congrArg (fun z => some (Value.int z)) (by unfold dgI; rw [if_neg c_8, if_neg c_24, if_neg c_43]), rfl⟩) (Nat.le_of_ble_eq_true rfl) (Nat.le_of_ble_eq_true rfl) d_M_digit_57
      · have c_43 := zI_1.mp c_43
        have c_43 : ¬ b < nI 97 ∧ ¬ b > nI 102 := c_43
        refine lv_iload_n hx hb d_M_digit_46 rfl (lv_at hl 0 rfl) ?_
        refine lv_bipush (v := nI 97) hx hb d_M_digit_47 (by decide) ?_
        refine lv_isub hx hb d_M_digit_49 ?_
        refine lv_bipush (v := nI 10) hx hb d_M_digit_50 (by decide) ?_
        refine lv_iadd hx hb d_M_digit_52 ?_
        refine lv_goto (tgt := 57) hx hb d_M_digit_53 (by decide) ?_
        exact x_iret hC hr hw (⟨congrArg (fun z => some (Value.int z)) (by unfold dgI; rw [if_neg c_8, if_neg c_24, if_pos c_43]), rfl⟩) (Nat.le_of_ble_eq_true rfl) (Nat.le_of_ble_eq_true rfl) d_M_digit_57
    · have c_24 := zI_1.mp c_24
      have c_24 : ¬ b < nI 65 ∧ ¬ b > nI 70 := c_24
      refine lv_iload_n hx hb d_M_digit_27 rfl (lv_at hl 0 rfl) ?_
      refine lv_bipush (v := nI 65) hx hb d_M_digit_28 (by decide) ?_
      refine lv_isub hx hb d_M_digit_30 ?_
      refine lv_bipush (v := nI 10) hx hb d_M_digit_31 (by decide) ?_
      refine lv_iadd hx hb d_M_digit_33 ?_
      exact x_iret hC hr hw (⟨congrArg (fun z => some (Value.int z)) (by unfold dgI; rw [if_neg c_8, if_pos c_24]), rfl⟩) (Nat.le_of_ble_eq_true rfl) (Nat.le_of_ble_eq_true rfl) d_M_digit_34
  · have c_8 := zI_1.mp c_8
    have c_8 : ¬ b < nI 48 ∧ ¬ b > nI 57 := c_8
    refine lv_iload_n hx hb d_M_digit_11 rfl (lv_at hl 0 rfl) ?_
    refine lv_bipush (v := nI 48) hx hb d_M_digit_12 (by decide) ?_
    refine lv_isub hx hb d_M_digit_14 ?_
    exact x_iret hC hr hw (⟨congrArg (fun z => some (Value.int z)) (by unfold dgI; rw [if_pos c_8]), rfl⟩) (Nat.le_of_ble_eq_true rfl) (Nat.le_of_ble_eq_true rfl) d_M_digit_15

set_option maxHeartbeats 1000000 in
set_option maxRecDepth 100000 in
/-- hex -/
theorem c_M_hex (l : Launch) (G : xT) (M : xMem) (sz : Nat)  (d : Nat) (hd : d < 16) : xMet l G y_M_hex (Cond.code y_M_hex b_M_hex 1 (Option.some Jvm.ClassFile.FieldType.int) :: x_tbl) { frames := 0, cells := 0, slots := 0, locals := 0 } [.int (nI d)] M sz (fun v M' => v = some (.int (nI (hxN d))) ∧ M' = M) (fun _ _ => False) := by
  refine xMet.of (by decide) (Nat.le_of_ble_eq_true rfl) ?_
  intro p e s m below meth c ls hC hr hnm hno hsz hw hl
  obtain ⟨hx, hb, hown, hts, hK, hml, hlk, hz⟩ := id hC
  have hl : lv_has ls 1 [(0, .int (nI d))] := hl
  refine lv_iload_n hx hb d_M_hex_0 rfl (lv_at hl 0 rfl) ?_
  refine lv_bipush (v := nI 10) hx hb d_M_hex_1 (by decide) ?_
  refine lv_icmp_ge (tgt := 13) hx hb d_M_hex_3 (by decide) (fun c_3 => ?_) (fun c_3 => ?_)
  · have c_3 := (nI_leI (by omega) (by omega)).mp c_3
    refine lv_bipush (v := nI 65) hx hb d_M_hex_13 (by decide) ?_
    refine lv_iload_n hx hb d_M_hex_15 rfl (lv_at hl 0 rfl) ?_
    refine lv_iadd hx hb d_M_hex_16 ?_
    refine x_vi (y := nI (65 + d)) (nI_add _ _) ?_
    refine lv_bipush (v := nI 10) hx hb d_M_hex_17 (by decide) ?_
    refine lv_isub hx hb d_M_hex_19 ?_
    exact x_iret hC hr hw (⟨congrArg (fun z => some (Value.int z)) (by unfold hxN; rw [if_neg (by omega), x_sub (by omega)]; congr 1; omega), rfl⟩) (Nat.le_of_ble_eq_true rfl) (Nat.le_of_ble_eq_true rfl) d_M_hex_20
  · have c_3 := Nat.not_le.mp ((not_congr (nI_leI (by omega) (by omega))).mp c_3)
    refine lv_bipush (v := nI 48) hx hb d_M_hex_6 (by decide) ?_
    refine lv_iload_n hx hb d_M_hex_8 rfl (lv_at hl 0 rfl) ?_
    refine lv_iadd hx hb d_M_hex_9 ?_
    refine x_vi (y := nI (48 + d)) (nI_add _ _) ?_
    refine lv_goto (tgt := 20) hx hb d_M_hex_10 (by decide) ?_
    exact x_iret hC hr hw (⟨congrArg (fun z => some (Value.int z)) (by unfold hxN; rw [if_pos c_3]), rfl⟩) (Nat.le_of_ble_eq_true rfl) (Nat.le_of_ble_eq_true rfl) d_M_hex_20
