theorem x_mk {P : Nat → Prop} {f g g1 : Nat → Int32} {to k : Nat} (h : (∀ j, j < k → g (to + j) = zI (P j)) ∧ ∀ j, j < to ∨ to + 40 ≤ j → g j = f j) (_ : k ≤ 40) (hk : k < 40) (e : g1 = va_up g (to + k) (zI (P k))) : (∀ j, j < k + 1 → g1 (to + j) = zI (P j)) ∧ ∀ j, j < to ∨ to + 40 ≤ j → g1 j = f j := by
  rw [e]
  refine ⟨fun j hj => ?_, fun j hj => ?_⟩
  · by_cases hz : j = k
    · rw [hz, va_up_self]
    · rw [va_up_ne _ _ (by omega)]
      exact h.1 j (by omega)
  · rw [va_up_ne _ _ (by omega)]
    exact h.2 j hj
set_option maxHeartbeats 1000000 in
set_option maxRecDepth 100000 in
/-- mark -/
theorem c_M_mark (l : Launch) (G : xT) (M : xMem) (sz : Nat) (md : Nat) (am : Nat → Nat) (nu : Nat → Nat → Nat) (sg : Nat → Nat → Int32) (hR : mRep G M md am nu sg) (r to : Nat) (pg dx dy : Int32) (hr24 : r < 24) (hto : to ≤ 600) (hs : nu 1 r ≤ 40) (h4 : nu 12 0 ≤ 4) (h8 : ∀ w, w < nu 12 0 → nu 13 w ≤ 8) (ha8 : nu 15 0 ≤ 8) : xMet l G y_M_mark (Cond.code y_M_mark b_M_mark 8 (Option.some Jvm.ClassFile.FieldType.int) :: x_tbl) { frames := 2, cells := 0, slots := 0, locals := 48 } [.ref md, .int (nI r), .int pg, .int dx, .int dy, .int (nI to)] M sz (fun v M' => v = some (.int (nI (cnt (mkP nu sg r pg dx dy) 40))) ∧ ∃ (nu' : Nat → Nat → Nat) (sg' : Nat → Nat → Int32), mRep G M' md am nu' sg' ∧ eqx [29] nu nu' ∧ eqx [27, 30, 31] sg sg' ∧ xfr M M' (mS md am) ∧ (∀ j, j < 40 → sg' 27 (to + j) = zI (mkP nu sg r pg dx dy j)) ∧ ∀ j, j < to ∨ to + 40 ≤ j → sg' 27 j = sg 27 j) (fun _ _ => False) := by
  refine xMet.of (by decide) (Nat.le_of_ble_eq_true rfl) ?_
  intro p e s m below meth c ls hC hr hnm hno hsz hw hl
  obtain ⟨hx, hb, hown, hts, hK, hml, hlk, hz⟩ := id hC
  have hl : lv_has ls 8 [(0, .ref md), (1, .int (nI r)), (2, .int pg), (3, .int dx), (4, .int dy), (5, .int (nI to))] := hl
  have hF : xfr M M (mS md am) := xfr.rf
  refine lv_aload_n hx hb d_M_mark_0 rfl (lv_at hl 0 rfl) ?_
  refine lv_iload_n hx hb d_M_mark_1 rfl (lv_at hl 1 rfl) ?_
  refine x_callG hC (c_M_takeRow l G M (Array.size s.heap) md am nu sg hR r hr24 hs) k_894 k_13 ⟨Nat.le_of_ble_eq_true rfl, Nat.le_of_ble_eq_true rfl⟩ ⟨Nat.le_of_ble_eq_true rfl, Nat.le_of_ble_eq_true rfl⟩ hw hl.1 (Nat.le_of_ble_eq_true rfl) d_M_mark_2 (x_ivV hC k_894 k_891 k_893 kp_25 (show _ ∧ _ ∧ _ = some 1 from by decide +kernel) (x_recv hC hw hR.1 rfl) rfl d_M_mark_2) (fun rv M1 H locs hq hw => ?_) (fun _ _ _ _ _ h _ _ => h.elim)
  obtain ⟨rfl, nu2, sg3, hR, hnu2, hsg3, fr, e29, e30⟩ := hq
  have hF := hF.trans fr (fun _ h => Or.inl h)
  refine W.eq (g2 := F0 m 5 ls []) rfl ?_
  refine lv_aload_n hx hb d_M_mark_5 rfl (lv_at hl 0 rfl) ?_
  refine x_callG hC (c_M_findWords l G M1 (Array.size H) md am nu2 sg3 hR (by rw [hnu2 12 (by decide)]; exact h4) (by rw [hnu2 12 (by decide), hnu2 13 (by decide)]; exact h8) (by rw [e29]; exact Nat.le_trans hs (by decide))) k_898 k_13 ⟨Nat.le_of_ble_eq_true rfl, Nat.le_of_ble_eq_true rfl⟩ ⟨Nat.le_of_ble_eq_true rfl, Nat.le_of_ble_eq_true rfl⟩ hw hl.1 (Nat.le_of_ble_eq_true rfl) d_M_mark_6 (x_ivV hC k_898 k_895 k_897 kp_26 (show _ ∧ _ ∧ _ = some 0 from by decide +kernel) (x_recv hC hw hR.1 rfl) rfl d_M_mark_6) (fun rv M4 H locs hq hw => ?_) (fun _ _ _ _ _ h _ _ => h.elim)
  obtain ⟨rfl, nu5, sg6, hR, hnu5, hsg6, fr, e31⟩ := hq
  have hF := hF.trans fr (fun _ h => Or.inl h)
  refine W.eq (g2 := F0 m 9 ls []) rfl ?_
  have e31 : ∀ k, k < nu 1 r → sg6 31 k = zI (iwP nu sg (fun j => sg 2 (40 * r + j)) (nu 1 r) k) := fun k hk => (e31 k (by rw [e29]; exact hk)).trans (zI_c (Iff.trans (iwP_n (nu' := nu2) (sg' := sg3) (nu := nu) (sg := sg) (by rw [hnu2 12 (by decide)]) (by rw [hnu2 13 (by decide)]) (by rw [hsg3 14 (by decide)])) (by rw [e29]; exact iwP_c (fun j hj => e30 j hj))))
  refine lv_iconst (v := nI 0) hx hb d_M_mark_9 (by decide) ?_
  refine lv_istore (lv' := [(6, .int (nI 0)), (0, .ref md), (1, .int (nI r)), (2, .int pg), (3, .int dx), (4, .int dy), (5, .int (nI to))]) hx hb d_M_mark_10 hl (by decide) rfl (fun ls hl => ?_)
  refine lv_iconst (v := nI 0) hx hb d_M_mark_12 (by decide) ?_
  refine lv_istore (lv' := [(7, .int (nI 0)), (6, .int (nI 0)), (0, .ref md), (1, .int (nI r)), (2, .int pg), (3, .int dx), (4, .int dy), (5, .int (nI to))]) hx hb d_M_mark_13 hl (by decide) rfl (fun ls hl => ?_)
  have HL15 : ∀ (z15 k : Nat) (nuL7 : Nat → Nat → Nat) (sgL8 : Nat → Nat → Int32), k ≤ 40 → 40 + 1 ≤ k + z15 → ((∀ j, j < k → sgL8 27 (to + j) = zI (mkP nu sg r pg dx dy j)) ∧ ∀ j, j < to ∨ to + 40 ≤ j → sgL8 27 j = sg 27 j) → ∀ (M1 : xMem), mRep G M1 md am nuL7 sgL8 → eqx [] nu5 nuL7 → eqx [27] sg6 sgL8 → xfr M M1 (mS md am) → ∀ (H : Heap) (locs : List Loc) (ls : Array Slot), xWd G (xA M sz) s.heap M1 H locs → lv_has ls 8 [(0, .ref md), (1, .int (nI r)), (2, .int pg), (3, .int dx), (4, .int dy), (5, .int (nI to)), (6, .int (nI (cnt (mkP nu sg r pg dx dy) k))), (7, .int (nI k))] → W p l e { frames := 2, cells := 0, slots := 0, locals := 48 } s m ([.ref md, .int (nI r), .int pg, .int dx, .int dy, .int (nI to)] : List Value).toArray below meth c H locs 0 0 (xMQ below G M sz (fun v M' => v = some (.int (nI (cnt (mkP nu sg r pg dx dy) 40))) ∧ ∃ (nu' : Nat → Nat → Nat) (sg' : Nat → Nat → Int32), mRep G M' md am nu' sg' ∧ eqx [29] nu nu' ∧ eqx [27, 30, 31] sg sg' ∧ xfr M M' (mS md am) ∧ (∀ j, j < 40 → sg' 27 (to + j) = zI (mkP nu sg r pg dx dy j)) ∧ ∀ j, j < to ∨ to + 40 ≤ j → sg' 27 j = sg 27 j) (fun _ _ => False) s 0 0) (F0 m 15 ls []) := by
    intro z15
    induction z15 with
    | zero =>
      intro k  nuL7 sgL8 h1 h2
      omega
    | succ z15 ih15 =>
      intro k  nuL7 sgL8 hi15 hz15 hg M1 hR hnuL7 hsgL8 hF H locs ls hw hl
      have hc40 := cnt_le (mkP nu sg r pg dx dy) k
      refine lv_iload hx hb d_M_mark_15 (lv_at hl 7 rfl) ?_
      refine lv_bipush (v := nI 40) hx hb d_M_mark_17 (by decide) ?_
      refine lv_icmp_ge (tgt := 114) hx hb d_M_mark_19 (by decide) (fun c_19 => ?_) (fun c_19 => ?_)
      · have c_19 := (nI_leI (by omega) (by omega)).mp c_19
        refine lv_iload hx hb d_M_mark_114 (lv_at hl 6 rfl) ?_
        exact x_iret hC hr hw (⟨by rw [show k = 40 by omega], nuL7, sgL8, hR, (eqx.trans (L := [29]) (eqx.trans (L := [29]) (eqx.trans (L := [29]) (eqx.rf (L := [29])) hnu2 (by decide) (by decide)) hnu5 (by decide) (by decide)) hnuL7 (by decide) (by decide)), (eqx.trans (L := [27, 30, 31]) (eqx.trans (L := [27, 30, 31]) (eqx.trans (L := [27, 30, 31]) (eqx.rf (L := [27, 30, 31])) hsg3 (by decide) (by decide)) hsg6 (by decide) (by decide)) hsgL8 (by decide) (by decide)), hF, fun j hj => hg.1 j (by omega), hg.2⟩) (Nat.le_of_ble_eq_true rfl) (Nat.le_of_ble_eq_true rfl) d_M_mark_116
      · have c_19 := Nat.not_le.mp ((not_congr (nI_leI (by omega) (by omega))).mp c_19)
        refine lv_aload_n hx hb d_M_mark_22 rfl (lv_at hl 0 rfl) ?_
        refine x_get hC hw hR.1 rfl 27 (by decide) (hts _ k_761) (fun _ h9 => h9) rfl d_M_mark_23 ?_
        refine lv_iload hx hb d_M_mark_26 (lv_at hl 5 rfl) ?_
        refine lv_iload hx hb d_M_mark_28 (lv_at hl 7 rfl) ?_
        refine lv_iadd hx hb d_M_mark_30 ?_
        refine x_vi (y := nI (to + k)) (nI_add _ _) ?_
        have J83 : ∀ (H : Heap) (locs : List Loc) (ls : Array Slot), xWd G (xA M sz) s.heap M1 H locs → lv_has ls 8 [(0, .ref md), (1, .int (nI r)), (2, .int pg), (3, .int dx), (4, .int dy), (5, .int (nI to)), (6, .int (nI (cnt (mkP nu sg r pg dx dy) k))), (7, .int (nI k))] → W p l e { frames := 2, cells := 0, slots := 0, locals := 48 } s m ([.ref md, .int (nI r), .int pg, .int dx, .int dy, .int (nI to)] : List Value).toArray below meth c H locs 0 0 (xMQ below G M sz (fun v M' => v = some (.int (nI (cnt (mkP nu sg r pg dx dy) 40))) ∧ ∃ (nu' : Nat → Nat → Nat) (sg' : Nat → Nat → Int32), mRep G M' md am nu' sg' ∧ eqx [29] nu nu' ∧ eqx [27, 30, 31] sg sg' ∧ xfr M M' (mS md am) ∧ (∀ j, j < 40 → sg' 27 (to + j) = zI (mkP nu sg r pg dx dy j)) ∧ ∀ j, j < to ∨ to + 40 ≤ j → sg' 27 j = sg 27 j) (fun _ _ => False) s 0 0) (F0 m 83 ls [.int (zI (mkP nu sg r pg dx dy k)), .int (nI (to + k)), .ref (am 27)]) := by
          intro H locs ls hw hl
          refine m_stZ hC hw hR hF 27 (to + k) rfl (mkP nu sg r pg dx dy k) rfl (rfl) (by show _ < 640; omega) (by decide) d_M_mark_83 (fun M9 H locs sg10 hsg10 esg10 hR hF hw => ?_)
          have J106 : ∀ (H : Heap) (locs : List Loc) (ls : Array Slot), xWd G (xA M sz) s.heap M9 H locs → lv_has ls 8 [(0, .ref md), (1, .int (nI r)), (2, .int pg), (3, .int dx), (4, .int dy), (5, .int (nI to)), (6, .int (nI (cnt (mkP nu sg r pg dx dy) k))), (7, .int (nI k))] → W p l e { frames := 2, cells := 0, slots := 0, locals := 48 } s m ([.ref md, .int (nI r), .int pg, .int dx, .int dy, .int (nI to)] : List Value).toArray below meth c H locs 0 0 (xMQ below G M sz (fun v M' => v = some (.int (nI (cnt (mkP nu sg r pg dx dy) 40))) ∧ ∃ (nu' : Nat → Nat → Nat) (sg' : Nat → Nat → Int32), mRep G M' md am nu' sg' ∧ eqx [29] nu nu' ∧ eqx [27, 30, 31] sg sg' ∧ xfr M M' (mS md am) ∧ (∀ j, j < 40 → sg' 27 (to + j) = zI (mkP nu sg r pg dx dy j)) ∧ ∀ j, j < to ∨ to + 40 ≤ j → sg' 27 j = sg 27 j) (fun _ _ => False) s 0 0) (F0 m 106 ls [.int (nI (cnt (mkP nu sg r pg dx dy) (k + 1)))]) := by
            intro H locs ls hw hl
            refine lv_istore (lv' := [(6, .int (nI (cnt (mkP nu sg r pg dx dy) (k + 1)))), (0, .ref md), (1, .int (nI r)), (2, .int pg), (3, .int dx), (4, .int dy), (5, .int (nI to)), (7, .int (nI k))]) hx hb d_M_mark_106 hl (by decide) rfl (fun ls hl => ?_)
            refine lv_iinc (v := nI (k + 1)) (lv' := [(7, .int (nI (k + 1))), (6, .int (nI (cnt (mkP nu sg r pg dx dy) (k + 1)))), (0, .ref md), (1, .int (nI r)), (2, .int pg), (3, .int dx), (4, .int dy), (5, .int (nI to))]) hx hb d_M_mark_108 hl (k := 7) rfl (by exact nI_1 _) (by decide) rfl (fun ls hl => ?_)
            refine lv_goto (tgt := 15) hx hb d_M_mark_111 (by decide) ?_
            exact ih15 (k + 1)  nuL7 sg10 (by omega) (by omega) (x_mk hg hi15 (by omega) esg10) _ hR (eqx.trans (L := []) (eqx.rf (L := [])) hnuL7 (by decide) (by decide)) (eqx.trans (L := [27]) (eqx.trans (L := [27]) (eqx.rf (L := [27])) hsgL8 (by decide) (by decide)) hsg10 (by decide) (by decide)) hF _ _ _ hw (lv_sub hl [2, 3, 4, 5, 6, 7, 1, 0] rfl)
          refine lv_aload_n hx hb d_M_mark_84 rfl (lv_at hl 0 rfl) ?_
          refine x_get hC hw hR.1 rfl 27 (by decide) (hts _ k_761) (fun _ h9 => h9) rfl d_M_mark_85 ?_
          refine lv_iload hx hb d_M_mark_88 (lv_at hl 5 rfl) ?_
          refine lv_iload hx hb d_M_mark_90 (lv_at hl 7 rfl) ?_
          refine lv_iadd hx hb d_M_mark_92 ?_
          refine x_vi (y := nI (to + k)) (nI_add _ _) ?_
          refine m_ldZ hC hw hR 27 (to + k) rfl (rfl) (by show _ < 640; omega) (by decide) d_M_mark_93 ?_
          refine x_vi (y := zI (mkP nu sg r pg dx dy k)) (by rw [esg10, va_up_self]) ?_
          refine lv_if_eq (tgt := 104) hx hb d_M_mark_94 (by decide) (fun c_94 => ?_) (fun c_94 => ?_)
          · have c_94 := zI_0.mp c_94
            refine lv_iload hx hb d_M_mark_104 (lv_at hl 6 rfl) ?_
            refine x_vi (y := nI (cnt (mkP nu sg r pg dx dy) (k + 1))) (congrArg nI (cnt_f c_94).symm) ?_
            exact J106 _ _ _ hw (lv_sub hl [0, 1, 2, 3, 4, 5, 6, 7] rfl)
          · have c_94 := zI_1.mp c_94
            refine lv_iload hx hb d_M_mark_97 (lv_at hl 6 rfl) ?_
            refine lv_iconst (v := nI 1) hx hb d_M_mark_99 (by decide) ?_
            refine lv_iadd hx hb d_M_mark_100 ?_
            refine x_vi (y := nI ((cnt (mkP nu sg r pg dx dy) k) + 1)) (nI_add _ _) ?_
            refine lv_goto (tgt := 106) hx hb d_M_mark_101 (by decide) ?_
            refine x_vi (y := nI (cnt (mkP nu sg r pg dx dy) (k + 1))) (congrArg nI (cnt_t c_94).symm) ?_
            exact J106 _ _ _ hw (lv_sub hl [0, 1, 2, 3, 4, 5, 6, 7] rfl)
        refine lv_iload hx hb d_M_mark_31 (lv_at hl 7 rfl) ?_
        refine lv_aload_n hx hb d_M_mark_33 rfl (lv_at hl 0 rfl) ?_
        refine x_get hC hw hR.1 rfl 29 (by decide) (hts _ k_763) (fun _ h9 => h9) rfl d_M_mark_34 ?_
        refine x_vi (y := nI (nu 1 r)) (by rw [hnuL7 29 (by decide), hnu5 29 (by decide), e29]) ?_
        refine lv_icmp_ge (tgt := 82) hx hb d_M_mark_37 (by decide) (fun c_37 => ?_) (fun c_37 => ?_)
        · have c_37 := (nI_leI (by omega) (by omega)).mp c_37
          refine lv_iconst (v := nI 0) hx hb d_M_mark_82 (by decide) ?_
          refine x_vi (y := zI (mkP nu sg r pg dx dy k)) ((zI_f (fun h => by have := h.1; omega)).symm) ?_
          exact J83 _ _ _ hw (lv_sub hl [0, 1, 2, 3, 4, 5, 6, 7] rfl)
        · have c_37 := Nat.not_le.mp ((not_congr (nI_leI (by omega) (by omega))).mp c_37)
          refine lv_aload_n hx hb d_M_mark_40 rfl (lv_at hl 0 rfl) ?_
          refine x_get hC hw hR.1 rfl 30 (by decide) (hts _ k_764) (fun _ h9 => h9) rfl d_M_mark_41 ?_
          refine lv_iload hx hb d_M_mark_44 (lv_at hl 7 rfl) ?_
          refine m_ldI hC hw hR 30 k rfl (rfl) (by show _ < 60; omega) (by decide) d_M_mark_46 ?_
          refine x_vi (y := sg3 30 k) (by rw [hsgL8 30 (by decide), hsg6 30 (by decide)]) ?_
          refine x_vi (y := sg 2 (40 * r + k)) (e30 k (by omega)) ?_
          refine lv_if_eq (tgt := 82) hx hb d_M_mark_47 (by decide) (fun c_47 => ?_) (fun c_47 => ?_)
          · refine lv_iconst (v := nI 0) hx hb d_M_mark_82 (by decide) ?_
            refine x_vi (y := zI (mkP nu sg r pg dx dy k)) ((zI_f (fun h => h.2.1 c_47)).symm) ?_
            exact J83 _ _ _ hw (lv_sub hl [0, 1, 2, 3, 4, 5, 6, 7] rfl)
          · refine lv_aload_n hx hb d_M_mark_50 rfl (lv_at hl 0 rfl) ?_
            refine x_get hC hw hR.1 rfl 31 (by decide) (hts _ k_765) (fun _ h9 => h9) rfl d_M_mark_51 ?_
            refine lv_iload hx hb d_M_mark_54 (lv_at hl 7 rfl) ?_
            refine m_ldZ hC hw hR 31 k rfl (rfl) (by show _ < 60; omega) (by decide) d_M_mark_56 ?_
            refine x_vi (y := sg6 31 k) (by rw [hsgL8 31 (by decide)]) ?_
            refine x_vi (y := zI (iwP nu sg (fun j => sg 2 (40 * r + j)) (nu 1 r) k)) (e31 k (by omega)) ?_
            refine lv_if_ne (tgt := 78) hx hb d_M_mark_57 (by decide) (fun c_57 => ?_) (fun c_57 => ?_)
            · have c_57 := zI_1.mp c_57
              refine lv_iconst (v := nI 1) hx hb d_M_mark_78 (by decide) ?_
              refine lv_goto (tgt := 83) hx hb d_M_mark_79 (by decide) ?_
              refine x_vi (y := zI (mkP nu sg r pg dx dy k)) ((zI_t ⟨by omega, c_47, Or.inl c_57⟩).symm) ?_
              exact J83 _ _ _ hw (lv_sub hl [0, 1, 2, 3, 4, 5, 6, 7] rfl)
            · have c_57 := zI_0.mp c_57
              refine lv_aload_n hx hb d_M_mark_60 rfl (lv_at hl 0 rfl) ?_
              refine lv_bipush (v := nI 40) hx hb d_M_mark_61 (by decide) ?_
              refine lv_iload_n hx hb d_M_mark_63 rfl (lv_at hl 1 rfl) ?_
              refine lv_imul hx hb d_M_mark_64 ?_
              refine x_vi (y := nI (40 * r)) (pk_mul _ _) ?_
              refine lv_iload hx hb d_M_mark_65 (lv_at hl 7 rfl) ?_
              refine lv_iadd hx hb d_M_mark_67 ?_
              refine x_vi (y := nI ((40 * r) + k)) (nI_add _ _) ?_
              refine lv_iload_n hx hb d_M_mark_68 rfl (lv_at hl 2 rfl) ?_
              refine lv_iload_n hx hb d_M_mark_69 rfl (lv_at hl 3 rfl) ?_
              refine lv_iload hx hb d_M_mark_70 (lv_at hl 4 rfl) ?_
              refine x_callG hC (c_M_meets l G M1 (Array.size H) md am nuL7 sgL8 hR (40 * r + k) pg dx dy (by omega) (by rw [hnuL7 15 (by decide), hnu5 15 (by decide), hnu2 15 (by decide)]; exact ha8)) k_906 k_13 ⟨Nat.le_of_ble_eq_true rfl, Nat.le_of_ble_eq_true rfl⟩ ⟨Nat.le_of_ble_eq_true rfl, Nat.le_of_ble_eq_true rfl⟩ hw hl.1 (Nat.le_of_ble_eq_true rfl) d_M_mark_72 (x_ivV hC k_906 k_903 k_905 kp_28 (show _ ∧ _ ∧ _ = some 4 from by decide +kernel) (x_recv hC hw hR.1 rfl) rfl d_M_mark_72) (fun rv M11 H locs hq hw => ?_) (fun _ _ _ _ _ h _ _ => h.elim)
              obtain ⟨rfl, hM⟩ := hq
              subst M11
              refine W.eq (g2 := F0 m 75 ls [.int (zI (meP sgL8 pg (sgL8 3 (40 * r + k) + dx) (sgL8 4 (40 * r + k) + dy) (sgL8 5 (40 * r + k)) (nuL7 15 0))), .int (nI (to + k)), .ref (am 27)]) rfl ?_
              refine x_vi (y := zI (meP sg pg (sg 3 (40 * r + k) + dx) (sg 4 (40 * r + k) + dy) (sg 5 (40 * r + k)) (nu 15 0))) (by unfold meP arP; rw [hsgL8 3 (by decide), hsg6 3 (by decide), hsg3 3 (by decide), hsgL8 4 (by decide), hsg6 4 (by decide), hsg3 4 (by decide), hsgL8 5 (by decide), hsg6 5 (by decide), hsg3 5 (by decide), hsgL8 16 (by decide), hsg6 16 (by decide), hsg3 16 (by decide), hsgL8 17 (by decide), hsg6 17 (by decide), hsg3 17 (by decide), hsgL8 18 (by decide), hsg6 18 (by decide), hsg3 18 (by decide), hsgL8 19 (by decide), hsg6 19 (by decide), hsg3 19 (by decide), hsgL8 20 (by decide), hsg6 20 (by decide), hsg3 20 (by decide), hnuL7 15 (by decide), hnu5 15 (by decide), hnu2 15 (by decide)]) ?_
              refine lv_if_eq (tgt := 82) hx hb d_M_mark_75 (by decide) (fun c_75 => ?_) (fun c_75 => ?_)
              · have c_75 := zI_0.mp c_75
                refine lv_iconst (v := nI 0) hx hb d_M_mark_82 (by decide) ?_
                refine x_vi (y := zI (mkP nu sg r pg dx dy k)) ((zI_f (fun h => h.2.2.elim c_57 c_75)).symm) ?_
                exact J83 _ _ _ hw (lv_sub hl [0, 1, 2, 3, 4, 5, 6, 7] rfl)
              · have c_75 := zI_1.mp c_75
                refine lv_iconst (v := nI 1) hx hb d_M_mark_78 (by decide) ?_
                refine lv_goto (tgt := 83) hx hb d_M_mark_79 (by decide) ?_
                refine x_vi (y := zI (mkP nu sg r pg dx dy k)) ((zI_t ⟨by omega, c_47, Or.inr c_75⟩).symm) ?_
                exact J83 _ _ _ hw (lv_sub hl [0, 1, 2, 3, 4, 5, 6, 7] rfl)
  exact HL15 (40 + 1) (0)  nu5 sg6 (by omega) (by omega) (⟨fun j hj => absurd hj (Nat.not_lt_zero j), fun j _ => by rw [hsg6 27 (by decide), hsg3 27 (by decide)]⟩) _ hR eqx.rf eqx.rf hF _ _ _ hw (lv_sub hl [2, 3, 4, 5, 6, 7, 1, 0] rfl)
