theorem x_mkA {A : Nat → Nat → Prop} {f f1 : Nat → Int32} {q : Nat} (h : ∀ p, p < q → ∀ j, j < 40 → f (40 * p + j) = zI (A p j)) (m1 : ∀ j, j < 40 → f1 (40 * q + j) = zI (A q j)) (m2 : ∀ j, j < 40 * q ∨ 40 * q + 40 ≤ j → f1 j = f j) : ∀ p, p < q + 1 → ∀ j, j < 40 → f1 (40 * p + j) = zI (A p j) := by
  intro p hp j hj
  by_cases hz : p = q
  · rw [hz]
    exact m1 j hj
  · rw [m2 _ (by omega)]
    exact h p (by omega) j hj
theorem x_mkB {A : Nat → Nat → Prop} {f f1 : Nat → Int32} {q : Nat} (h : ∀ p, p < q → ∀ j, j < 40 → f (160 + 40 * p + j) = zI (A p j)) (m1 : ∀ j, j < 40 → f1 (160 + 40 * q + j) = zI (A q j)) (m2 : ∀ j, j < 160 + 40 * q ∨ 160 + 40 * q + 40 ≤ j → f1 j = f j) : ∀ p, p < q + 1 → ∀ j, j < 40 → f1 (160 + 40 * p + j) = zI (A p j) := by
  intro p hp j hj
  by_cases hz : p = q
  · rw [hz]
    exact m1 j hj
  · rw [m2 _ (by omega)]
    exact h p (by omega) j hj
theorem x_mkK {A : Nat → Nat → Prop} {f f1 : Nat → Int32} {q : Nat} (h : ∀ p, p < 4 → ∀ j, j < 40 → f (40 * p + j) = zI (A p j)) (m2 : ∀ j, j < 160 + 40 * q ∨ 160 + 40 * q + 40 ≤ j → f1 j = f j) : ∀ p, p < 4 → ∀ j, j < 40 → f1 (40 * p + j) = zI (A p j) := by
  intro p hp j hj
  rw [m2 _ (by omega)]
  exact h p hp j hj
theorem x_hm {A : Nat → Prop} {f : Nat → Int32} {b : Nat} (h : ∀ j, j < 40 → f (b + j) = zI (A j)) : (∃ j, j < 40 ∧ ¬ f (b + j) = 0) ↔ ∃ j, j < 40 ∧ A j := by
  constructor
  · intro ⟨j, hj, z⟩
    rw [h j hj] at z
    exact ⟨j, hj, zI_1.mp z⟩
  · intro ⟨j, hj, z⟩
    refine ⟨j, hj, ?_⟩
    rw [h j hj]
    exact zI_1.mpr z
theorem x_al {nu : Nat → Nat → Nat} {sg : Nat → Nat → Int32} {f : Nat → Int32} {u w n : Nat} (h : ∀ p, p < n → ∀ j, j < 40 → f (160 + 40 * p + j) = zI (mkU nu sg p j)) (hu : u < n) (hw : w < n) : (nu 9 u = nu 9 w ∧ ∀ j, j < 40 → f (160 + 40 * u + j) = f (160 + 40 * w + j)) ↔ alk nu sg u w := by
  refine and_congr Iff.rfl ⟨fun z k hk => ?_, fun z k hk => ?_⟩
  · have := z k hk
    rw [h u hu k hk, h w hw k hk] at this
    exact zI_j this
  · rw [h u hu k hk, h w hw k hk]
    exact zI_c (z k hk)
theorem x_dec {a b : Nat} (h : a = b) : nI a + (-1) = nI b - nI 1 := by
  subst h
  rw [Int32.sub_eq_add_neg]
  congr 1
theorem x_nm1 {c : Nat} (h : c < 2 ^ 31) : ¬ nI c = -1 := by
  intro z
  have := congrArg Int32.toInt z
  rw [nI_toInt h] at this
  have h2 : (-1 : Int32).toInt = -1 := by decide +kernel
  rw [h2] at this
  omega
/-- what is known of copyOf at place w -/
def cpP (nu : Nat → Nat → Nat) (sg : Nat → Nat → Int32) (f : Nat → Int32) (w : Nat) : Prop := (hasU nu sg w → ∃ c, f w = nI c ∧ CFp nu sg w c) ∧ (¬ hasU nu sg w → f w = -1)
def inP2 (nu : Nat → Nat → Nat) (sg : Nat → Nat → Int32) (u i : Nat) (fC f : Nat → Int32) : Prop := (∃ w, u - i ≤ w ∧ w < u ∧ alk nu sg u w ∧ f u = fC w) ∨ ((∀ w, u - i ≤ w → w < u → ¬ alk nu sg u w) ∧ f u = -1)
theorem x_inZ {nu : Nat → Nat → Nat} {sg : Nat → Nat → Int32} {u : Nat} {fC f : Nat → Int32} (h : f u = -1) : inP2 nu sg u 0 fC f := Or.inr ⟨fun w h1 h2 => by omega, h⟩
theorem x_inY {nu : Nat → Nat → Nat} {sg : Nat → Nat → Int32} {u i : Nat} {fC f f1 : Nat → Int32} (hi : ¬ u - i = 0) (ha : alk nu sg u (u - i - 1)) (e : f1 = va_up f u (fC (u - i - 1))) : inP2 nu sg u (i + 1) fC f1 := Or.inl ⟨u - i - 1, by omega, by omega, ha, by rw [e, va_up_self]⟩
theorem x_inN {nu : Nat → Nat → Nat} {sg : Nat → Nat → Int32} {u i : Nat} {fC f f1 : Nat → Int32} (h : inP2 nu sg u i fC f) (ha : ¬ alk nu sg u (u - i - 1)) (e : f1 = va_up f u (f u)) : inP2 nu sg u (i + 1) fC f1 := by
  rcases h with ⟨w, h1, h2, h3, h4⟩ | ⟨h1, h2⟩
  · exact Or.inl ⟨w, by omega, h2, h3, by rw [e, va_up_self]; exact h4⟩
  · refine Or.inr ⟨fun w g1 g2 => ?_, by rw [e, va_up_self]; exact h2⟩
    by_cases hz : w = u - i - 1
    · rw [hz]
      exact ha
    · exact h1 w (by omega) g2
theorem x_keepU {f f1 fC : Nat → Int32} {u : Nat} {v : Int32} (h : ∀ w, w < u → f w = fC w) (e : f1 = va_up f u v) : ∀ w, w < u → f1 w = fC w := by
  intro w hw
  rw [e, va_up_ne _ _ (by omega)]
  exact h w hw
/-- u had an earlier one alike -/
theorem x_cpOld {nu : Nat → Nat → Nat} {sg : Nat → Nat → Int32} {u i : Nat} {fC f : Nat → Int32} (hC : ∀ w, w < u → cpP nu sg fC w) (hU : ∀ w, w < u → f w = fC w) (hi : u - i = 0) (hD : inP2 nu sg u i fC f) (hu : hasU nu sg u) (hne : ¬ f u = -1) : (∀ w, w < u + 1 → cpP nu sg f w) ∧ ¬ newU nu sg u := by
  rcases hD with ⟨w, h1, h2, h3, h4⟩ | ⟨h1, h2⟩
  · refine ⟨fun v hv => ?_, fun z => z.2 ⟨w, h2, h3⟩⟩
    by_cases hz : v = u
    · obtain ⟨c, e1, e2⟩ := (hC w h2).1 (h3.has hu)
      rw [hz]
      exact ⟨fun _ => ⟨c, h4.trans e1, e2.ofA (by omega) h3⟩, fun z => absurd hu z⟩
    · have := hC v (by omega)
      unfold cpP at this ⊢
      rw [hU v (by omega)]
      exact this
  · exact absurd h2 hne
theorem x_cpNew {nu : Nat → Nat → Nat} {sg : Nat → Nat → Int32} {u i : Nat} {fC f : Nat → Int32} (hC : ∀ w, w < u → cpP nu sg fC w) (hi : u - i = 0) (hD : inP2 nu sg u i fC f) (hu : hasU nu sg u) (he : f u = -1) (hb : ∀ w c, w < u → CFp nu sg w c → c < 2 ^ 31) : newU nu sg u := by
  rcases hD with ⟨w, h1, h2, h3, h4⟩ | ⟨h1, h2⟩
  · obtain ⟨c, e1, e2⟩ := (hC w h2).1 (h3.has hu)
    rw [he, e1] at h4
    exact absurd h4.symm (x_nm1 (hb w c h2 e2))
  · exact ⟨hu, fun ⟨w, g1, g2⟩ => h1 w (by omega) g1 g2⟩
theorem x_cpNew2 {nu : Nat → Nat → Nat} {sg : Nat → Nat → Int32} {u : Nat} {fC f f1 : Nat → Int32} (hC : ∀ w, w < u → cpP nu sg fC w) (hU : ∀ w, w < u → f w = fC w) (hn : newU nu sg u) (e : f1 = va_up f u (nI (nu 6 0 + cnt (newU nu sg) u))) : ∀ w, w < u + 1 → cpP nu sg f1 w := by
  intro v hv
  by_cases hz : v = u
  · rw [hz]
    exact ⟨fun _ => ⟨_, by rw [e, va_up_self], CFp.self hn⟩, fun z => absurd hn.1 z⟩
  · have := hC v (by omega)
    unfold cpP at this ⊢
    rw [e, va_up_ne _ _ hz, hU v (by omega)]
    exact this
theorem x_cpNo {nu : Nat → Nat → Nat} {sg : Nat → Nat → Int32} {u : Nat} {fC f1 : Nat → Int32} (hC : ∀ w, w < u → cpP nu sg fC w) (hn : ¬ hasU nu sg u) (e : f1 = va_up fC u (-1)) : ∀ w, w < u + 1 → cpP nu sg f1 w := by
  intro v hv
  by_cases hz : v = u
  · rw [hz]
    exact ⟨fun z => absurd z hn, fun _ => by rw [e, va_up_self]⟩
  · have := hC v (by omega)
    unfold cpP at this ⊢
    rw [e, va_up_ne _ _ hz]
    exact this
/-- rows that are cut -/
def cutF (nu : Nat → Nat → Nat) (sg : Nat → Nat → Int32) (nu' : Nat → Nat → Nat) (sg' : Nat → Nat → Int32) (P : Nat → Prop) (r t : Nat) : Prop := nu' 1 = va_up (nu 1) t (kp P (nu 1 r)) ∧ cutI P (40 * t) (nu 1 r) (cV P (nI 0) (sg 2) (40 * r)) (sg 2) (sg' 2) ∧ cutI P (40 * t) (nu 1 r) (fun i => sg 3 (40 * r + i)) (sg 3) (sg' 3) ∧ cutI P (40 * t) (nu 1 r) (fun i => sg 4 (40 * r + i)) (sg 4) (sg' 4) ∧ cutI P (40 * t) (nu 1 r) (cV P (nI 100) (sg 5) (40 * r)) (sg 5) (sg' 5)
section RC
variable {nu nu0 nu1 : Nat → Nat → Nat} {sg sg0 sg1 : Nat → Nat → Int32} {P Q : Nat → Prop} {r t : Nat}
theorem rowSame.rf : rowSame nu sg nu sg r := ⟨rfl, fun _ _ => ⟨rfl, rfl, rfl, rfl⟩⟩
theorem rowSame.trans (h : rowSame nu sg nu0 sg0 r) (h2 : rowSame nu0 sg0 nu1 sg1 r) : rowSame nu sg nu1 sg1 r :=
  ⟨h2.1.trans h.1, fun i hi => ⟨(h2.2 i hi).1.trans (h.2 i hi).1, (h2.2 i hi).2.1.trans (h.2 i hi).2.1, (h2.2 i hi).2.2.1.trans (h.2 i hi).2.2.1, (h2.2 i hi).2.2.2.trans (h.2 i hi).2.2.2⟩⟩
theorem cutF.cut (h : cutF nu sg nu1 sg1 P r t) : rowCut nu sg nu1 sg1 P r t := by
  obtain ⟨h1, h2, h3, h4, h5⟩ := h
  exact ⟨by rw [h1, va_up_self], fun i hi he => ⟨h2.1 i hi he, h3.1 i hi he, h4.1 i hi he, h5.1 i hi he⟩⟩
theorem cutF.keep (h : cutF nu sg nu1 sg1 P r t) (hn : nu 1 r ≤ 40) {R : Nat} (hR : R ≠ t) : rowSame nu sg nu1 sg1 R := by
  obtain ⟨h1, h2, h3, h4, h5⟩ := h
  have hk := kp_le P (nu 1 r)
  exact ⟨by rw [h1, va_up_ne _ _ hR], fun i hi => ⟨h2.2 _ (by omega), h3.2 _ (by omega), h4.2 _ (by omega), h5.2 _ (by omega)⟩⟩
theorem cV_src {x : Int32} {f g : Nat → Int32} {b i : Nat} (h : f (b + i) = g (b + i)) : cV P x f b i = cV P x g b i := by
  by_cases hp : P i
  · rw [cV_t hp, cV_t hp]
  · rw [cV_f hp, cV_f hp, h]
theorem rowCut.src (hs : rowSame nu sg nu0 sg0 r) (h : rowCut nu0 sg0 nu1 sg1 P r t) (hn : nu 1 r ≤ 40) : rowCut nu sg nu1 sg1 P r t := by
  obtain ⟨h1, h2⟩ := h
  rw [hs.1] at h1 h2
  refine ⟨h1, fun i hi he => ?_⟩
  obtain ⟨g1, g2, g3, g4⟩ := h2 i hi he
  obtain ⟨s1, s2, s3, s4⟩ := hs.2 i (by omega)
  exact ⟨g1.trans (cV_src s1), g2.trans s2, g3.trans s3, g4.trans (cV_src s4)⟩
theorem rowCut.keep (h : rowCut nu sg nu0 sg0 P r t) (hs : rowSame nu0 sg0 nu1 sg1 t) (hn : nu 1 r ≤ 40) : rowCut nu sg nu1 sg1 P r t := by
  obtain ⟨h1, h2⟩ := h
  refine ⟨hs.1.trans h1, fun i hi he => ?_⟩
  have := kp_le P i
  obtain ⟨g1, g2, g3, g4⟩ := h2 i hi he
  obtain ⟨s1, s2, s3, s4⟩ := hs.2 (kp P i) (by omega)
  exact ⟨s1.trans g1, s2.trans g2, s3.trans g3, s4.trans g4⟩
theorem cV_c {x : Int32} {f : Nat → Int32} {b i : Nat} (h : P i ↔ Q i) : cV P x f b i = cV Q x f b i := by
  by_cases hp : P i
  · rw [cV_t hp, cV_t (h.mp hp)]
  · rw [cV_f hp, cV_f (fun z => hp (h.mpr z))]
theorem rowCut.cong (h : rowCut nu sg nu1 sg1 P r t) (hc : ∀ k, k < 40 → (P k ↔ Q k)) (hn : nu 1 r ≤ 40) : rowCut nu sg nu1 sg1 Q r t := by
  obtain ⟨h1, h2⟩ := h
  refine ⟨h1.trans (kp_c (fun k hk => hc k (by omega))), fun i hi he => ?_⟩
  have e : kp P i = kp Q i := kp_c (fun k hk => hc k (by omega))
  have g := h2 i hi ((em_c (fun k hk => hc k (by omega))).mpr he)
  rw [e] at g
  exact ⟨g.1.trans (cV_c (hc i (by omega))), g.2.1, g.2.2.1, g.2.2.2.trans (cV_c (hc i (by omega)))⟩
theorem CFp.same {u w c : Nat} (h : CFp nu sg u c) (h' : CFp nu sg w c) : alk nu sg u w := by
  obtain ⟨v, h1, h2, h3, e⟩ := h
  obtain ⟨x, g1, g2, g3, e2⟩ := h'
  have hvx : v = x := by
    have ev : cnt (newU nu sg) v = cnt (newU nu sg) x := by omega
    by_cases z : v < x
    · have := cnt_mono (newU nu sg) (show v + 1 ≤ x by omega)
      rw [cnt_t h3] at this
      omega
    · by_cases z2 : x < v
      · have := cnt_mono (newU nu sg) (show x + 1 ≤ v by omega)
        rw [cnt_t g3] at this
        omega
      · omega
  rw [hvx] at h2
  exact h2.trans g2.symm
theorem x_pgs {q : Nat} (h : (∀ p, p < q → rowCut nu sg nu0 sg0 (mkG nu sg p) p p) ∧ ∀ R, q ≤ R → rowSame nu sg nu0 sg0 R) (hc : cutF nu0 sg0 nu1 sg1 (mkG nu sg q) q q) (h40 : ∀ R, nu 1 R ≤ 40) : (∀ p, p < q + 1 → rowCut nu sg nu1 sg1 (mkG nu sg p) p p) ∧ ∀ R, q + 1 ≤ R → rowSame nu sg nu1 sg1 R := by
  have hs := h.2 q (Nat.le_refl q)
  have hn : nu0 1 q ≤ 40 := by rw [hs.1]; exact h40 q
  refine ⟨fun p hp => ?_, fun R hR => (h.2 R (by omega)).trans (hc.keep hn (by omega))⟩
  by_cases hz : p = q
  · rw [hz]
    exact rowCut.src hs hc.cut (h40 q)
  · exact (h.1 p (by omega)).keep (hc.keep hn hz) (h40 p)
/-- what is known while the uses' copies are cut -/
def usP (nu : Nat → Nat → Nat) (sg : Nat → Nat → Int32) (nu0 : Nat → Nat → Nat) (sg0 : Nat → Nat → Int32) (u : Nat) : Prop := (∀ p, p < 4 → rowCut nu sg nu0 sg0 (mkG nu sg p) p p) ∧ (∀ f, f < nu 6 0 → rowSame nu sg nu0 sg0 (4 + f)) ∧ (∀ w, w < u → hasU nu sg w → ∀ c, CFp nu sg w c → rowCut nu sg nu0 sg0 (mkU nu sg w) (4 + nu 9 w) (4 + c)) ∧ ∀ R, 4 + (nu 6 0 + cnt (newU nu sg) (nu 7 0)) ≤ R → nu0 1 R = nu 1 R
theorem x_usNo {u : Nat} (h : usP nu sg nu0 sg0 u) (hn : ¬ hasU nu sg u) : usP nu sg nu0 sg0 (u + 1) := by
  obtain ⟨h1, h2, h3, h4⟩ := h
  refine ⟨h1, h2, fun w hw hu => ?_, h4⟩
  by_cases hz : w = u
  · rw [hz] at hu
    exact absurd hu hn
  · exact h3 w (by omega) hu
theorem x_usY {u c : Nat} (h : usP nu sg nu0 sg0 u) (hu7 : u < nu 7 0) (hf : nu 9 u < nu 6 0) (hf2 : ∀ w, w < nu 7 0 → nu 9 w < nu 6 0) (hcf : CFp nu sg u c) (hc : cutF nu0 sg0 nu1 sg1 (mkU nu sg u) (4 + nu 9 u) (4 + c)) (h40 : ∀ R, nu 1 R ≤ 40) : usP nu sg nu1 sg1 (u + 1) := by
  obtain ⟨h1, h2, h3, h4⟩ := h
  obtain ⟨hlo, hhi⟩ := hcf.lt hu7
  have hs := h2 _ hf
  have hn : nu0 1 (4 + nu 9 u) ≤ 40 := by rw [hs.1]; exact h40 _
  refine ⟨fun p hp => (h1 p hp).keep (hc.keep hn (by omega)) (h40 p), fun f hff => (h2 f hff).trans (hc.keep hn (by omega)), fun w hw hu d hd => ?_, fun R hR => ?_⟩
  · have hmine : rowCut nu sg nu1 sg1 (mkU nu sg u) (4 + nu 9 u) (4 + c) := rowCut.src hs hc.cut (h40 _)
    by_cases hz : d = c
    · rw [hz] at hd ⊢
      have ha := hcf.same hd
      rw [← ha.1]
      exact hmine.cong ha.2 (h40 _)
    · have hwu : w ≠ u := fun z => hz (by rw [z] at hd; exact hd.uniq hcf)
      exact (h3 w (by omega) hu d hd).keep (hc.keep hn (by omega)) (h40 _)
  · rw [(hc.keep hn (show R ≠ 4 + c by omega)).1]
    exact h4 R hR
end RC
/-- the uses' forms -/
def ufP (nu : Nat → Nat → Nat) (sg : Nat → Nat → Int32) (f : Nat → Nat) (u : Nat) : Prop := (∀ w, w < u → (hasU nu sg w → CFp nu sg w (f w)) ∧ (¬ hasU nu sg w → f w = nu 9 w)) ∧ ∀ w, u ≤ w → f w = nu 9 w
theorem x_ufY {nu : Nat → Nat → Nat} {sg : Nat → Nat → Int32} {f f1 : Nat → Nat} {u c : Nat} (h : ufP nu sg f u) (hu : hasU nu sg u) (hc : CFp nu sg u c) (e : f1 = va_up f u c) : ufP nu sg f1 (u + 1) := by
  rw [e]
  refine ⟨fun w hw => ?_, fun w hw => ?_⟩
  · by_cases hz : w = u
    · rw [hz, va_up_self]
      exact ⟨fun _ => hc, fun z => absurd hu z⟩
    · rw [va_up_ne _ _ hz]
      exact h.1 w (by omega)
  · rw [va_up_ne _ _ (by omega)]
    exact h.2 w (by omega)
theorem x_ufN {nu : Nat → Nat → Nat} {sg : Nat → Nat → Int32} {f f1 : Nat → Nat} {u : Nat} (h : ufP nu sg f u) (hu : ¬ hasU nu sg u) (e : f1 = va_up f u (f u)) : ufP nu sg f1 (u + 1) := by
  have hh := h.2 u (Nat.le_refl u)
  rw [e]
  refine ⟨fun w hw => ?_, fun w hw => ?_⟩
  · by_cases hz : w = u
    · rw [hz, va_up_self]
      exact ⟨fun z => absurd z hu, fun _ => hh⟩
    · rw [va_up_ne _ _ hz]
      exact h.1 w (by omega)
  · rw [va_up_ne _ _ (by omega)]
    exact h.2 w (by omega)
/-- stores -/
theorem wellP_c {f g : Nat → Int32} {en b n : Nat} (h : ∀ j, b ≤ j → f j = g j) : wellP f en b n = wellP g en b n := by
  unfold wellP
  congr 1
  refine propext ⟨fun z i hi => ?_, fun z i hi => ?_⟩
  · rw [← h _ (by omega), ← h _ (by omega)]
    exact z i hi
  · rw [h _ (by omega), h _ (by omega)]
    exact z i hi
theorem sRow_c {f g : Nat → Int32} {en b : Nat} (h : ∀ j, b ≤ j → f j = g j) : sRow f en b = sRow g en b := by
  funext i
  unfold sRow
  rw [h _ (by omega), h _ (by omega)]
def stQ (nu : Nat → Nat → Nat) (sg : Nat → Nat → Int32) (nu0 : Nat → Nat → Nat) (sg0 : Nat → Nat → Int32) (t : Nat) : Prop := (∀ x, x < t → stoCut nu sg nu0 sg0 (cN (sg 22 x)) x) ∧ (∀ x, t ≤ x → nu0 23 x = nu 23 x) ∧ ∀ j, 60 * t ≤ j → sg0 24 j = sg 24 j
theorem stoCut.keep {nu nu0 nu1 : Nat → Nat → Nat} {sg sg0 sg1 : Nat → Nat → Int32} {en x : Nat} (h : stoCut nu sg nu0 sg0 en x) (h23 : nu1 23 x = nu0 23 x) (h24 : ∀ j, j < 60 * x + 60 → sg1 24 j = sg0 24 j) (h60 : nu 23 x ≤ 60) : stoCut nu sg nu1 sg1 en x := by
  refine ⟨fun hw => ?_, fun hw => h23.trans (h.2 hw)⟩
  obtain ⟨a, b⟩ := h.1 hw
  refine ⟨h23.trans a, fun i hi he => ?_⟩
  have hk := kp_le (stoP nu sg en x) i
  have hr := stI_room (en := en) (show kp (stoP nu sg en x) i < stN en (nu 23 x) by omega)
  have h1 := stS_1 en
  obtain ⟨b1, b2⟩ := b i hi he
  refine ⟨(h24 _ (by omega)).trans b1, fun hne => ?_⟩
  have h2 := stS_2 hne
  exact (h24 _ (by omega)).trans (b2 hne)
theorem x_st {nu nu0 nu1 : Nat → Nat → Nat} {sg sg0 sg1 : Nat → Nat → Int32} {en t : Nat} (h : stQ nu sg nu0 sg0 t) (hen : cN (sg 22 t) = en) (h60 : ∀ x, nu 23 x ≤ 60) (h12 : nu0 12 = nu 12) (h13 : nu0 13 = nu 13) (h14 : sg0 14 = sg 14)
    (f1 : wellP (sg0 24) en (60 * t) (nu0 23 t) → nu1 23 = va_up (nu0 23) t (stI en (kp (iwP nu0 sg0 (sRow (sg0 24) en (60 * t)) (stN en (nu0 23 t))) (stN en (nu0 23 t)))) ∧ wrI (iwP nu0 sg0 (sRow (sg0 24) en (60 * t)) (stN en (nu0 23 t))) en (60 * t) (stN en (nu0 23 t)) (cV (iwP nu0 sg0 (sRow (sg0 24) en (60 * t)) (stN en (nu0 23 t))) (nI 42) (sRow (sg0 24) en (60 * t)) 0) (sg0 24) (sg1 24))
    (f2 : ¬ wellP (sg0 24) en (60 * t) (nu0 23 t) → nu1 23 = va_up (nu0 23) t 0 ∧ sg1 24 = sg0 24) : stQ nu sg nu1 sg1 (t + 1) := by
  obtain ⟨g1, g2, g3⟩ := h
  have e23 := g2 t (Nat.le_refl t)
  have eP : iwP nu0 sg0 (sRow (sg0 24) en (60 * t)) (stN en (nu0 23 t)) = stoP nu sg en t := by
    funext k
    unfold stoP
    rw [sRow_c g3, e23]
    exact propext (iwP_n h12 h13 h14)
  rw [eP, wellP_c g3, sRow_c g3, e23] at f1
  rw [wellP_c g3, e23] at f2
  have h6 := h60 t
  by_cases hw : wellP (sg 24) en (60 * t) (nu 23 t)
  · obtain ⟨a, b⟩ := f1 hw
    have hk := kp_le (stoP nu sg en t) (stN en (nu 23 t))
    have hl := stI_le (en := en) (k := kp (stoP nu sg en t) (stN en (nu 23 t))) (n := nu 23 t) hk
    refine ⟨fun x hx => ?_, fun x hx => ?_, fun j hj => ?_⟩
    · by_cases hz : x = t
      · rw [hz, hen]
        exact ⟨fun _ => ⟨by rw [a, va_up_self], fun i hi he => b.1 i hi he⟩, fun z => absurd hw z⟩
      · exact (g1 x (by omega)).keep (by rw [a, va_up_ne _ _ hz]) (fun j hj => b.2 j (by omega)) (h60 x)
    · rw [a, va_up_ne _ _ (by omega)]
      exact g2 x (by omega)
    · rw [b.2 j (by omega)]
      exact g3 j (by omega)
  · obtain ⟨a, b⟩ := f2 hw
    refine ⟨fun x hx => ?_, fun x hx => ?_, fun j hj => ?_⟩
    · by_cases hz : x = t
      · rw [hz, hen]
        exact ⟨fun z => absurd z hw, fun _ => by rw [a, va_up_self]⟩
      · exact (g1 x (by omega)).keep (by rw [a, va_up_ne _ _ hz]) (fun j hj => by rw [b]) (h60 x)
    · rw [a, va_up_ne _ _ (by omega)]
      exact g2 x (by omega)
    · rw [b]
      exact g3 j (by omega)
theorem x_stN {nu nu0 : Nat → Nat → Nat} {sg sg0 : Nat → Nat → Int32} {en t : Nat} (h : stQ nu sg nu0 sg0 t) (hen : cN (sg 22 t) = en) (h12 : nu0 12 = nu 12) (h13 : nu0 13 = nu 13) (h14 : sg0 14 = sg 14) : csN (wellP (sg0 24) en (60 * t) (nu0 23 t)) (cnt (iwP nu0 sg0 (sRow (sg0 24) en (60 * t)) (stN en (nu0 23 t))) (stN en (nu0 23 t))) = stoN nu sg t := by
  obtain ⟨g1, g2, g3⟩ := h
  have e23 := g2 t (Nat.le_refl t)
  have eP : iwP nu0 sg0 (sRow (sg0 24) en (60 * t)) (stN en (nu0 23 t)) = stoP nu sg en t := by
    funext k
    unfold stoP
    rw [sRow_c g3, e23]
    exact propext (iwP_n h12 h13 h14)
  rw [eP, wellP_c g3, e23, stoN, hen]
theorem x_sRowOk {sg : Nat → Nat → Int32} {en b n : Nat} (h : ∀ t, okB (sg 24 t)) (hen : en < 4) (hw : wellP (sg 24) en b n) : ∀ i, i < stN en n → okB (sRow (sg 24) en b i) := fun i hi => codV_ok (h _) (h _) (hw.2 i hi) hen
theorem kp_su {P : Nat → Prop} : ∀ {n j : Nat}, j < kp P n → ∃ i, i < n ∧ em P i ∧ kp P i = j
  | 0, j, h => absurd h (Nat.not_lt_zero j)
  | n + 1, j, h => by
    by_cases he : em P n
    · rw [kp_t he] at h
      by_cases hz : j = kp P n
      · exact ⟨n, by omega, he, hz.symm⟩
      · obtain ⟨i, h1, h2, h3⟩ := kp_su (P := P) (n := n) (j := j) (by omega)
        exact ⟨i, by omega, h2, h3⟩
    · rw [kp_f he] at h
      obtain ⟨i, h1, h2, h3⟩ := kp_su (P := P) (n := n) (j := j) h
      exact ⟨i, by omega, h2, h3⟩
theorem stI_i {en k j : Nat} (h : j < stI en k) : ∃ i, i < k ∧ (j = stI en i ∨ (en ≠ 0 ∧ j = stI en i + 1)) := by
  by_cases h0 : en = 0
  · subst h0
    exact ⟨j, h, Or.inl rfl⟩
  · have e : ∀ x, stI en x = 2 * x := by
      intro x
      unfold stI
      split
      · exact absurd rfl h0
      · rfl
    rw [e] at h
    refine ⟨j / 2, by omega, ?_⟩
    rw [e]
    by_cases hz : j % 2 = 0
    · exact Or.inl (by omega)
    · exact Or.inr ⟨h0, by omega⟩
theorem hx_l {d : Nat} (h : d < 16) : hxN d < 256 := by
  unfold hxN
  split <;> omega
theorem w0_l {en c : Nat} (hc : c < 256) : w0 en c < 256 := by
  unfold w0
  split
  · exact hc
  · omega
  · exact hc
  · exact hx_l (by omega)
theorem w1_l {en c : Nat} (hc : c < 256) : w1 en c < 256 := by
  unfold w1
  split
  · omega
  · exact hc
  · omega
  · exact hx_l (by omega)
/-- bytes stay bytes -/
theorem wrI_ok {P : Nat → Prop} {en b k : Nat} {v f f' : Nat → Int32} (h : wrI P en b k v f f') (hf : ∀ j, okB (f j)) (hv : ∀ i, i < k → okB (v i)) : ∀ j, okB (f' j) := by
  intro j
  by_cases hz : j < b ∨ b + stI en (kp P k) ≤ j
  · rw [h.2 j hz]
    exact hf j
  · obtain ⟨y, hy, h2⟩ := stI_i (en := en) (k := kp P k) (j := j - b) (by omega)
    obtain ⟨i, h3, h4, h5⟩ := kp_su hy
    obtain ⟨a1, a2⟩ := h.1 i h3 h4
    have hc := (hv i h3).eq.2
    rw [h5] at a1 a2
    rcases h2 with h2 | ⟨h2, h6⟩
    · rw [show j = b + stI en y by omega, a1]
      exact ⟨_, w0_l hc, rfl⟩
    · rw [show j = b + stI en y + 1 by omega, a2 h2]
      exact ⟨_, w1_l hc, rfl⟩
theorem x_bOk {W : Prop} {P : Nat → Prop} {en b k : Nat} {row : Nat → Int32} {sg0 sg1 : Nat → Nat → Int32} {A B : Prop} (h : ∀ j, okB (sg0 24 j)) (f1 : W → A ∧ wrI P en b k (cV P (nI 42) row 0) (sg0 24) (sg1 24)) (f2 : ¬ W → B ∧ sg1 24 = sg0 24) (hrow : W → ∀ i, i < k → okB (row i)) : ∀ j, okB (sg1 24 j) := by
  by_cases hw : W
  · refine wrI_ok (f1 hw).2 h (fun i hi => ?_)
    by_cases hp : P i
    · rw [cV_t hp]
      exact ⟨42, by decide, rfl⟩
    · rw [cV_f hp, Nat.zero_add]
      exact hrow hw i hi
  · rw [(f2 hw).2]
    exact h
