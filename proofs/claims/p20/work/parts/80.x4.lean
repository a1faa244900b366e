/-! rows of my own: what ConvexConduit's own answers say -/
section X4S
theorem lp_l {S R : Type} {step : S → Option (R ⊕ S)} {N : Nat} {s : S} {r : R} (h : step s = some (.inl r)) : lp step (N + 1) s = some r := by
  show (step s).bind _ = _
  rw [h]; rfl
theorem lp_r {S R : Type} {step : S → Option (R ⊕ S)} {N : Nat} {s s' : S} (h : step s = some (.inr s')) : lp step (N + 1) s = lp step N s' := by
  show (step s).bind _ = _
  rw [h]; rfl
variable {n m : Nat} {F T C U O L H : Nat → Int}
theorem min_of_pot (h : NW n m F T C U) {L' H' b f p : Nat → Int} (hLH : ∀ a, a < m → L' a = 0 ∧ H' a = C a) (hf : Flo n m (nfr F) (nfr T) L' H' b f) (hp : Pot m (nfr F) (nfr T) (npr U) L' H' f p) : IsMin n m (nfr F) (nfr T) (npr U) (fun _ => 0) C b (cst m (npr U) f) := by
  refine ismin_lh (lo := L') (hi := H') ⟨⟨f, hf, rfl⟩, fun g hg => ?_⟩ hLH
  exact opt_of_pot (cap := C) (fun a ha => ⟨(nw_ft h a ha).1, (nw_ft h a ha).2.1⟩) h.2.2.2.2.2 (fun a ha => Int.le_of_eq (hLH a ha).1.symm) (fun a ha => Int.le_of_eq (hLH a ha).2) hf hg hp
theorem x4_cost (h : NW n m F T C U) {d0 cb0 : Nat → Int} {s t : Nat} (hs : s < n) (ht : t < n) (hst : s ≠ t) {A : Nat} (hA : A ≤ 200) {N : Nat} (hN : 20000 ≤ N) :
    ∃ (c : Int) (f L' H' d cb : Nat → Int), pX4_cost N (iI s) (iI t) (iI A) (iI n) (iI m) (iF F) (iF T) (iF C) (iF U) (iF O) (iF L) (iF H) (iF d0) (iF cb0) = some (iI c, iF f, iF L', iF H', iF d, iF cb) ∧
      ((0 ≤ c ∧ c ≤ 20000 ∧ IsMin n m (nfr F) (nfr T) (npr U) (fun _ => 0) C (dem s t A) c) ∨ (c = -1 ∧ NoFlo n m (nfr F) (nfr T) (fun _ => 0) C (dem s t A))) := by
  unfold pX4_cost
  rcases s_meet (O := O) (L := L) (H := H) (d0 := d0) (cb0 := cb0) h hs ht hst hA (N := N) (by omega) with ⟨f, L', H', d, cb, e, hLH, hf, p, hp⟩ | ⟨f, L', H', d, cb, e, hno⟩
  · have hb : ∀ a, a < m → 0 ≤ f a ∧ f a ≤ C a := fun a ha => ⟨by have := (hf.1 a ha).1; rw [(hLH a ha).1] at this; exact this, by have := (hf.1 a ha).2; rw [(hLH a ha).2] at this; exact this⟩
    rw [e, bs6, b0_t, s_totalPrice h hb (by omega)]
    have hc := cst_bd h hb
    exact ⟨cst m (npr U) f, f, L', H', d, cb, rfl, Or.inl ⟨hc.1, by omega, min_of_pot h hLH hf hp⟩⟩
  · rw [e, bs6, b0_f]
    exact ⟨-1, f, L', H', d, cb, rfl, Or.inr ⟨rfl, hno A (Int.le_refl _)⟩⟩
theorem x4_most (h : NW n m F T C U) {cb0 : Nat → Int} {s t : Nat} (hs : s < n) (ht : t < n) (hst : s ≠ t) {N : Nat} (hN : 20000 ≤ N) :
    ∃ (k : Nat) (f L' H' cb : Nat → Int), pX4_most N (iI s) (iI t) (iI n) (iI m) (iF F) (iF T) (iF C) (iF O) (iF L) (iF H) (iF cb0) = some (iI k, iF f, iF L', iF H', iF cb) ∧ k ≤ 180 ∧
      (∃ g, Flo n m (nfr F) (nfr T) (fun _ => 0) C (dem s t k) g) ∧ ∀ A : Nat, k < A → NoFlo n m (nfr F) (nfr T) (fun _ => 0) C (dem s t A) := by
  unfold pX4_most
  obtain ⟨k, f, L', H', cb, e, h1⟩ := s_greatestAmount (O := O) (L := L) (H := H) (cb0 := cb0) h hs ht hst (N := N) (by omega)
  rw [e, bs5]
  exact ⟨k, f, L', H', cb, rfl, h1⟩
theorem flo_less (h : NW n m F T C U) {s t : Nat} (hs : s < n) (ht : t < n) (hst : s ≠ t) {A B : Nat} (hA : A ≤ B) (hB : A ≤ 200) {g : Nat → Int} (hg : Flo n m (nfr F) (nfr T) (fun _ => 0) C (dem s t B) g) : ∃ g', Flo n m (nfr F) (nfr T) (fun _ => 0) C (dem s t A) g' := by
  rcases s_meet (O := F) (L := F) (H := F) (d0 := F) (cb0 := F) h hs ht hst hB (N := 300) (Nat.le_refl _) with ⟨f, L', H', d, cb, e, hLH, hf, p, hp⟩ | ⟨f, L', H', d, cb, e, hno⟩
  · exact ⟨f, flo_lh hf hLH⟩
  · exact absurd hg (hno B (by omega) g)
theorem most_one (h : NW n m F T C U) {s t : Nat} (hs : s < n) (ht : t < n) (hst : s ≠ t) {k k' : Nat} (hk : k ≤ 180) (hk' : k' ≤ 180)
    (h1 : ∃ g, Flo n m (nfr F) (nfr T) (fun _ => 0) C (dem s t k) g) (h2 : ∀ A : Nat, k < A → NoFlo n m (nfr F) (nfr T) (fun _ => 0) C (dem s t A))
    (h3 : ∀ j : Nat, 1 ≤ j → j ≤ k' → ∃ g, Flo n m (nfr F) (nfr T) (fun _ => 0) C (dem s t j) g) (h4 : NoFlo n m (nfr F) (nfr T) (fun _ => 0) C (dem s t ((k' : Int) + 1))) : k = k' := by
  rcases Nat.lt_trichotomy k k' with c | c | c
  · obtain ⟨g, hg⟩ := h3 k' (by omega) (Nat.le_refl _)
    exact absurd hg (h2 k' c g)
  · exact c
  · obtain ⟨g, hg⟩ := h1
    obtain ⟨g', hg'⟩ := flo_less h hs ht hst (A := k' + 1) (B := k) c (by omega) hg
    exact absurd hg' (h4 g')
theorem dma_v {s t : Nat} {A : Int} {v : Nat} : dma s t A v = fun w => dem s t A w + (if s = w then 1 else 0) - (if v = w then 1 else 0) := by
  funext w
  unfold dma
  rw [if_neg (by omega : ¬ (v : Int) = -1)]
  have e : ((v : Int) = (w : Int)) = (v = w) := propext Int.ofNat_inj
  simp only [e]
  omega
theorem x4_more (h : NW n m F T C U) {d0 cb0 : Nat → Int} {s t : Nat} (hs : s < n) (ht : t < n) (hst : s ≠ t) {A : Nat} (hA : A ≤ 200) {v : Nat} (hv : v < n) {N : Nat} (hN : 20000 ≤ N) :
    ∃ (x : Int) (f L' H' d cb : Nat → Int), pX4_more N (iI s) (iI t) (iI A) (iI n) (iI m) (iF F) (iF T) (iF C) (iF U) (iF O) (iF L) (iF H) (iF d0) (iF cb0) (iI v) = some (.inr (iI x, iF f, iF L', iF H', iF d, iF cb)) ∧ -20000 ≤ x ∧ x ≤ 20000 ∧ MoreSays n m F T C U s t A v x := by
  have hn8 := h.2.1
  have er : pX4_refuseOtherThanNode (iI n) (iI v) = some (.inr ()) := by
    unfold pX4_refuseOtherThanNode
    rw [zl0, lt_n (by omega) (by omega) (by omega), lt_y (by omega) (by omega) (by omega)]; rfl
  unfold pX4_more
  rw [er]
  show ∃ (x : Int) (f L' H' d cb : Nat → Int), rgt (bnd6 (pX0_meet N (iI n) (iI m) (iF F) (iF T) (iF C) (iF U) (iF O) (iF L) (iF H) (iF d0) (iF cb0) (iI s) (iI t) (iI A)) _) = _ ∧ _
  rcases s_meet (O := O) (L := L) (H := H) (d0 := d0) (cb0 := cb0) h hs ht hst hA (N := N) (by omega) with ⟨f, L', H', d, cb, e, hLH, hf, p, hp⟩ | ⟨f, L', H', d, cb, e, hno⟩
  · rw [e, bs6, b0_t]
    obtain ⟨x, d', cb', e1, hvs, hx⟩ := s_priceOfUnitMore (d0 := d) (cb0 := cb) h hLH hf hp hs hv (N := N) (by omega)
    rw [e1, bs3]
    have hM := min_of_pot h hLH hf hp
    refine ⟨x, f, L', H', d', cb', rfl, ?_, ?_, Or.inr ⟨_, hM, ?_⟩⟩
    · rcases hx with hx | hx
      · exact hx.1
      · rw [hx.1]; decide
    · rcases hx with hx | hx
      · exact hx.2.1
      · rw [hx.1]; decide
    · by_cases c : v = s
      · exact Or.inl ⟨c, hvs c⟩
      · rw [dma_v]
        rcases hx with hx | hx
        · exact Or.inr (Or.inr ⟨c, hx.2.2⟩)
        · exact Or.inr (Or.inl ⟨c, hx.1, hx.2⟩)
  · rw [e, bs6, b0_f]
    exact ⟨-1, f, L', H', d, cb, rfl, by decide, by decide, Or.inl ⟨rfl, hno A (Int.le_refl _)⟩⟩
/-- the circles that stay: what keepToCheapest leaves -/
theorem x4_keep (h : NW n m F T C U) {L' H' b f p d0 cb0 : Nat → Int} (hLH : ∀ a, a < m → L' a = 0 ∧ H' a = C a) (hf : Flo n m (nfr F) (nfr T) L' H' b f) (hp : Pot m (nfr F) (nfr T) (npr U) L' H' f p) {N : Nat} (hN : 100 ≤ N) :
    ∃ L2 H2 d cb : Nat → Int, pX0_keepToCheapest N (iI n) (iI m) (iF F) (iF T) (iF C) (iF U) (iF f) (iF L') (iF H') (iF d0) (iF cb0) = some (iF L2, iF H2, iF d, iF cb) ∧ WF m C L2 H2 f ∧ ∀ g, Flo n m (nfr F) (nfr T) L2 H2 b g ↔ chp n m F T C U b (cst m (npr U) f) g := by
  have hw : WF m C L' H' f := flo_wf hf (fun a ha => ⟨Int.le_of_eq (hLH a ha).1.symm, Int.le_of_eq (hLH a ha).2⟩)
  obtain ⟨d, cb, e, hd⟩ := s_keepToCheapest (d0 := d0) (cb0 := cb0) h hw ⟨p, hp⟩ hN
  obtain ⟨k1, k2⟩ := keep_is h (flo_lh hf hLH) (pot_lh hd hLH)
  have e1 : ∀ a, a < m → fil (lof U C d F T) L' m a = lof U C d F T a := fun a ha => fil_lt _ _ ha
  have e2 : ∀ a, a < m → fil (hif U C d F T) H' m a = hif U C d F T a := fun a ha => fil_lt _ _ ha
  refine ⟨_, _, d, cb, e, fun a ha => by rw [e1 a ha, e2 a ha]; exact k1 a ha, fun g => ⟨fun hg => (k2 g).mpr (flo_lh hg fun a ha => ⟨e1 a ha, e2 a ha⟩), fun hg => flo_lh ((k2 g).mp hg) fun a ha => ⟨(e1 a ha).symm, (e2 a ha).symm⟩⟩⟩
def LowInv (n m : Nat) (F T C U : Nat → Int) (b : Nat → Int) (c : Int) (k : Nat) (O L H : Nat → Int) (v : Nat → Int) : Prop :=
  WF m C L H O ∧ (∀ w, w < n → net m (nfr F) (nfr T) O w = b w) ∧ LexOK (chp n m F T C U b c) v k ∧ ∀ g, Flo n m (nfr F) (nfr T) L H b g ↔ (chp n m F T C U b c g ∧ ∀ i, i < k → g i = v i)
theorem low_next (h : NW n m F T C U) {b : Nat → Int} {c : Int} {k : Nat} (hk : k < m) {v : Nat → Int} (hI : LowInv n m F T C U b c k O L H v) {cb0 : Nat → Int} {N : Nat} (hN : 300 ≤ N) :
    ∃ (x : Int) (f L' H' cb : Nat → Int), pX0_lower N (iI n) (iI m) (iF F) (iF T) (iF O) (iF L) (iF H) (iF cb0) (iI k) = some (iI x, iF f, iF L', iF H', iF cb) ∧ LowInv n m F T C U b c (k + 1) f L' H' (up v k x) ∧ 0 ≤ x ∧ x ≤ 15 := by
  obtain ⟨hw, hb, hl, hg⟩ := hI
  obtain ⟨x, f, cb, e, hfa, hw1, hw2, hn, hmin⟩ := s_lower (cb0 := cb0) h hw hk hN
  have hx := hw2 k hk
  rw [hfa] at hx
  have hff : Flo n m (nfr F) (nfr T) L H b f := ⟨fun a ha => ⟨(hw2 a ha).2.1, (hw2 a ha).2.2.1⟩, fun w hw' => by rw [hn w]; exact hb w hw'⟩
  have hvf := (hg f).mp hff
  have hu : ∀ i, i < k → up v k x i = v i := fun i hi => up_ne v x (by omega)
  have hC := h.2.2.2.1 k hk
  refine ⟨x, f, _, _, cb, e, ⟨hw1, fun w hw' => by rw [hn w]; exact hb w hw', ?_, ?_⟩, by omega, by omega⟩
  · intro i hi
    by_cases c1 : i < k
    · obtain ⟨⟨g, g1, g2⟩, g3⟩ := hl i c1
      refine ⟨⟨g, g1, fun e' he => by rw [hu e' (by omega)]; exact g2 e' he⟩, fun g' g1' g2' => ?_⟩
      rw [hu i c1]
      exact g3 g' g1' (fun e' he => by rw [← hu e' (by omega)]; exact g2' e' he)
    · have ei : i = k := by omega
      subst ei
      refine ⟨⟨f, hvf.1, fun e' he => ?_⟩, fun g' g1' g2' => ?_⟩
      · by_cases c2 : e' = i
        · subst c2; rw [up_eq]; exact hfa
        · rw [hu e' (by omega)]; exact hvf.2 e' (by omega)
      · rw [up_eq]
        have hF := (hg g').mpr ⟨g1', fun e' he => by rw [← hu e' he]; exact g2' e' he⟩
        exact hmin g' hF.1 (fun w hw' => by rw [hF.2 w hw', hb w hw'])
  · intro g
    constructor
    · intro hF
      have hgk : g k = x := by
        have := hF.1 k hk
        rw [up_eq, up_eq] at this
        omega
      have hF2 : Flo n m (nfr F) (nfr T) L H b g := by
        refine ⟨fun a ha => ?_, hF.2⟩
        by_cases c1 : a = k
        · subst c1; rw [hgk]; exact ⟨hx.2.1, hx.2.2.1⟩
        · have := hF.1 a ha
          rw [up_ne _ _ c1, up_ne _ _ c1] at this
          exact this
      have := (hg g).mp hF2
      refine ⟨this.1, fun i hi => ?_⟩
      by_cases c1 : i = k
      · subst c1; rw [up_eq]; exact hgk
      · rw [hu i (by omega)]; exact this.2 i (by omega)
    · rintro ⟨h1, h2⟩
      have hF := (hg g).mpr ⟨h1, fun i hi => by rw [← hu i hi]; exact h2 i (by omega)⟩
      refine ⟨fun a ha => ?_, hF.2⟩
      by_cases c1 : a = k
      · subst c1
        rw [up_eq, up_eq, h2 a (by omega), up_eq]
        exact ⟨Int.le_refl _, Int.le_refl _⟩
      · rw [up_ne _ _ c1, up_ne _ _ c1]
        exact hF.1 a ha
theorem low_run (h : NW n m F T C U) {b : Nat → Int} {c : Int} {a : Nat} (ha : a < m) {N : Nat} (hN : 300 ≤ N) : ∀ (M k : Nat) (O L H cb v : Nat → Int), k ≤ a → a - k < M → LowInv n m F T C U b c k O L H v →
    ∃ (O' L' H' cb' v' : Nat → Int), lp (un5 (pX4_flow_l38 N (iI m) (iF F) (iI n) (iF T) (iI a))) M (iI k, iF O, iF L, iF H, iF cb) = some (iI a, iF O', iF L', iF H', iF cb') ∧ LowInv n m F T C U b c a O' L' H' v' := by
  have hm := h.2.2.1
  intro M
  induction M with
  | zero => intro k O L H cb v _ hM _; omega
  | succ M ih =>
    intro k O L H cb v hk hM hI
    by_cases c1 : k = a
    · subst c1
      refine ⟨O, L, H, cb, v, ?_, hI⟩
      have e : un5 (pX4_flow_l38 N (iI m) (iF F) (iI n) (iF T) (iI k)) (iI k, iF O, iF L, iF H, iF cb) = some (.inl (iI k, iF O, iF L, iF H, iF cb)) := by
        show pX4_flow_l38 N (iI m) (iF F) (iI n) (iF T) (iI k) (iI k) (iF O) (iF L) (iF H) (iF cb) = _
        unfold pX4_flow_l38
        rw [le_y (Int.le_refl _) (by omega) (by omega)]
      exact lp_l e
    · obtain ⟨x, f, L', H', cb', e1, hI', _, _⟩ := low_next h (by omega : k < m) hI (cb0 := cb) hN
      obtain ⟨O2, L2, H2, cb2, v2, e2, h2⟩ := ih (k + 1) f L' H' cb' _ (by omega) (by omega) hI'
      refine ⟨O2, L2, H2, cb2, v2, ?_, h2⟩
      have e : un5 (pX4_flow_l38 N (iI m) (iF F) (iI n) (iF T) (iI a)) (iI k, iF O, iF L, iF H, iF cb) = some (.inr (iI ((k + 1 : Nat) : Int), iF f, iF L', iF H', iF cb')) := by
        show pX4_flow_l38 N (iI m) (iF F) (iI n) (iF T) (iI a) (iI k) (iF O) (iF L) (iF H) (iF cb) = _
        unfold pX4_flow_l38
        rw [le_n (by omega) (by omega) (by omega), e1, bs5, iI_s]
      exact (lp_r e).trans e2
theorem refArc (hm : m ≤ 12) {a : Nat} (ha : a < m) : pX4_refuseOtherThanArc (iI m) (iI a) = some (.inr ()) := by
  unfold pX4_refuseOtherThanArc
  rw [zl0, lt_n (by omega) (by omega) (by omega), lt_y (by omega) (by omega) (by omega)]; rfl
theorem x4_flow (h : NW n m F T C U) {d0 cb0 : Nat → Int} {s t : Nat} (hs : s < n) (ht : t < n) (hst : s ≠ t) {A : Nat} (hA : A ≤ 200) {a : Nat} (ha : a < m) {N : Nat} (hN : 20000 ≤ N) :
    ∃ (x : Int) (f L' H' d cb : Nat → Int), pX4_flow N (iI s) (iI t) (iI A) (iI n) (iI m) (iF F) (iF T) (iF C) (iF U) (iF O) (iF L) (iF H) (iF d0) (iF cb0) (iI a) = some (.inr (iI x, iF f, iF L', iF H', iF d, iF cb)) ∧ -1 ≤ x ∧ x ≤ 15 ∧ FlowSays n m F T C U (dem s t A) a x := by
  have hm := h.2.2.1
  unfold pX4_flow
  rw [refArc hm ha]
  show ∃ (x : Int) (f L' H' d cb : Nat → Int), rgt (bnd6 (pX0_meet N (iI n) (iI m) (iF F) (iF T) (iF C) (iF U) (iF O) (iF L) (iF H) (iF d0) (iF cb0) (iI s) (iI t) (iI A)) _) = _ ∧ _
  rcases s_meet (O := O) (L := L) (H := H) (d0 := d0) (cb0 := cb0) h hs ht hst hA (N := N) (by omega) with ⟨f, L', H', d, cb, e, hLH, hf, p, hp⟩ | ⟨f, L', H', d, cb, e, hno⟩
  · obtain ⟨L2, H2, d2, cb2, e2, hw2, hg2⟩ := x4_keep (d0 := d) (cb0 := cb) h hLH hf hp (N := N) (by omega)
    have hI : LowInv n m F T C U (dem s t A) (cst m (npr U) f) 0 f L2 H2 (fun _ => 0) := ⟨hw2, fun w hw => hf.2 w hw, fun i hi => by omega, fun g => ⟨fun hg => ⟨(hg2 g).mp hg, fun i hi => by omega⟩, fun hg => (hg2 g).mpr hg.1⟩⟩
    obtain ⟨O3, L3, H3, cb3, v3, e3, h3⟩ := low_run h ha (N := N) (by omega) N 0 f L2 H2 cb2 _ (by omega) (by omega) hI
    obtain ⟨x, f4, L4, H4, cb4, e4, h4, hx0, hx1⟩ := low_next h ha h3 (cb0 := cb3) (N := N) (by omega)
    rw [e, bs6, b0_t, e2, bs4]
    have e3' : lp (un5 (pX4_flow_l38 N (iI m) (iF F) (iI n) (iF T) (iI a))) N ((0 : Int32), iF f, iF L2, iF H2, iF cb2) = _ := e3
    rw [e3', bs5, e4, bs5]
    exact ⟨x, f4, L4, H4, d2, cb4, rfl, by omega, hx1, Or.inr ⟨_, _, min_of_pot h hLH hf hp, h4.2.2.1, up_eq _ _ _⟩⟩
  · rw [e, bs6, b0_f]
    exact ⟨-1, f, L', H', d, cb, rfl, by decide, by decide, Or.inl ⟨rfl, hno A (Int.le_refl _)⟩⟩
theorem x4_leastOn (h : NW n m F T C U) {d0 cb0 : Nat → Int} {s t : Nat} (hs : s < n) (ht : t < n) (hst : s ≠ t) {A : Nat} (hA : A ≤ 200) {a : Nat} (ha : a < m) {N : Nat} (hN : 20000 ≤ N) :
    ∃ (x : Int) (f L' H' d cb : Nat → Int), pX4_leastOn N (iI s) (iI t) (iI A) (iI n) (iI m) (iF F) (iF T) (iF C) (iF U) (iF O) (iF L) (iF H) (iF d0) (iF cb0) (iI a) = some (.inr (iI x, iF f, iF L', iF H', iF d, iF cb)) ∧ -1 ≤ x ∧ x ≤ 15 ∧ LeastSays n m F T C U (dem s t A) a 1 x := by
  have hm := h.2.2.1
  have hC := h.2.2.2.1 a ha
  unfold pX4_leastOn
  rw [refArc hm ha]
  show ∃ (x : Int) (f L' H' d cb : Nat → Int), rgt (bnd6 (pX0_meet N (iI n) (iI m) (iF F) (iF T) (iF C) (iF U) (iF O) (iF L) (iF H) (iF d0) (iF cb0) (iI s) (iI t) (iI A)) _) = _ ∧ _
  rcases s_meet (O := O) (L := L) (H := H) (d0 := d0) (cb0 := cb0) h hs ht hst hA (N := N) (by omega) with ⟨f, L', H', d, cb, e, hLH, hf, p, hp⟩ | ⟨f, L', H', d, cb, e, hno⟩
  · obtain ⟨L2, H2, d2, cb2, e2, hw2, hg2⟩ := x4_keep (d0 := d) (cb0 := cb) h hLH hf hp (N := N) (by omega)
    obtain ⟨x, f3, cb3, e3, hfa, _, hw3, hn3, hmin⟩ := s_lower (cb0 := cb2) h hw2 ha (N := N) (by omega)
    rw [e, bs6, b0_t, e2, bs4, e3, bs5]
    have hx := hw3 a ha
    rw [hfa] at hx
    refine ⟨x, f3, _, _, d2, cb3, rfl, by omega, by omega, Or.inr ⟨_, min_of_pot h hLH hf hp, ⟨f3, (hg2 f3).mp ⟨fun i hi => ⟨(hw3 i hi).2.1, (hw3 i hi).2.2.1⟩, fun w hw => by rw [hn3 w]; exact hf.2 w hw⟩, hfa⟩, fun g hg => ?_⟩⟩
    have hF := (hg2 g).mpr hg
    have := hmin g hF.1 (fun w hw => by rw [hF.2 w hw, hf.2 w hw])
    omega
  · rw [e, bs6, b0_f]
    exact ⟨-1, f, L', H', d, cb, rfl, by decide, by decide, Or.inl ⟨rfl, hno A (Int.le_refl _)⟩⟩
theorem x4_mostOn (h : NW n m F T C U) {d0 cb0 : Nat → Int} {s t : Nat} (hs : s < n) (ht : t < n) (hst : s ≠ t) {A : Nat} (hA : A ≤ 200) {a : Nat} (ha : a < m) {N : Nat} (hN : 20000 ≤ N) :
    ∃ (x : Int) (f L' H' d cb : Nat → Int), pX4_mostOn N (iI s) (iI t) (iI A) (iI n) (iI m) (iF F) (iF T) (iF C) (iF U) (iF O) (iF L) (iF H) (iF d0) (iF cb0) (iI a) = some (.inr (iI x, iF f, iF L', iF H', iF d, iF cb)) ∧ -1 ≤ x ∧ x ≤ 15 ∧ LeastSays n m F T C U (dem s t A) a (-1) x := by
  have hm := h.2.2.1
  have hC := h.2.2.2.1 a ha
  unfold pX4_mostOn
  rw [refArc hm ha]
  show ∃ (x : Int) (f L' H' d cb : Nat → Int), rgt (bnd6 (pX0_meet N (iI n) (iI m) (iF F) (iF T) (iF C) (iF U) (iF O) (iF L) (iF H) (iF d0) (iF cb0) (iI s) (iI t) (iI A)) _) = _ ∧ _
  rcases s_meet (O := O) (L := L) (H := H) (d0 := d0) (cb0 := cb0) h hs ht hst hA (N := N) (by omega) with ⟨f, L', H', d, cb, e, hLH, hf, p, hp⟩ | ⟨f, L', H', d, cb, e, hno⟩
  · obtain ⟨L2, H2, d2, cb2, e2, hw2, hg2⟩ := x4_keep (d0 := d) (cb0 := cb) h hLH hf hp (N := N) (by omega)
    obtain ⟨x, f3, cb3, e3, hfa, hw3, hn3, hmax⟩ := s_raise (cb0 := cb2) h hw2 ha (N := N) (by omega)
    rw [e, bs6, b0_t, e2, bs4, e3, bs5]
    have hx := hw3 a ha
    rw [hfa] at hx
    refine ⟨x, f3, _, _, d2, cb3, rfl, by omega, by omega, Or.inr ⟨_, min_of_pot h hLH hf hp, ⟨f3, (hg2 f3).mp ⟨fun i hi => ⟨(hw3 i hi).2.1, (hw3 i hi).2.2.1⟩, fun w hw => by rw [hn3 w]; exact hf.2 w hw⟩, hfa⟩, fun g hg => ?_⟩⟩
    have hF := (hg2 g).mpr hg
    have := hmax g hF.1 (fun w hw => by rw [hF.2 w hw, hf.2 w hw])
    omega
  · rw [e, bs6, b0_f]
    exact ⟨-1, f, L', H', d, cb, rfl, by decide, by decide, Or.inl ⟨rfl, hno A (Int.le_refl _)⟩⟩
end X4S
