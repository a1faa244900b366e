/-! the reference: flow, leastOn, mostOn, more -/
theorem s5_in {x lo hi : Int} (h1 : -2147483648 ≤ x) (h2 : x < 2147483648) (h3 : -2147483648 ≤ lo) (h4 : lo < 2147483648) (h5 : -2147483648 ≤ hi) (h6 : hi < 2147483648) : pX5_in (iI x) (iI lo) (iI hi) = some (decide (lo ≤ x ∧ x ≤ hi)) := by
  unfold pX5_in
  by_cases c1 : x < lo
  · rw [lt_y c1 h1 h4, decide_eq_false (by omega)]
  · rw [lt_n (by omega) h3 h2]
    by_cases c2 : hi < x
    · rw [lt_y c2 h5 h2, decide_eq_false (by omega)]
    · rw [lt_n (by omega) h1 h6, decide_eq_true (by omega)]
theorem s5_isNode {n : Nat} (hn : n ≤ 8) {x : Int} (h1 : -2147483648 ≤ x) (h2 : x < 2147483648) : pX5_isNode (iI n) (iI x) = some (decide (0 ≤ x ∧ x < n)) := by
  unfold pX5_isNode
  rw [zl1, iI_sub, zl0, s5_in h1 h2 (by omega) (by omega) (by omega) (by omega), bind_some]
  congr 1
  exact decide_eq_decide.mpr (by omega)
theorem s5_isArc {m : Nat} (hm : m ≤ 12) {x : Int} (h1 : -2147483648 ≤ x) (h2 : x < 2147483648) : pX5_isArc (iI m) (iI x) = some (decide (0 ≤ x ∧ x < m)) := by
  unfold pX5_isArc
  rw [zl1, iI_sub, zl0, s5_in h1 h2 (by omega) (by omega) (by omega) (by omega), bind_some]
  congr 1
  exact decide_eq_decide.mpr (by omega)
theorem gw0 : pX5_goesWell 0 = some (true, 0) := rfl
theorem gw1 : pX5_goesWell 1 = some (false, 1) := rfl
theorem gw2 : pX5_goesWell 2 = some (false, 2) := rfl
theorem gw3 : pX5_goesWell 3 = some (false, 3) := rfl
/-- the cheapest flows -/
def chp (n m : Nat) (F T C U : Nat → Int) (b : Nat → Int) (c : Int) (g : Nat → Int) : Prop := Flo n m (nfr F) (nfr T) (fun _ => 0) C b g ∧ cst m (npr U) g = c
section X5e
variable {n m : Nat} {F T C U O L H R d cb : Nat → Int} {mW mU mP : Nat → Int32}
/-- the bounds with the first k arcs at their values -/
theorem flo_fix {b v : Nat → Int} {k : Nat} {g : Nat → Int} (hC : ∀ a, a < m → 0 ≤ C a) (hv : ∀ i, i < k → 0 ≤ v i ∧ v i ≤ C i) (hkm : k ≤ m) : Flo n m (nfr F) (nfr T) (fun i => if i < k then v i else 0) (fun i => if i < k then v i else C i) b g ↔ (Flo n m (nfr F) (nfr T) (fun _ => 0) C b g ∧ ∀ i, i < k → g i = v i) := by
  constructor
  · intro hg
    refine ⟨⟨fun i hi => ?_, hg.2⟩, fun i hi => ?_⟩
    · have h1 := hg.1 i hi
      dsimp only at h1 ⊢
      by_cases e : i < k
      · rw [if_pos e, if_pos e] at h1; have := hv i e; omega
      · rw [if_neg e, if_neg e] at h1; exact h1
    · have h1 := hg.1 i (by omega)
      dsimp only at h1
      rw [if_pos hi, if_pos hi] at h1; omega
  · intro ⟨hg, h2⟩
    refine ⟨fun i hi => ?_, hg.2⟩
    have h1 := hg.1 i hi
    dsimp only at h1 ⊢
    by_cases e : i < k
    · rw [if_pos e, if_pos e]; have := h2 i e; omega
    · rw [if_neg e, if_neg e]; exact h1
theorem s5_fitmin {N : Nat} (hN : 20000 ≤ N) (h : NW n m F T C U) (hPr : PrOK N m C U mW mU) {s t : Nat} (hs : s < n) (ht : t < n) (hst : s ≠ t) {A : Int} (hA : 0 ≤ A ∧ A ≤ 200) {c : Int} (hc : 0 ≤ c ∧ c ≤ 20000) (hmin : IsMin n m (nfr F) (nfr T) (npr U) (fun _ => 0) C (dem s t A) c) {k : Nat} (hk : k < m) {v : Nat → Int} (hv : LexOK (chp n m F T C U (dem s t A) c) v k)
    (hLH : ∀ a, a < m → L a = (if a < k then v a else 0) ∧ H a = (if a < k then v a else C a)) :
    ∃ (x : Int) (O' R' d' cb' : Nat → Int), pX5_fit N (iI n) (iI m) (iI s) (iI t) (iI A) (iF F) (iF T) mW mU (iF L) (iF H) (iF O) (iF R) (iF d) (iF cb) (iI k) (iI c) 0 1 = some (iI x, iF L, iF H, iF O', iF R', iF d', iF cb') ∧
      LexOK (chp n m F T C U (dem s t A) c) (up v k x) (k + 1) := by
  have hC : ∀ a, a < m → 0 ≤ C a ∧ C a ≤ 15 := fun a ha => by have := h.2.2.2.1 a ha; omega
  -- a cheapest flow with the first k arcs at their values
  have hw : ∃ g, chp n m F T C U (dem s t A) c g ∧ ∀ e, e < k → g e = v e := by
    cases k with
    | zero => obtain ⟨⟨g, g1, g2⟩, -⟩ := hmin; exact ⟨g, ⟨g1, g2⟩, fun e he => by omega⟩
    | succ k => obtain ⟨⟨g, g1, g2⟩, -⟩ := hv k (by omega); exact ⟨g, g1, fun e he => g2 e (by omega)⟩
  obtain ⟨g0, ⟨g1, g2⟩, g3⟩ := hw
  have hvb : ∀ i, i < k → 0 ≤ v i ∧ v i ≤ C i := fun i hi => by have := g1.1 i (by omega); rw [g3 i hi] at this; exact this
  have hfix : ∀ g, Flo n m (nfr F) (nfr T) L H (dem s t A) g ↔ (Flo n m (nfr F) (nfr T) (fun _ => 0) C (dem s t A) g ∧ ∀ i, i < k → g i = v i) := by
    intro g
    rw [← flo_fix (fun a ha => (hC a ha).1) hvb (by omega)]
    exact ⟨fun q => flo_lh q hLH, fun q => flo_lh q (fun a ha => ⟨(hLH a ha).1.symm, (hLH a ha).2.symm⟩)⟩
  have hgk := g1.1 k hk
  dsimp only at hgk
  obtain ⟨j, O', R', d', cb', f1, f2, ⟨g, q1, q2, q3⟩, f4⟩ := s5_fit hN h hPr (L := L) (H := H) (O := O) (R := R) (d := d) (cb := cb) (fun a ha => by
      rw [(hLH a ha).1, (hLH a ha).2]
      have := hC a ha
      by_cases e : a < k
      · rw [if_pos e, if_pos e]; have := hvb a e; omega
      · rw [if_neg e, if_neg e]; omega) hs ht hst hA hk (by rw [(hLH k hk).1, (hLH k hk).2, if_neg (by omega), if_neg (by omega)]; exact ⟨rfl, rfl⟩) hc (fun g hg => hmin.2 g ((hfix g).mp hg).1)
    (fm := 0) (sg := 1) (J := (g0 k).toNat) (by have := hC k hk; omega) ⟨g0, (hfix g0).mpr ⟨g1, g3⟩, g2, by omega⟩ (fun j hj => by omega)
  refine ⟨0 + 1 * (j : Int), O', R', d', cb', f1, fun i hi => ?_⟩
  by_cases e : i = k
  · subst e
    refine ⟨⟨g, ⟨((hfix g).mp q1).1, q2⟩, fun e he => ?_⟩, fun g' hg' he => ?_⟩
    · by_cases e2 : e = i
      · rw [e2, up_eq]; exact q3
      · rw [up_ne _ _ e2]; exact ((hfix g).mp q1).2 e (by omega)
    · rw [up_eq]
      rcases Int.lt_or_le (g' i) (0 + 1 * (j : Int)) with q | q
      · exfalso
        have h1 := hg'.1.1 i hk
        dsimp only at h1
        refine f4 (g' i).toNat (by omega) ⟨g', (hfix g').mpr ⟨hg'.1, fun e he2 => ?_⟩, hg'.2, by omega⟩
        have := he e he2
        rw [up_ne _ _ (by omega)] at this
        exact this
      · exact q
  · obtain ⟨⟨g', p1, p2⟩, p3⟩ := hv i (by omega)
    refine ⟨⟨g', p1, fun e2 he => ?_⟩, fun g'' hg'' he => ?_⟩
    · rw [up_ne _ _ (by omega)]; exact p2 e2 he
    · rw [up_ne _ _ e]
      refine p3 g'' hg'' (fun e2 he2 => ?_)
      have := he e2 he2
      rw [up_ne _ _ (by omega)] at this
      exact this
/-- the amount on an arc in the chosen flow, or that there is none -/
def FlowSays (n m : Nat) (F T C U : Nat → Int) (b : Nat → Int) (a : Nat) (x : Int) : Prop :=
  (x = -1 ∧ NoFlo n m (nfr F) (nfr T) (fun _ => 0) C b) ∨ ∃ c v, IsMin n m (nfr F) (nfr T) (npr U) (fun _ => 0) C b c ∧ LexOK (chp n m F T C U b c) v (a + 1) ∧ v a = x
theorem flowSays_one {b : Nat → Int} {a : Nat} {x y : Int} (hx : FlowSays n m F T C U b a x) (hy : FlowSays n m F T C U b a y) : x = y := by
  rcases hx with ⟨x1, x2⟩ | ⟨c, v, x1, x2, x3⟩
  · rcases hy with ⟨y1, -⟩ | ⟨c', v', ⟨⟨f, y1, -⟩, -⟩, -, -⟩
    · omega
    · exact absurd y1 (x2 f)
  · rcases hy with ⟨y1, y2⟩ | ⟨c', v', y1, y2, y3⟩
    · obtain ⟨⟨f, f1, -⟩, -⟩ := x1
      exact absurd f1 (y2 f)
    · have e := ismin_one x1 y1
      subst e
      rw [← x3, ← y3]
      exact lex_uniq x2 y2 a (by omega)
def LeastSays (n m : Nat) (F T C U : Nat → Int) (b : Nat → Int) (a : Nat) (sg x : Int) : Prop :=
  (x = -1 ∧ NoFlo n m (nfr F) (nfr T) (fun _ => 0) C b) ∨ ∃ c, IsMin n m (nfr F) (nfr T) (npr U) (fun _ => 0) C b c ∧ (∃ g, chp n m F T C U b c g ∧ g a = x) ∧ ∀ g, chp n m F T C U b c g → sg * x ≤ sg * g a
theorem leastSays_one {b : Nat → Int} {a : Nat} {sg x y : Int} (hsg : sg = 1 ∨ sg = -1) (hx : LeastSays n m F T C U b a sg x) (hy : LeastSays n m F T C U b a sg y) : x = y := by
  rcases hx with ⟨x1, x2⟩ | ⟨c, x1, ⟨g, x2, x3⟩, x4⟩
  · rcases hy with ⟨y1, -⟩ | ⟨c', ⟨⟨f, y1, -⟩, -⟩, -, -⟩
    · omega
    · exact absurd y1 (x2 f)
  · rcases hy with ⟨y1, y2⟩ | ⟨c', y1, ⟨g', y2, y3⟩, y4⟩
    · obtain ⟨⟨f, f1, -⟩, -⟩ := x1
      exact absurd f1 (y2 f)
    · have e := ismin_one x1 y1
      subst e
      have h1 := x4 g' y2
      have h2 := y4 g x2
      rw [y3] at h1
      rw [x3] at h2
      rcases hsg with q | q <;> rw [q] at h1 h2 <;> omega
theorem lex_least {b : Nat → Int} {c x : Int} {v : Nat → Int} (h : LexOK (chp n m F T C U b c) v 0) : True := trivial
theorem s5_flow {N : Nat} (hN : 20000 ≤ N) (h : NW n m F T C U) (hPr : PrOK N m C U mW mU) (hCp : CpOK N m C mW mP) {s t : Nat} (hs : s < n) (ht : t < n) (hst : s ≠ t) {A : Int} (hA : 0 ≤ A ∧ A ≤ 200) {a : Nat} (ha : a < m) :
    ∃ (x : Int) (L' H' O' R' d' cb' : Nat → Int), pX5_flow N (iI n) (iI m) (iI s) (iI t) (iI A) (iF F) (iF T) mW mU mP (iF L) (iF H) (iF O) (iF R) (iF d) (iF cb) (iI a) = some (iI x, 0, iF L', iF H', iF O', iF R', iF d', iF cb') ∧ -1 ≤ x ∧ x ≤ 15 ∧ FlowSays n m F T C U (dem s t A) a x := by
  have hm : m ≤ 12 := h.2.2.1
  obtain ⟨c, L1, H1, O1, R1, d1, cb1, h1, h2, h3⟩ := s5_costOpen hN h hPr hCp (L := L) (H := H) (O := O) (R := R) (d := d) (cb := cb) hs ht hst hA
  unfold pX5_flow
  rw [s5_isArc hm (by omega) (by omega), bind_some, decide_eq_true (show (0 : Int) ≤ a ∧ (a : Int) < m by omega), b0_t, gw0, bs2, b0_t, h1, bs7]
  rcases h3 with ⟨c1, c2, c3⟩ | ⟨c1, c2⟩
  · rw [zlm, eq_n (by omega) (by omega) (by omega) (by omega) (by omega)]
    have hsame : pX5_flow_l36' N (iI m) (iF F) (iI t) (iI n) (iI A) (iI s) (iF T) mU mW (iI a) (iI c) = pX5_flow_l36 N (iI m) (iF F) (iI t) (iI n) (iI A) (iI s) (iF T) mU mW (iI a) (iI c) := rfl
    rw [hsame]
    obtain ⟨r, hr1, L', H', O', R', d', cb', v, hr2, hr3, hr4⟩ := lp_inv (step := un7 (pX5_flow_l36 N (iI m) (iF F) (iI t) (iI n) (iI A) (iI s) (iF T) mU mW (iI a) (iI c)))
      (fun q x => ∃ (k : Nat) (L' H' O' R' d' cb' v : Nat → Int), x = (iI k, iF L', iF H', iF O', iF R', iF d', iF cb') ∧ k + q = a ∧ LexOK (chp n m F T C U (dem s t A) c) v k ∧ ∀ i, i < m → L' i = (if i < k then v i else 0) ∧ H' i = (if i < k then v i else C i))
      (fun x => ∃ (L' H' O' R' d' cb' v : Nat → Int), x = (iI a, iF L', iF H', iF O', iF R', iF d', iF cb') ∧ LexOK (chp n m F T C U (dem s t A) c) v a ∧ ∀ i, i < m → L' i = (if i < a then v i else 0) ∧ H' i = (if i < a then v i else C i)) (by
      intro q x hI
      obtain ⟨k, L', H', O', R', d', cb', v, rfl, hk, hlex, hLH⟩ := hI
      show (∃ r, pX5_flow_l36 N (iI m) (iF F) (iI t) (iI n) (iI A) (iI s) (iF T) mU mW (iI a) (iI c) (iI k) (iF L') (iF H') (iF O') (iF R') (iF d') (iF cb') = some (.inl r) ∧ _) ∨ (∃ s', pX5_flow_l36 N (iI m) (iF F) (iI t) (iI n) (iI A) (iI s) (iF T) mU mW (iI a) (iI c) (iI k) (iF L') (iF H') (iF O') (iF R') (iF d') (iF cb') = some (.inr s') ∧ _)
      unfold pX5_flow_l36
      by_cases e : a ≤ k
      · left
        have e2 : k = a := by omega
        subst e2
        rw [le_y (by omega) (by omega) (by omega)]
        exact ⟨_, rfl, L', H', O', R', d', cb', v, rfl, hlex, hLH⟩
      · right
        obtain ⟨x, O2, R2, d2, cb2, f1, f2⟩ := s5_fitmin hN h hPr (O := O') (R := R') (d := d') (cb := cb') hs ht hst hA ⟨c1, c2⟩ c3 (k := k) (by omega) hlex hLH
        rw [le_n (by omega) (by omega) (by omega), f1, bs7, wr_n (by omega) (by omega), bind_some, wr_n (by omega) (by omega), bind_some, iI_s]
        refine ⟨_, rfl, q - 1, by omega, k + 1, _, _, _, _, _, _, up v k x, rfl, by omega, f2, fun i hi => ?_⟩
        by_cases e2 : i = k
        · rw [e2, up_eq, up_eq, up_eq, if_pos (by omega), if_pos (by omega)]; exact ⟨rfl, rfl⟩
        · rw [up_ne _ _ e2, up_ne _ _ e2, up_ne _ _ e2, (hLH i hi).1, (hLH i hi).2]
          by_cases e3 : i < k
          · rw [if_pos e3, if_pos e3, if_pos (by omega), if_pos (by omega)]; exact ⟨rfl, rfl⟩
          · rw [if_neg e3, if_neg e3, if_neg (by omega), if_neg (by omega)]; exact ⟨rfl, rfl⟩) N a (0, iF L1, iF H1, iF O1, iF R1, iF d1, iF cb1) ⟨0, L1, H1, O1, R1, d1, cb1, fun _ => 0, rfl, by omega, fun i hi => by omega, fun i hi => by rw [if_neg (by omega), if_neg (by omega)]; exact h2 i hi⟩ (by omega)
    obtain ⟨x, O2, R2, d2, cb2, f1, f2⟩ := s5_fitmin hN h hPr (O := O') (R := R') (d := d') (cb := cb') hs ht hst hA ⟨c1, c2⟩ c3 ha hr3 hr4
    rw [hr1, hr2, bs7, f1, bs7]
    obtain ⟨⟨g, g1, g2⟩, -⟩ := f2 a (by omega)
    have g3 := g1.1.1 a ha
    have g4 := h.2.2.2.1 a ha
    rw [g2 a (Nat.le_refl a), up_eq] at g3
    dsimp only at g3
    exact ⟨x, L', H', O2, R2, d2, cb2, rfl, by omega, by omega, Or.inr ⟨c, up v a x, c3, f2, up_eq _ _ _⟩⟩
  · rw [c1, zlm, eq_y rfl]
    exact ⟨-1, L1, H1, O1, R1, d1, cb1, rfl, by omega, by omega, Or.inl ⟨rfl, c2⟩⟩
theorem s5_leastOn {N : Nat} (hN : 20000 ≤ N) (h : NW n m F T C U) (hPr : PrOK N m C U mW mU) (hCp : CpOK N m C mW mP) {s t : Nat} (hs : s < n) (ht : t < n) (hst : s ≠ t) {A : Int} (hA : 0 ≤ A ∧ A ≤ 200) {a : Nat} (ha : a < m) :
    ∃ (x : Int) (L' H' O' R' d' cb' : Nat → Int), pX5_leastOn N (iI n) (iI m) (iI s) (iI t) (iI A) (iF F) (iF T) mW mU mP (iF L) (iF H) (iF O) (iF R) (iF d) (iF cb) (iI a) = some (iI x, 0, iF L', iF H', iF O', iF R', iF d', iF cb') ∧ -1 ≤ x ∧ x ≤ 15 ∧ LeastSays n m F T C U (dem s t A) a 1 x := by
  have hm : m ≤ 12 := h.2.2.1
  obtain ⟨c, L1, H1, O1, R1, d1, cb1, h1, h2, h3⟩ := s5_costOpen hN h hPr hCp (L := L) (H := H) (O := O) (R := R) (d := d) (cb := cb) hs ht hst hA
  unfold pX5_leastOn
  rw [s5_isArc hm (by omega) (by omega), bind_some, decide_eq_true (show (0 : Int) ≤ a ∧ (a : Int) < m by omega), b0_t, gw0, bs2, b0_t, h1, bs7]
  rcases h3 with ⟨c1, c2, c3⟩ | ⟨c1, c2⟩
  · rw [zlm, eq_n (by omega) (by omega) (by omega) (by omega) (by omega)]
    have h4 := h.2.2.2.1 a ha
    have h5 := c3.1
    obtain ⟨g0, g1, g2⟩ := h5
    have g3 := g1.1 a ha
    dsimp only at g3
    obtain ⟨j, O2, R2, d2, cb2, f1, f2, ⟨g, q1, q2, q3⟩, f4⟩ := s5_fit hN h hPr (L := L1) (H := H1) (O := O1) (R := R1) (d := d1) (cb := cb1) (fun i hi => by have := h2 i hi; have := h.2.2.2.1 i hi; omega) hs ht hst hA ha (h2 a ha) ⟨c1, c2⟩ (fun g hg => c3.2 g (flo_lh hg h2))
      (fm := 0) (sg := 1) (J := (g0 a).toNat) (by omega) ⟨g0, flo_lh g1 (fun i hi => ⟨(h2 i hi).1.symm, (h2 i hi).2.symm⟩), g2, by omega⟩ (fun j hj => by omega)
    rw [zl0, zl1, f1, bs7]
    refine ⟨_, L1, H1, O2, R2, d2, cb2, rfl, by omega, by omega, Or.inr ⟨c, c3, ⟨g, ⟨flo_lh q1 h2, q2⟩, q3⟩, fun g' hg' => ?_⟩⟩
    rcases Int.lt_or_le (g' a) (0 + 1 * (j : Int)) with q | q
    · exfalso
      have e1 := hg'.1.1 a ha
      dsimp only at e1
      exact f4 (g' a).toNat (by omega) ⟨g', flo_lh hg'.1 (fun i hi => ⟨(h2 i hi).1.symm, (h2 i hi).2.symm⟩), hg'.2, by omega⟩
    · omega
  · rw [c1, zlm, eq_y rfl]
    exact ⟨-1, L1, H1, O1, R1, d1, cb1, rfl, by omega, by omega, Or.inl ⟨rfl, c2⟩⟩
theorem s5_mostOn {N : Nat} (hN : 20000 ≤ N) (h : NW n m F T C U) (hPr : PrOK N m C U mW mU) (hCp : CpOK N m C mW mP) {s t : Nat} (hs : s < n) (ht : t < n) (hst : s ≠ t) {A : Int} (hA : 0 ≤ A ∧ A ≤ 200) {a : Nat} (ha : a < m) :
    ∃ (x : Int) (L' H' O' R' d' cb' : Nat → Int), pX5_mostOn N (iI n) (iI m) (iI s) (iI t) (iI A) (iF F) (iF T) mW mU mP (iF L) (iF H) (iF O) (iF R) (iF d) (iF cb) (iI a) = some (iI x, 0, iF L', iF H', iF O', iF R', iF d', iF cb') ∧ -1 ≤ x ∧ x ≤ 15 ∧ LeastSays n m F T C U (dem s t A) a (-1) x := by
  have hm : m ≤ 12 := h.2.2.1
  obtain ⟨c, L1, H1, O1, R1, d1, cb1, h1, h2, h3⟩ := s5_costOpen hN h hPr hCp (L := L) (H := H) (O := O) (R := R) (d := d) (cb := cb) hs ht hst hA
  unfold pX5_mostOn
  rw [s5_isArc hm (by omega) (by omega), bind_some, decide_eq_true (show (0 : Int) ≤ a ∧ (a : Int) < m by omega), b0_t, gw0, bs2, b0_t, h1, bs7]
  rcases h3 with ⟨c1, c2, c3⟩ | ⟨c1, c2⟩
  · rw [zlm, eq_n (by omega) (by omega) (by omega) (by omega) (by omega), hCp a ha, bind_some]
    have h4 := h.2.2.2.1 a ha
    have h5 := c3.1
    obtain ⟨g0, g1, g2⟩ := h5
    have g3 := g1.1 a ha
    dsimp only at g3
    obtain ⟨j, O2, R2, d2, cb2, f1, f2, ⟨g, q1, q2, q3⟩, f4⟩ := s5_fit hN h hPr (L := L1) (H := H1) (O := O1) (R := R1) (d := d1) (cb := cb1) (fun i hi => by have := h2 i hi; have := h.2.2.2.1 i hi; omega) hs ht hst hA ha (h2 a ha) ⟨c1, c2⟩ (fun g hg => c3.2 g (flo_lh hg h2))
      (fm := C a) (sg := -1) (J := (C a - g0 a).toNat) (by omega) ⟨g0, flo_lh g1 (fun i hi => ⟨(h2 i hi).1.symm, (h2 i hi).2.symm⟩), g2, by omega⟩ (fun j hj => by omega)
    rw [f1, bs7]
    refine ⟨_, L1, H1, O2, R2, d2, cb2, rfl, by omega, by omega, Or.inr ⟨c, c3, ⟨g, ⟨flo_lh q1 h2, q2⟩, q3⟩, fun g' hg' => ?_⟩⟩
    rcases Int.lt_or_le (C a + -1 * (j : Int)) (g' a) with q | q
    · exfalso
      have e1 := hg'.1.1 a ha
      dsimp only at e1
      exact f4 (C a - g' a).toNat (by omega) ⟨g', flo_lh hg'.1 (fun i hi => ⟨(h2 i hi).1.symm, (h2 i hi).2.symm⟩), hg'.2, by omega⟩
    · omega
  · rw [c1, zlm, eq_y rfl]
    exact ⟨-1, L1, H1, O1, R1, d1, cb1, rfl, by omega, by omega, Or.inl ⟨rfl, c2⟩⟩
/-- by how much a unit more makes the cheapest flows dearer, or that there is none -/
def MoreSays (n m : Nat) (F T C U : Nat → Int) (s t : Nat) (A : Int) (v : Nat) (x : Int) : Prop :=
  (x = -1 ∧ NoFlo n m (nfr F) (nfr T) (fun _ => 0) C (dem s t A)) ∨ ∃ c, IsMin n m (nfr F) (nfr T) (npr U) (fun _ => 0) C (dem s t A) c ∧ ((v = s ∧ x = 0) ∨ (v ≠ s ∧ x = -1 ∧ NoFlo n m (nfr F) (nfr T) (fun _ => 0) C (dma s t A v)) ∨ (v ≠ s ∧ IsMin n m (nfr F) (nfr T) (npr U) (fun _ => 0) C (dma s t A v) (c + x)))
theorem moreSays_one {s t v : Nat} {A x y : Int} (hx : MoreSays n m F T C U s t A v x) (hy : MoreSays n m F T C U s t A v y) : x = y := by
  rcases hx with ⟨x1, x2⟩ | ⟨c, x1, x2⟩
  · rcases hy with ⟨y1, -⟩ | ⟨c', ⟨⟨f, y1, -⟩, -⟩, -⟩
    · omega
    · exact absurd y1 (x2 f)
  · rcases hy with ⟨y1, y2⟩ | ⟨c', y1, y2⟩
    · obtain ⟨⟨f, f1, -⟩, -⟩ := x1
      exact absurd f1 (y2 f)
    · have e := ismin_one x1 y1
      subst e
      rcases x2 with ⟨p1, p2⟩ | ⟨p1, p2, p3⟩ | ⟨p1, p2⟩ <;> rcases y2 with ⟨q1, q2⟩ | ⟨q1, q2, q3⟩ | ⟨q1, q2⟩ <;> try omega
      · obtain ⟨⟨f, f1, -⟩, -⟩ := q2
        exact absurd f1 (p3 f)
      · obtain ⟨⟨f, f1, -⟩, -⟩ := p2
        exact absurd f1 (q3 f)
      · have := ismin_one p2 q2
        omega
theorem s5_more {N : Nat} (hN : 20000 ≤ N) (h : NW n m F T C U) (hPr : PrOK N m C U mW mU) (hCp : CpOK N m C mW mP) {s t : Nat} (hs : s < n) (ht : t < n) (hst : s ≠ t) {A : Int} (hA : 0 ≤ A ∧ A ≤ 200) {v : Nat} (hv : v < n) :
    ∃ (x : Int) (L' H' O' R' d' cb' : Nat → Int), pX5_more N (iI n) (iI m) (iI s) (iI t) (iI A) (iF F) (iF T) mW mU mP (iF L) (iF H) (iF O) (iF R) (iF d) (iF cb) (iI v) = some (iI x, 0, iF L', iF H', iF O', iF R', iF d', iF cb') ∧ -20000 ≤ x ∧ x ≤ 20000 ∧ MoreSays n m F T C U s t A v x := by
  have hm : m ≤ 12 := h.2.2.1
  have hn : n ≤ 8 := h.2.1
  obtain ⟨c, L1, H1, O1, R1, d1, cb1, h1, h2, h3⟩ := s5_costOpen hN h hPr hCp (L := L) (H := H) (O := O) (R := R) (d := d) (cb := cb) hs ht hst hA
  unfold pX5_more
  rw [s5_isNode hn (by omega) (by omega), bind_some, decide_eq_true (show (0 : Int) ≤ v ∧ (v : Int) < n by omega), b0_t, gw0, bs2, b0_t, h1, bs7]
  have hcb : -1 ≤ c ∧ c ≤ 20000 := by rcases h3 with ⟨a1, a2, -⟩ | ⟨a1, -⟩ <;> omega
  by_cases e : v = s
  · rw [eq_y (show (v : Int) = s by omega), zlm]
    rcases h3 with ⟨c1, c2, c3⟩ | ⟨c1, c2⟩
    · rw [eq_n (by omega) (by omega) (by omega) (by omega) (by omega), zlF, lt_y (by omega) (by omega) (by omega), iI_sub]
      exact ⟨_, L1, H1, O1, R1, d1, cb1, rfl, by omega, by omega, Or.inr ⟨c, c3, Or.inl ⟨e, by omega⟩⟩⟩
    · rw [eq_y c1]
      exact ⟨-1, L1, H1, O1, R1, d1, cb1, rfl, by omega, by omega, Or.inl ⟨rfl, c2⟩⟩
  · rw [eq_n (by omega) (by omega) (by omega) (by omega) (by omega)]
    obtain ⟨c', O2, R2, d2, cb2, f1, f2⟩ := s5_cheapest hN h (L := L1) (H := H1) (fun a ha => by rw [(h2 a ha).1, (h2 a ha).2]; have := h.2.2.2.1 a ha; omega) hPr (O0 := O1) (R0 := R1) (d0 := d1) (cb0 := cb1) hs ht hst hA (al := (v : Int)) (Or.inr (by omega))
    rw [f1, bs5, zlm, zlF]
    rcases h3 with ⟨c1, c2, c3⟩ | ⟨c1, c2⟩
    · rw [eq_n (by omega) (by omega) (by omega) (by omega) (by omega)]
      rcases f2 with ⟨g1, g2, g3⟩ | ⟨g1, g2⟩
      · rw [lt_y (by omega) (by omega) (by omega), iI_sub]
        exact ⟨_, L1, H1, O2, R2, d2, cb2, rfl, by omega, by omega, Or.inr ⟨c, c3, Or.inr (Or.inr ⟨e, by rw [show c + (c' - c) = c' by omega]; exact ismin_lh g3 h2⟩)⟩⟩
      · rw [g1, lt_n (by omega) (by omega) (by omega)]
        exact ⟨-1, L1, H1, O2, R2, d2, cb2, rfl, by omega, by omega, Or.inr ⟨c, c3, Or.inr (Or.inl ⟨e, rfl, noflo_lh g2 h2⟩)⟩⟩
    · rw [eq_y c1]
      exact ⟨-1, L1, H1, O2, R2, d2, cb2, rfl, by omega, by omega, Or.inl ⟨rfl, c2⟩⟩
end X5e
