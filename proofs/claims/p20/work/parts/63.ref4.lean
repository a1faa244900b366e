/-! the reference: its answers about flows -/
theorem ismin_lh {n m : Nat} {fr to : Nat → Nat} {pr : Nat → Nat → Int} {lo hi lo' hi' b : Nat → Int} {c : Int} (h : IsMin n m fr to pr lo hi b c) (he : ∀ a, a < m → lo a = lo' a ∧ hi a = hi' a) : IsMin n m fr to pr lo' hi' b c := by
  obtain ⟨⟨f, f1, f2⟩, f3⟩ := h
  exact ⟨⟨f, flo_lh f1 he, f2⟩, fun g hg => f3 g (flo_lh hg (fun a ha => ⟨(he a ha).1.symm, (he a ha).2.symm⟩))⟩
theorem noflo_lh {n m : Nat} {fr to : Nat → Nat} {lo hi lo' hi' b : Nat → Int} (h : NoFlo n m fr to lo hi b) (he : ∀ a, a < m → lo a = lo' a ∧ hi a = hi' a) : NoFlo n m fr to lo' hi' b := fun g hg => h g (flo_lh hg (fun a ha => ⟨(he a ha).1.symm, (he a ha).2.symm⟩))
theorem dma_m (s t : Nat) (A : Int) : dma s t A (-1) = dem s t A := funext fun v => by unfold dma; rw [if_pos rfl, Int.add_zero]
theorem up_back (F : Nat → Int) (k : Nat) (x : Int) : up (up F k x) k (F k) = F := by
  funext j
  unfold up
  by_cases h : j = k
  · rw [if_pos h, h]
  · rw [if_neg h, if_neg h]
def CpOK (N m : Nat) (C : Nat → Int) (mW mP : Nat → Int32) : Prop := ∀ a, a < m → pX5_capacityOf N mW mP (iI a) = some (iI (C a))
/-- the least values in turn -/
def LexOK (ch : (Nat → Int) → Prop) (v : Nat → Int) (k : Nat) : Prop := ∀ i, i < k → (∃ g, ch g ∧ ∀ e, e ≤ i → g e = v e) ∧ ∀ g, ch g → (∀ e, e < i → g e = v e) → v i ≤ g i
theorem lex_uniq {ch : (Nat → Int) → Prop} {v w : Nat → Int} {k : Nat} (hv : LexOK ch v k) (hw : LexOK ch w k) : ∀ i, i < k → v i = w i := by
  have key : ∀ j, j ≤ k → ∀ i, i < j → v i = w i := by
    intro j
    induction j with
    | zero => intro _ i hi; omega
    | succ j ih =>
      intro hj i hi
      by_cases e : i < j
      · exact ih (by omega) i e
      · have e2 : i = j := by omega
        subst e2
        obtain ⟨⟨g, g1, g2⟩, v2⟩ := hv i (by omega)
        obtain ⟨⟨g', g1', g2'⟩, w2⟩ := hw i (by omega)
        have h1 := v2 g' g1' (fun e he => by rw [g2' e (by omega)]; exact (ih (by omega) e he).symm)
        have h2 := w2 g g1 (fun e he => by rw [g2 e (by omega)]; exact ih (by omega) e he)
        rw [g2 i (Nat.le_refl i)] at h2
        rw [g2' i (Nat.le_refl i)] at h1
        omega
  exact fun i hi => key k (Nat.le_refl k) i hi
section X5d
variable {n m : Nat} {F T C U O L H R d cb : Nat → Int} {mW mU mP : Nat → Int32}
theorem s5_open {N : Nat} (hm : m ≤ 12) (hCp : CpOK N m C mW mP) (hN : 100 ≤ N) : pX5_open N (iI m) mW mP (iF L) (iF H) = some (iF (fil (fun _ => 0) L m), iF (fil C H m)) := by
  unfold pX5_open
  have hlp : lp (un3 (pX5_open_l2 N (iI m) mP mW)) N (0, iF L, iF H) = some (iI m, iF (fil (fun _ => 0) L m), iF (fil C H m)) := by
    rw [show ((0 : Int32), iF L, iF H) = (iI ((0 : Nat) : Int), iF (fil (fun _ => 0) L 0), iF (fil C H 0)) by rw [fil_0, fil_0]; rfl]
    refine lp_run (fun k : Nat => (iI (k : Int), iF (fil (fun _ => 0) L k), iF (fil C H k))) _ m (fun k hk => ?_) ?_ (by omega)
    · show pX5_open_l2 N (iI m) mP mW (iI (k : Nat)) (iF (fil (fun _ => 0) L k)) (iF (fil C H k)) = _
      unfold pX5_open_l2
      rw [le_n (by omega) (by omega) (by omega), zl0, wr_n (by omega) (by omega), bind_some, hCp k hk, bind_some, wr_n (by omega) (by omega), bind_some]
      rw [show up (fil (fun _ => 0) L k) k 0 = fil (fun _ => 0) L (k + 1) from fil_s _ _ _, fil_s, iI_s]
    · show pX5_open_l2 N (iI m) mP mW (iI (m : Nat)) (iF (fil (fun _ => 0) L m)) (iF (fil C H m)) = _
      unfold pX5_open_l2
      rw [le_y (by omega) (by omega) (by omega)]
  rw [hlp, bs3]
theorem cap_bd (h : NW n m F T C U) {s t : Nat} (hs : s < n) (hst : s ≠ t) {A : Int} {g : Nat → Int} (hg : Flo n m (nfr F) (nfr T) (fun _ => 0) C (dem s t A) g) : A ≤ 180 := by
  have hm : m ≤ 12 := h.2.2.1
  have h1 := net_bd (m := m) (fr := nfr F) (to := nfr T) (f := g) (fun a ha => by have := hg.1 a ha; have := h.2.2.2.1 a ha; dsimp only at *; omega) s
  have h2 := hg.2 s hs
  unfold dem at h2
  rw [if_pos rfl, if_neg (fun e => hst e.symm)] at h2
  omega
theorem s5_costOpen {N : Nat} (hN : 20000 ≤ N) (h : NW n m F T C U) (hPr : PrOK N m C U mW mU) (hCp : CpOK N m C mW mP) {s t : Nat} (hs : s < n) (ht : t < n) (hst : s ≠ t) {A : Int} (hA : 0 ≤ A ∧ A ≤ 200) :
    ∃ (c : Int) (L' H' O' R' d' cb' : Nat → Int), pX5_costOpen N (iI n) (iI m) (iI s) (iI t) (iI A) (iF F) (iF T) mW mU mP (iF L) (iF H) (iF O) (iF R) (iF d) (iF cb) = some (iI c, iF L', iF H', iF O', iF R', iF d', iF cb') ∧ (∀ a, a < m → L' a = 0 ∧ H' a = C a) ∧
      ((0 ≤ c ∧ c ≤ 20000 ∧ IsMin n m (nfr F) (nfr T) (npr U) (fun _ => 0) C (dem s t A) c) ∨ (c = -1 ∧ NoFlo n m (nfr F) (nfr T) (fun _ => 0) C (dem s t A))) := by
  have hm : m ≤ 12 := h.2.2.1
  have hLH : ∀ a, a < m → fil (fun _ => 0) L m a = 0 ∧ fil C H m a = C a := fun a ha => ⟨fil_lt _ _ ha, fil_lt _ _ ha⟩
  obtain ⟨c, O', R', d', cb', h1, h2⟩ := s5_cheapest hN h (L := fil (fun _ => 0) L m) (H := fil C H m) (fun a ha => by rw [(hLH a ha).1, (hLH a ha).2]; have := h.2.2.2.1 a ha; omega) hPr (O0 := O) (R0 := R) (d0 := d) (cb0 := cb) hs ht hst hA (al := -1) (Or.inl rfl)
  rw [dma_m] at h2
  have hrun : pX5_costOpen N (iI n) (iI m) (iI s) (iI t) (iI A) (iF F) (iF T) mW mU mP (iF L) (iF H) (iF O) (iF R) (iF d) (iF cb) = some (iI (if 1000000 ≤ c then -1 else c), iF (fil (fun _ => 0) L m), iF (fil C H m), iF O', iF R', iF d', iF cb') := by
    unfold pX5_costOpen
    rw [s5_open hm hCp (by omega), bs2, show (-1 : Int32) = iI (-1) from rfl, h1, bs5, zlF]
    rcases h2 with ⟨g1, g2, -⟩ | ⟨g1, -⟩
    · rw [le_n (by omega) (by omega) (by omega), if_neg (by omega)]
    · rw [g1, le_y (by omega) (by omega) (by omega), if_pos (by omega)]
  refine ⟨_, _, _, O', R', d', cb', hrun, hLH, ?_⟩
  rcases h2 with ⟨g1, g2, g3⟩ | ⟨g1, g2⟩
  · left; rw [if_neg (by omega)]; exact ⟨g1, g2, ismin_lh g3 hLH⟩
  · right; rw [if_pos (by omega)]; exact ⟨rfl, noflo_lh g2 hLH⟩
theorem s5_most {N : Nat} (hN : 20000 ≤ N) (h : NW n m F T C U) (hPr : PrOK N m C U mW mU) (hCp : CpOK N m C mW mP) {s t : Nat} (hs : s < n) (ht : t < n) (hst : s ≠ t) :
    ∃ (k : Nat) (L' H' O' R' d' cb' : Nat → Int), pX5_most N (iI n) (iI m) (iI s) (iI t) (iF F) (iF T) mW mU mP (iF L) (iF H) (iF O) (iF R) (iF d) (iF cb) = some (iI k, 0, iF L', iF H', iF O', iF R', iF d', iF cb') ∧ k ≤ 180 ∧
      (∀ j : Nat, 1 ≤ j → j ≤ k → ∃ g, Flo n m (nfr F) (nfr T) (fun _ => 0) C (dem s t j) g) ∧ NoFlo n m (nfr F) (nfr T) (fun _ => 0) C (dem s t ((k : Int) + 1)) := by
  have hm : m ≤ 12 := h.2.2.1
  have hLH : ∀ a, a < m → fil (fun _ => 0) L m a = 0 ∧ fil C H m a = C a := fun a ha => ⟨fil_lt _ _ ha, fil_lt _ _ ha⟩
  generalize hL1 : fil (fun _ => 0) L m = L1 at hLH
  generalize hH1 : fil C H m = H1 at hLH
  let P : Nat → Prop := fun k => k ≤ 180 ∧ ∀ j : Nat, 1 ≤ j → j ≤ k → ∃ g, Flo n m (nfr F) (nfr T) (fun _ => 0) C (dem s t j) g
  obtain ⟨r, hr1, k, O', R', d', cb', hr2, hr3, hr4⟩ := lp_inv (step := un5 (pX5_most_l11 N (iI m) (iF F) (iI t) (iF L1) (iF H1) (iI n) (iI s) (iF T) mU mW))
    (fun q x => ∃ (k : Nat) (O' R' d' cb' : Nat → Int), x = (iI k, iF O', iF R', iF d', iF cb') ∧ k + q = 181 ∧ P k)
    (fun x => ∃ (k : Nat) (O' R' d' cb' : Nat → Int), x = (iI k, iF O', iF R', iF d', iF cb') ∧ P k ∧ NoFlo n m (nfr F) (nfr T) (fun _ => 0) C (dem s t ((k : Int) + 1))) (by
    intro q x hI
    obtain ⟨k, O', R', d', cb', rfl, hq, hk, hP⟩ := hI
    show (∃ r, pX5_most_l11 N (iI m) (iF F) (iI t) (iF L1) (iF H1) (iI n) (iI s) (iF T) mU mW (iI k) (iF O') (iF R') (iF d') (iF cb') = some (.inl r) ∧ _) ∨ (∃ s', pX5_most_l11 N (iI m) (iF F) (iI t) (iF L1) (iF H1) (iI n) (iI s) (iF T) mU mW (iI k) (iF O') (iF R') (iF d') (iF cb') = some (.inr s') ∧ _)
    obtain ⟨c, O2, R2, d2, cb2, h1, h2⟩ := s5_cheapest hN h (L := L1) (H := H1) (fun a ha => by rw [(hLH a ha).1, (hLH a ha).2]; have := h.2.2.2.1 a ha; omega) hPr (O0 := O') (R0 := R') (d0 := d') (cb0 := cb') hs ht hst (A := (k : Int) + 1) (by omega) (al := -1) (Or.inl rfl)
    rw [dma_m] at h2
    unfold pX5_most_l11
    rw [show (-1 : Int32) = iI (-1) from rfl, zl1, iI_add, h1, bs5, zlF]
    rcases h2 with ⟨g1, g2, g3⟩ | ⟨g1, g2⟩
    · right
      rw [le_n (by omega) (by omega) (by omega)]
      obtain ⟨⟨g, e1, -⟩, -⟩ := ismin_lh g3 hLH
      have hcb := cap_bd h hs hst e1
      refine ⟨_, rfl, q - 1, by omega, k + 1, O2, R2, d2, cb2, rfl, by omega, by omega, fun j j1 j2 => ?_⟩
      by_cases e : j = k + 1
      · rw [e]; exact ⟨g, e1⟩
      · exact hP j j1 (by omega)
    · left
      rw [g1, le_y (by omega) (by omega) (by omega)]
      exact ⟨_, rfl, k, O2, R2, d2, cb2, rfl, ⟨hk, hP⟩, noflo_lh g2 hLH⟩) N 181 (0, iF O, iF R, iF d, iF cb) ⟨0, O, R, d, cb, rfl, rfl, by omega, fun j j1 j2 => by omega⟩ (by omega)
  refine ⟨k, L1, H1, O', R', d', cb', ?_, hr3.1, hr3.2, hr4⟩
  unfold pX5_most
  rw [s5_open hm hCp (by omega), bs2, hL1, hH1, hr1, hr2, bs5]
/-- amounts tried on an arc, one after the other, until the cheapest cost comes out -/
theorem s5_fit {N : Nat} (hN : 20000 ≤ N) (h : NW n m F T C U) (hPr : PrOK N m C U mW mU) (hLH : ∀ a, a < m → 0 ≤ L a ∧ L a ≤ H a ∧ H a ≤ C a) {s t : Nat} (hs : s < n) (ht : t < n) (hst : s ≠ t) {A : Int} (hA : 0 ≤ A ∧ A ≤ 200) {a : Nat} (ha : a < m) (hLa : L a = 0 ∧ H a = C a) {c : Int} (hc : 0 ≤ c ∧ c ≤ 20000) (hmin : ∀ g, Flo n m (nfr F) (nfr T) L H (dem s t A) g → c ≤ cst m (npr U) g)
    {fm sg : Int} {J : Nat} (hJ15 : J ≤ 15) (hJ : ∃ g, Flo n m (nfr F) (nfr T) L H (dem s t A) g ∧ cst m (npr U) g = c ∧ g a = fm + sg * J) (hb : ∀ j : Nat, j ≤ J → 0 ≤ fm + sg * j ∧ fm + sg * j ≤ C a) :
    ∃ (j : Nat) (O' R' d' cb' : Nat → Int), pX5_fit N (iI n) (iI m) (iI s) (iI t) (iI A) (iF F) (iF T) mW mU (iF L) (iF H) (iF O) (iF R) (iF d) (iF cb) (iI a) (iI c) (iI fm) (iI sg) = some (iI (fm + sg * j), iF L, iF H, iF O', iF R', iF d', iF cb') ∧ j ≤ J ∧
      (∃ g, Flo n m (nfr F) (nfr T) L H (dem s t A) g ∧ cst m (npr U) g = c ∧ g a = fm + sg * j) ∧ ∀ i : Nat, i < j → ¬ ∃ g, Flo n m (nfr F) (nfr T) L H (dem s t A) g ∧ cst m (npr U) g = c ∧ g a = fm + sg * i := by
  have hm : m ≤ 12 := h.2.2.1
  let G : Nat → Prop := fun i => ∃ g, Flo n m (nfr F) (nfr T) L H (dem s t A) g ∧ cst m (npr U) g = c ∧ g a = fm + sg * i
  obtain ⟨r, hr1, j, O', R', d', cb', hr2, hr3, hr4, hr5⟩ := lp_inv (step := un8 (pX5_fit_l6 N (iI m) (iF F) (iI t) (iI n) (iI A) (iI s) (iF T) mU mW (iI a) (iI c) (iI sg)))
    (fun q x => ∃ (j : Nat) (O' R' d' cb' : Nat → Int), (x = (iI (fm + sg * j), iI 0, iF L, iF H, iF O', iF R', iF d', iF cb') ∧ j ≤ J ∧ J + 2 = q + j ∧ ∀ i, i < j → ¬ G i) ∨ (x = (iI (fm + sg * j + sg), iI 1, iF L, iF H, iF O', iF R', iF d', iF cb') ∧ j ≤ J ∧ G j ∧ ∀ i, i < j → ¬ G i))
    (fun x => ∃ (j : Nat) (O' R' d' cb' : Nat → Int), x = (iI (fm + sg * j + sg), iI 1, iF L, iF H, iF O', iF R', iF d', iF cb') ∧ j ≤ J ∧ G j ∧ ∀ i, i < j → ¬ G i) (by
    intro q x hI
    obtain ⟨j, O', R', d', cb', hI⟩ := hI
    rcases hI with ⟨rfl, hj, hq, hno⟩ | ⟨rfl, hj, hG, hno⟩
    · right
      show ∃ s', pX5_fit_l6 N (iI m) (iF F) (iI t) (iI n) (iI A) (iI s) (iF T) mU mW (iI a) (iI c) (iI sg) (iI (fm + sg * j)) (iI 0) (iF L) (iF H) (iF O') (iF R') (iF d') (iF cb') = some (.inr s') ∧ _
      have hbj := hb j hj
      have hup : ∀ i, i < m → 0 ≤ up L a (fm + sg * j) i ∧ up L a (fm + sg * j) i ≤ up H a (fm + sg * j) i ∧ up H a (fm + sg * j) i ≤ C i := fun i hi => by
        by_cases e : i = a
        · subst e; rw [up_eq, up_eq]; omega
        · rw [up_ne _ _ e, up_ne _ _ e]; exact hLH i hi
      have hiff : ∀ g, Flo n m (nfr F) (nfr T) (up L a (fm + sg * j)) (up H a (fm + sg * j)) (dem s t A) g ↔ (Flo n m (nfr F) (nfr T) L H (dem s t A) g ∧ g a = fm + sg * j) := by
        intro g
        constructor
        · intro hg
          have h1 := hg.1 a ha
          rw [up_eq, up_eq] at h1
          refine ⟨⟨fun i hi => ?_, hg.2⟩, by omega⟩
          have h2 := hg.1 i hi
          by_cases e : i = a
          · subst e; omega
          · rw [up_ne _ _ e, up_ne _ _ e] at h2; exact h2
        · intro ⟨hg, h1⟩
          refine ⟨fun i hi => ?_, hg.2⟩
          have h2 := hg.1 i hi
          by_cases e : i = a
          · subst e; rw [up_eq, up_eq]; omega
          · rw [up_ne _ _ e, up_ne _ _ e]; exact h2
      obtain ⟨c1, O2, R2, d2, cb2, h1, h2⟩ := s5_cheapest hN h (L := up L a (fm + sg * j)) (H := up H a (fm + sg * j)) hup hPr (O0 := O') (R0 := R') (d0 := d') (cb0 := cb') hs ht hst hA (al := -1) (Or.inl rfl)
      rw [dma_m] at h2
      unfold pX5_fit_l6
      rw [eq0_y rfl, rd_n (by omega) (by omega), bind_some, rd_n (by omega) (by omega), bind_some, wr_n (by omega) (by omega), bind_some, wr_n (by omega) (by omega), bind_some, show (-1 : Int32) = iI (-1) from rfl, h1, bs5, wr_n (by omega) (by omega), wr_n (by omega) (by omega), bind_some, bind_some, up_back, up_back, iI_add]
      by_cases e : c1 = c
      · rw [e, eq_y rfl]
        refine ⟨_, rfl, q - 1, by omega, j, O2, R2, d2, cb2, Or.inr ⟨rfl, hj, ?_, hno⟩⟩
        rcases h2 with ⟨-, -, ⟨g, g1, g2⟩, -⟩ | ⟨g1, -⟩
        · obtain ⟨g3, g4⟩ := (hiff g).mp g1
          exact ⟨g, g3, by omega, g4⟩
        · omega
      · have hc1 : 0 ≤ c1 ∧ c1 ≤ 1000000 := by rcases h2 with ⟨g1, g2, -⟩ | ⟨g1, -⟩ <;> omega
        rw [eq_n e (by omega) (by omega) (by omega) (by omega)]
        have hnj : ¬ G j := by
          intro ⟨g, g1, g2, g3⟩
          have g4 := (hiff g).mpr ⟨g1, g3⟩
          rcases h2 with ⟨-, -, ⟨f, f1, f2⟩, f3⟩ | ⟨-, f1⟩
          · have e1 := f3 g g4
            have e2 := hmin f ((hiff f).mp f1).1
            omega
          · exact f1 g g4
        have hjJ : j < J := by
          rcases Nat.lt_or_ge j J with g | g
          · exact g
          · exfalso
            have : j = J := by omega
            subst this
            exact hnj hJ
        refine ⟨_, rfl, q - 1, by omega, j + 1, O2, R2, d2, cb2, Or.inl ⟨?_, by omega, by omega, fun i hi => ?_⟩⟩
        · rw [show fm + sg * ((j + 1 : Nat) : Int) = fm + sg * j + sg by rw [show ((j + 1 : Nat) : Int) = (j : Int) + 1 from rfl, Int.mul_add, Int.mul_one]; omega]; rfl
        · by_cases e2 : i = j
          · rw [e2]; exact hnj
          · exact hno i (by omega)
    · left
      show ∃ r, pX5_fit_l6 N (iI m) (iF F) (iI t) (iI n) (iI A) (iI s) (iF T) mU mW (iI a) (iI c) (iI sg) (iI (fm + sg * j + sg)) (iI 1) (iF L) (iF H) (iF O') (iF R') (iF d') (iF cb') = some (.inl r) ∧ _
      unfold pX5_fit_l6
      rw [eq0_n (by omega) (by omega) (by omega)]
      exact ⟨_, rfl, j, O', R', d', cb', rfl, hj, hG, hno⟩) N (J + 2) (iI fm, 0, iF L, iF H, iF O, iF R, iF d, iF cb) ⟨0, O, R, d, cb, Or.inl ⟨by rw [show fm + sg * ((0 : Nat) : Int) = fm by simp]; rfl, by omega, by omega, fun i hi => by omega⟩⟩ (by omega)
  refine ⟨j, O', R', d', cb', ?_, hr3, hr4, hr5⟩
  unfold pX5_fit
  rw [hr1, hr2, bs8, iI_sub, show fm + sg * (j : Int) + sg - sg = fm + sg * j by omega]
end X5d
