/-! rows of my own: units and circles: taking a circle out -/
section UNC
variable {n m : Nat} {F T C U τ : Nat → Int}
def UPot (m : Nat) (F T C U τ : Nat → Int) : Prop := ∃ p : Nat → Int, ∀ u, u < 15 * m → uok C u = true → p (uen F T τ u) ≤ p (ust F T τ u) + uwt U τ u
theorem usw1 (U τ : Nat → Int) (u : Nat) : usw U τ 1 u = uwt U τ u := if_neg (by decide)
theorem rnk_le {st en : Nat → Nat} {w : Nat → Int} {ok : Nat → Bool} {x : BX} : ∀ (k v : Nat), (rnk st en w ok x k).1 v ≤ x.1 v := by
  intro k
  induction k with
  | zero => intro v; exact Int.le_refl _
  | succ k ih =>
    intro v
    refine Int.le_trans ?_ (ih v)
    show (rlx st en w ok (rnk st en w ok x k) k).1 v ≤ _
    unfold rlx
    by_cases c : ok k = true ∧ (rnk st en w ok x k).1 (st k) < 1000000 ∧ (rnk st en w ok x k).1 (st k) + w k < (rnk st en w ok x k).1 (en k)
    · rw [if_pos c]
      dsimp only
      by_cases e : v = en k
      · rw [e, up_eq]; omega
      · rw [up_ne _ _ e]; exact Int.le_refl _
    · rw [if_neg c]; exact Int.le_refl _
theorem rns_le {S : Nat} {st en : Nat → Nat} {w : Nat → Int} {ok : Nat → Bool} {x : BX} : ∀ (k v : Nat), (rns S st en w ok x k).1 v ≤ x.1 v := by
  intro k
  induction k with
  | zero => intro v; exact Int.le_refl _
  | succ k ih => intro v; exact Int.le_trans (rnk_le S v) (ih v)
theorem agn_add (st : Nat → Nat) (cb : Nat → Int) (v q : Nat) : ∀ i, agn st cb (agn st cb v q) i = agn st cb v (q + i) := by
  intro i
  induction i with
  | zero => rfl
  | succ i ih =>
    show st (cb (agn st cb (agn st cb v q) i)).toNat = st (cb (agn st cb v (q + i))).toNat
    rw [ih]
/-- where one comes by n steps back: on a circle -/
theorem circle_of {n : Nat} {st : Nat → Nat} {cb : Nat → Int} {v : Nat} (hl : ∀ i, i ≤ n → agn st cb v i < n) (hc : ∀ i, i < n → cb (agn st cb v i) ≠ -1) :
    ∃ (z P q : Nat), z = agn st cb v n ∧ 1 ≤ P ∧ P ≤ n ∧ agn st cb z P = z ∧ (∀ i, i ≤ P → agn st cb z i = agn st cb v (q + i)) ∧ q + P ≤ n ∧ ∀ i j, i < j → j < P → agn st cb z i ≠ agn st cb z j := by
  obtain ⟨i, j, p1, p2, p3⟩ := pigeon n (agn st cb v) hl
  have hz : agn st cb v (i + (n - j)) = agn st cb v n := by
    rw [← agn_add, p3, agn_add, show j + (n - j) = n by omega]
  have hq : ∀ k, agn st cb (agn st cb v n) k = agn st cb v (i + (n - j) + k) := fun k => by rw [← hz, agn_add]
  obtain ⟨P, a1, a2, a3⟩ := least_of (P := fun k => agn st cb (agn st cb v n) (k + 1) = agn st cb v n) (j - i) ⟨j - i - 1, by omega, by rw [hq, show i + (n - j) + (j - i - 1 + 1) = n by omega]⟩
  refine ⟨agn st cb v n, P + 1, i + (n - j), rfl, by omega, by omega, a2, fun k hk => hq k, by omega, fun x y hxy hy e => ?_⟩
  have e2 : agn st cb (agn st cb v n) (x + (P + 1 - y)) = agn st cb v n := by
    rw [← agn_add, e, agn_add, show y + (P + 1 - y) = P + 1 by omega, a2]
  exact a3 (x + (P + 1 - y) - 1) (by omega) (by rw [show x + (P + 1 - y) - 1 + 1 = x + (P + 1 - y) by omega]; exact e2)
theorem neg_circle {n S : Nat} {st en : Nat → Nat} {w : Nat → Int} {ok : Nat → Bool} {r tau : Nat → Nat} {d cb : Nat → Int} (h1 : bi_pred S n st en w ok r tau d cb) {z P : Nat} (hP : 1 ≤ P) (hz : agn st cb z P = z) (hl : ∀ i, i < P → agn st cb z i < n ∧ cb (agn st cb z i) ≠ -1) : sm (fun j => w (cb (agn st cb z j)).toNat) P ≤ -1 := by
  have key : ∀ i, i ≤ P → (i = 0 ∨ sm (fun j => w (cb (agn st cb z j)).toNat) i < d z - d (agn st cb z i) ∨ (sm (fun j => w (cb (agn st cb z j)).toNat) i = d z - d (agn st cb z i) ∧ tau (agn st cb z i) < tau z)) := by
    intro i
    induction i with
    | zero => intro _; exact Or.inl rfl
    | succ i ih =>
      intro hi
      right
      obtain ⟨g1, g2⟩ := hl i (by omega)
      rcases h1 _ g1 with f | ⟨t, t1, t2, t3, t4, t5, t6, -⟩
      · exact absurd f g2
      · have e1 : (cb (agn st cb z i)).toNat = t := by rw [t2]; rfl
        have e2 : agn st cb z (i + 1) = st t := by
          show st (cb (agn st cb z i)).toNat = _
          rw [e1]
        show (sm _ i + w (cb (agn st cb z i)).toNat < _) ∨ (sm _ i + w (cb (agn st cb z i)).toNat = _ ∧ _)
        rw [e1, e2]
        have hz0 : i = 0 → agn st cb z i = z ∧ sm (fun j => w (cb (agn st cb z j)).toNat) i = 0 := by
          rintro rfl
          exact ⟨rfl, rfl⟩
        rcases ih (by omega) with c | c | ⟨c1, c2⟩
        · obtain ⟨z1, z2⟩ := hz0 c
          rw [z1] at t6
          rw [z2]
          rcases t6 with t6 | ⟨t6, t7⟩
          · left; omega
          · right; exact ⟨by omega, t7⟩
        · left
          rcases t6 with t6 | ⟨t6, t7⟩ <;> omega
        · rcases t6 with t6 | ⟨t6, t7⟩
          · left; omega
          · right; exact ⟨by omega, by omega⟩
  rcases key P (Nat.le_refl P) with c | c | ⟨c1, c2⟩
  · omega
  · rw [hz] at c; omega
  · rw [hz] at c2; omega
theorem bch_agn {st : Nat → Nat} {cb : Nat → Int} {v R : Nat} (hc : ∀ i, i < R → cb (bch st cb v i) ≠ -1) : ∀ i, i ≤ R → bch st cb v i = agn st cb v i := by
  intro i
  induction i with
  | zero => intro _; rfl
  | succ i ih =>
    intro hi
    show bpar st cb (bch st cb v i) = st (cb (agn st cb v i)).toNat
    unfold bpar
    rw [if_neg (hc i (by omega)), ih (by omega)]
theorem s3_circle (h : NW n m F T C U) (hτ : UOK m C τ) {D0 B0 : Nat → Int} {N : Nat} (hN : 100 ≤ N) :
    (∃ τ' d cb : Nat → Int, pX3_takeOutCircle N (iI n) (iI m) (iF F) (iF T) (iF C) (iF U) (iF τ) (iF D0) (iF B0) = some (true, iF τ', iF d, iF cb) ∧ UOK m C τ' ∧ (∀ w, unet m F T τ' w = unet m F T τ w) ∧ uc m U τ' ≤ uc m U τ - 1) ∨
    (∃ d cb : Nat → Int, pX3_takeOutCircle N (iI n) (iI m) (iF F) (iF T) (iF C) (iF U) (iF τ) (iF D0) (iF B0) = some (false, iF τ, iF d, iF cb) ∧ UPot m F T C U τ) := by
  have hn : 2 ≤ n ∧ n ≤ 8 := ⟨h.1, h.2.1⟩
  have hm : m ≤ 12 := h.2.2.1
  have hst := u_st h τ
  have hwt := usw_bd h τ 1
  let d0 : Nat → Int := fil (fun _ => 0) D0 n
  let c0 : Nat → Int := fil (fun _ => -1) B0 n
  have hini : lp (un3 (pX3_takeOutCircle_l2 (iI n))) N (0, iF D0, iF B0) = some (iI n, iF d0, iF c0) := by
    rw [show ((0 : Int32), iF D0, iF B0) = (iI ((0 : Nat) : Int), iF (fil (fun _ => 0) D0 0), iF (fil (fun _ => -1) B0 0)) by rw [fil_0, fil_0]; rfl]
    refine lp_run (fun k : Nat => (iI (k : Int), iF (fil (fun _ => 0) D0 k), iF (fil (fun _ => -1) B0 k))) _ n (fun k hk => ?_) ?_ (by omega)
    · show pX3_takeOutCircle_l2 (iI n) (iI (k : Nat)) (iF (fil (fun _ => 0) D0 k)) (iF (fil (fun _ => -1) B0 k)) = _
      unfold pX3_takeOutCircle_l2
      rw [le_n (by omega) (by omega) (by omega), zl0, zlm, wr_n (by omega) (by omega), bind_some, wr_n (by omega) (by omega), bind_some]
      rw [show (0 : Int) = (fun _ : Nat => (0 : Int)) k from rfl, fil_s, show (-1 : Int) = (fun _ : Nat => (-1 : Int)) k from rfl, fil_s, iI_s]
    · show pX3_takeOutCircle_l2 (iI n) (iI (n : Nat)) _ _ = _
      unfold pX3_takeOutCircle_l2
      rw [le_y (by omega) (by omega) (by omega)]
  let X : Nat → BX := rns (15 * m) (ust F T τ) (uen F T τ) (usw U τ 1) (uok C) (d0, c0, -1)
  have hI0 : BI (15 * m) n (ust F T τ) (uen F T τ) (usw U τ 1) (uok C) d0 0 (15 * m) (d0, c0, -1) := bi_init d0 c0 (-1) (fun v hv => fil_lt _ _ hv)
  have hB : ∀ k, BI (15 * m) n (ust F T τ) (uen F T τ) (usw U τ 1) (uok C) d0 k (15 * m) (X k) := bi_rns hst hI0
  have hb0 : bb n 0 ((d0, c0, -1) : BX).1 := by
    intro v hv
    show fil (fun _ => 0) D0 n v = _ ∨ (_ ≤ fil (fun _ => 0) D0 n v ∧ fil (fun _ => 0) D0 n v ≤ _)
    rw [fil_lt _ _ hv]
    right; omega
  have hbb : ∀ k : Nat, bb n (k * (15 * m : Nat)) (X k).1 := bb_rns hst hwt hb0
  have hround : ∀ k, k < n → pX3_shortenAll N (iI m) (iF F) (iF T) (iF C) (iF U) (iF τ) (iF (X k).1) (iF (X k).2.1) 1 = some (iI (X (k + 1)).2.2, iF (X (k + 1)).1, iF (X (k + 1)).2.1) := by
    intro k hk
    have hkm : (k : Int) * (15 * m : Nat) ≤ 1260 := by
      have := Int.mul_le_mul (show (k : Int) ≤ 7 by omega) (show ((15 * m : Nat) : Int) ≤ 180 by omega) (by omega) (by omega)
      omega
    have hkm0 : 0 ≤ (k : Int) * (15 * m : Nat) := Int.mul_nonneg (by omega) (by omega)
    have hYb := bb_rnk hst hwt (x := ((X k).1, (X k).2.1, -1)) hkm0 (hbb k)
    exact s3_short (p := 1) h hτ (Or.inr rfl) (x0 := ((X k).1, (X k).2.1, -1)) rfl (fun j hj v hv => by have := hYb j hj v hv; omega) hN
  have hch : ∀ k, -1 ≤ (X (k + 1)).2.2 ∧ (X (k + 1)).2.2 ≤ 8 := by
    intro k
    obtain ⟨r, tau, T', -, -, -, -, -, g⟩ := hB (k + 1)
    by_cases c : (X (k + 1)).2.2 = -1
    · omega
    · obtain ⟨v, v1, v2, -⟩ := (g (by omega)).2 c
      omega
  let Fg : Nat → Int := fun k => if k = 0 then 0 else (X k).2.2
  have hstep : ∀ k, k < n → Fg k ≠ -1 → un4 (pX3_takeOutCircle_l37 N (iI m) (iF C) (iF F) (iI n) (iF T) (iF U) (iF τ)) (iI (Fg k), iI (k : Nat), iF (X k).1, iF (X k).2.1) = some (.inr (iI (Fg (k + 1)), iI ((k + 1 : Nat) : Int), iF (X (k + 1)).1, iF (X (k + 1)).2.1)) := by
    intro k hk hf
    show pX3_takeOutCircle_l37 N (iI m) (iF C) (iF F) (iI n) (iF T) (iF U) (iF τ) (iI (Fg k)) (iI (k : Nat)) (iF (X k).1) (iF (X k).2.1) = _
    have hfb : -1 ≤ Fg k ∧ Fg k ≤ 8 := by
      show -1 ≤ (if k = 0 then (0 : Int) else (X k).2.2) ∧ (if k = 0 then (0 : Int) else (X k).2.2) ≤ 8
      by_cases c : k = 0
      · rw [if_pos c]; omega
      · rw [if_neg c]
        have := hch (k - 1)
        rw [show k - 1 + 1 = k by omega] at this
        exact this
    unfold pX3_takeOutCircle_l37
    rw [le_n (by omega) (by omega) (by omega), zlm, eq_n hf (by omega) (by omega) (by omega) (by omega), hround k hk, bs3, iI_s]
    rw [show Fg (k + 1) = (X (k + 1)).2.2 from if_neg (by omega)]
  by_cases hA : ∃ k, k < n ∧ (X (k + 1)).2.2 = -1
  · obtain ⟨K', k1, k2, k3⟩ := least_of (P := fun k => (X (k + 1)).2.2 = -1) n hA
    have hfne : ∀ k, k < K' + 1 → Fg k ≠ -1 := by
      intro k hk
      show (if k = 0 then (0 : Int) else (X k).2.2) ≠ -1
      by_cases c : k = 0
      · rw [if_pos c]; decide
      · rw [if_neg c]
        have := k3 (k - 1) (by omega)
        rw [show k - 1 + 1 = k by omega] at this
        exact this
    have hlp : lp (un4 (pX3_takeOutCircle_l37 N (iI m) (iF C) (iF F) (iI n) (iF T) (iF U) (iF τ))) N (iI (Fg 0), iI ((0 : Nat) : Int), iF (X 0).1, iF (X 0).2.1) = some (iI (-1), iI ((K' + 1 : Nat) : Int), iF (X (K' + 1)).1, iF (X (K' + 1)).2.1) := by
      refine lp_run (fun k => (iI (Fg k), iI (k : Nat), iF (X k).1, iF (X k).2.1)) _ (K' + 1) (fun k hk => hstep k (by omega) (hfne k hk)) ?_ (by omega)
      show pX3_takeOutCircle_l37 _ _ _ _ _ _ _ _ (iI (Fg (K' + 1))) _ _ _ = _
      rw [show Fg (K' + 1) = -1 from (if_neg (by omega)).trans k2]
      unfold pX3_takeOutCircle_l37
      by_cases c : n ≤ K' + 1
      · rw [le_y (by omega) (by omega) (by omega)]
      · rw [le_n (by omega) (by omega) (by omega), zlm, if_pos rfl]
    right
    refine ⟨(X (K' + 1)).1, (X (K' + 1)).2.1, ?_, (X (K' + 1)).1, fun u hu ho => ?_⟩
    · unfold pX3_takeOutCircle
      have hlp' : lp (un4 (pX3_takeOutCircle_l37 N (iI m) (iF C) (iF F) (iI n) (iF T) (iF U) (iF τ))) N ((0 : Int32), (0 : Int32), iF d0, iF c0) = _ := hlp
      rw [hini, bs3, hlp', bs4]
      have hl2 : lp (un2 (pX3_takeOutCircle_l67 (iF F) (iI n) (iF T) (iF (X (K' + 1)).2.1) (iF τ))) N (iI (-1), 0) = some (iI (-1), 0) := by
        obtain ⟨M, rfl⟩ : ∃ q, N = q + 1 := ⟨N - 1, by omega⟩
        apply lp_l
        show pX3_takeOutCircle_l67 _ _ _ _ _ _ _ = _
        unfold pX3_takeOutCircle_l67
        rw [show (0 : Int32) = iI 0 from rfl, le_n (by omega) (by omega) (by omega), zlm, if_pos rfl]
      rw [hl2, bs2, zlm, if_pos rfl]
    · have hle := rns_le (S := 15 * m) (st := ust F T τ) (en := uen F T τ) (w := usw U τ 1) (ok := uok C) (x := (d0, c0, -1)) (K' + 1) (ust F T τ u)
      have hl : (X (K' + 1)).1 (ust F T τ u) ≤ 0 := Int.le_trans hle (by show fil (fun _ => 0) D0 n (ust F T τ u) ≤ 0; rw [fil_lt _ _ (hst u hu ho).1]; exact Int.le_refl _)
      have := bi_rest hst (by omega) (hB (K' + 1)) k2 u hu ho (by omega)
      rw [usw1] at this
      exact this
  · have hfne : ∀ k, k < n + 1 → Fg k ≠ -1 := by
      intro k hk
      show (if k = 0 then (0 : Int) else (X k).2.2) ≠ -1
      by_cases c : k = 0
      · rw [if_pos c]; decide
      · rw [if_neg c]
        intro e
        exact hA ⟨k - 1, by omega, by rw [show k - 1 + 1 = k by omega]; exact e⟩
    have hlp : lp (un4 (pX3_takeOutCircle_l37 N (iI m) (iF C) (iF F) (iI n) (iF T) (iF U) (iF τ))) N (iI (Fg 0), iI ((0 : Nat) : Int), iF (X 0).1, iF (X 0).2.1) = some (iI (Fg n), iI (n : Nat), iF (X n).1, iF (X n).2.1) := by
      refine lp_run (fun k => (iI (Fg k), iI (k : Nat), iF (X k).1, iF (X k).2.1)) _ n (fun k hk => hstep k (by omega) (hfne k (by omega))) ?_ (by omega)
      show pX3_takeOutCircle_l37 _ _ _ _ _ _ _ _ (iI (Fg n)) _ _ _ = _
      unfold pX3_takeOutCircle_l37
      rw [le_y (by omega) (by omega) (by omega)]
    obtain ⟨r, tau, T', b1, b2, b3, b4, b5, b6⟩ := hB n
    have hXn : (X n).2.2 ≠ -1 := by
      have := hfne n (by omega)
      rw [show Fg n = (X n).2.2 from if_neg (by omega)] at this
      exact this
    obtain ⟨v, v1, v2, v3⟩ := (b6 (by omega)).2 hXn
    have hchain := bi_chain hst b1 (fun x hx hc => (b3 x hx hc).1) v1
    have hne : ∀ i, i < n → (X n).2.1 (bch (ust F T τ) (X n).2.1 v i) ≠ -1 := fun i hi => (hchain i (by omega)).2.2 (by omega)
    have hag := bch_agn (R := n) hne
    have hl : ∀ i, i ≤ n → agn (ust F T τ) (X n).2.1 v i < n := fun i hi => by rw [← hag i hi]; exact (hchain i (by omega)).1
    have hc : ∀ i, i < n → (X n).2.1 (agn (ust F T τ) (X n).2.1 v i) ≠ -1 := fun i hi => by rw [← hag i (by omega)]; exact hne i hi
    have hun : ∀ i, i < n → ∃ u : Nat, u < 15 * m ∧ uok C u = true ∧ (X n).2.1 (agn (ust F T τ) (X n).2.1 v i) = (u : Int) ∧ uen F T τ u = agn (ust F T τ) (X n).2.1 v i := by
      intro i hi
      rcases b1 _ (hl i (by omega)) with g | ⟨t, t1, t2, t3, t4, -⟩
      · exact absurd g (hc i hi)
      · exact ⟨t, t1, t3, t2, t4⟩
    obtain ⟨z, P, q, p1, p2, p3, p4, p5, p6, p7⟩ := circle_of hl hc
    have hW : Way m F T C τ (X n).2.1 z P := ⟨fun i hi => by rw [p5 i (by omega)]; exact hun (q + i) (by omega), p7⟩
    have hz : z < n := by rw [p1]; exact hl n (Nat.le_refl n)
    have hT1 := s3_turn h hτ hz hW hz p4 (P - 1) 1 0 N (by omega) (fun j h1 h2 e => p7 0 j (by omega) h2 e.symm) (by omega) (by omega)
    obtain ⟨f1, f2, f3, -⟩ := fl_inv (U := U) hτ hW P (Nat.le_refl P)
    have hneg := neg_circle b1 p2 p4 (fun i hi => ⟨by rw [p5 i (by omega)]; exact hl _ (by omega), by rw [p5 i (by omega)]; exact hc _ (by omega)⟩)
    left
    obtain ⟨u, u1, u2, u3, u4⟩ := hW.1 0 (by omega)
    have u3' : (X n).2.1 z = (u : Int) := u3
    have e1 : ((X n).2.1 (agn (ust F T τ) (X n).2.1 z 0)).toNat = u := by rw [u3]; rfl
    have hx1 : agn (ust F T τ) (X n).2.1 z 1 = ust F T τ u := by
      show ust F T τ ((X n).2.1 (agn (ust F T τ) (X n).2.1 z 0)).toNat = _
      rw [e1]
    have hf1 : fl τ (ust F T τ) (X n).2.1 z 1 = up τ u (1 - τ u) := by
      show up _ _ _ = _
      rw [e1]; rfl
    have h01 := hτ u u1
    have hsl := (hst u u1 u2).1
    refine ⟨fl τ (ust F T τ) (X n).2.1 z P, (X n).1, (X n).2.1, ?_, f1, fun w => by rw [f2 w, p4]; omega, ?_⟩
    · unfold pX3_takeOutCircle
      have hlp' : lp (un4 (pX3_takeOutCircle_l37 N (iI m) (iF C) (iF F) (iI n) (iF T) (iF U) (iF τ))) N ((0 : Int32), (0 : Int32), iF d0, iF c0) = _ := hlp
      rw [hini, bs3, hlp', bs4, show Fg n = (X n).2.2 from if_neg (by omega), v2]
      have hl2 : lp (un2 (pX3_takeOutCircle_l67 (iF F) (iI n) (iF T) (iF (X n).2.1) (iF τ))) N (iI (v : Nat), 0) = some (iI z, iI n) := by
        rw [p1]
        refine lp_run (fun i : Nat => (iI (agn (ust F T τ) (X n).2.1 v i : Nat), iI (i : Int))) _ n (fun i hi => ?_) ?_ (by omega)
        · show pX3_takeOutCircle_l67 (iF F) (iI n) (iF T) (iF (X n).2.1) (iF τ) (iI (agn (ust F T τ) (X n).2.1 v i : Nat)) (iI i) = _
          obtain ⟨u', w1, w2, w3, w4⟩ := hun i hi
          have := hl i (by omega)
          unfold pX3_takeOutCircle_l67
          rw [le_n (by omega) (by omega) (by omega), zlm, eq_n (by omega) (by omega) (by omega) (by omega) (by omega), s3_before h hτ (hl i (by omega)) w1 w3 rfl, bind_some, iI_s]
          have e3 : agn (ust F T τ) (X n).2.1 v (i + 1) = ust F T τ u' := by
            show ust F T τ ((X n).2.1 (agn (ust F T τ) (X n).2.1 v i)).toNat = _
            rw [w3]; rfl
          rw [e3]
        · show pX3_takeOutCircle_l67 _ _ _ _ _ _ _ = _
          unfold pX3_takeOutCircle_l67
          rw [le_y (by omega) (by omega) (by omega)]
      rw [hl2, bs2, zlm, eq_n (by omega) (by omega) (by omega) (by omega) (by omega), s3_before h hτ hz u1 u3' rfl, bind_some, eq_n (by omega) (by omega) (by omega) (by omega) (by omega), rd_n (by omega) (by omega), bind_some, u3', bind_some, rd_n (by omega) (by omega), bind_some]
      unfold pX3_turnBack
      rw [hx1, hf1] at hT1
      have hT1' : lp (un3 (pX3_turnBack_l5 (iF F) (iI n) (iF T) (iI z) (iF (X n).2.1))) N (iI (ust F T τ u : Nat), (0 : Int32), iF (up τ u (1 - τ u))) = _ := hT1
      rcases h01.1 with c | c
      · rw [c] at hT1'
        rw [eq0_y c, zl1, wr_n (by omega) (by omega), bind_some]
        have hT2 : lp (un3 (pX3_turnBack_l5 (iF F) (iI n) (iF T) (iI z) (iF (X n).2.1))) N (iI (ust F T τ u : Nat), (0 : Int32), iF (up τ u 1)) = _ := hT1'
        rw [hT2]; rfl
      · rw [c] at hT1'
        rw [eq0_n (by omega) (by omega) (by omega), zl0, wr_n (by omega) (by omega), bind_some]
        have hT2 : lp (un3 (pX3_turnBack_l5 (iF F) (iI n) (iF T) (iI z) (iF (X n).2.1))) N (iI (ust F T τ u : Nat), iI 0, iF (up τ u 0)) = _ := hT1'
        rw [hT2]; rfl
    · rw [f3]
      have e4 : sm (fun j => usw U τ 1 ((X n).2.1 (agn (ust F T τ) (X n).2.1 z j)).toNat) P = sm (fun j => uwt U τ ((X n).2.1 (agn (ust F T τ) (X n).2.1 z j)).toNat) P := sm_congr (fun j _ => usw1 U τ _)
      rw [e4] at hneg
      omega
end UNC
