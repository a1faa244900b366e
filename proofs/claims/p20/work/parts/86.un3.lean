/-! rows of my own: units and circles: a way for one unit -/
section UNW
variable {n m : Nat} {F T C U τ : Nat → Int}
theorem chainW {n S : Nat} {st en : Nat → Nat} {w : Nat → Int} {ok : Nat → Bool} (hst : ∀ t, t < S → ok t = true → st t < n ∧ en t < n ∧ st t ≠ en t) {d cb : Nat → Int} {s : Nat} (hB : BT S n st en w ok (src s) d cb) {v : Nat} (hv : v < n) (hd : d v < 1000000) :
    ∃ K, K < n ∧ agn st cb v K = s ∧ (∀ j, j < K → ∃ q : Nat, q < S ∧ ok q = true ∧ cb (agn st cb v j) = (q : Int) ∧ en q = agn st cb v j) ∧ ∀ i j, i < j → j ≤ K → agn st cb v i ≠ agn st cb v j := by
  obtain ⟨mu, hT⟩ := bt_treG hst hB
  obtain ⟨K, k1, k2, k3, k4⟩ := tre_root hT hv
  have hs : ∀ j, j < K → ∃ q : Nat, q < S ∧ ok q = true ∧ cb (agn st cb v j) = (q : Int) ∧ en q = agn st cb v j ∧ st q = agn st cb v (j + 1) ∧ d (st q) < 1000000 := by
    intro j hj
    have hn := (tre_fall hT hv j (fun i hi => k3 i (by omega))).1
    rcases hT _ hn with g | ⟨q, g1, g2, g3, g4, g5, g6, g7⟩
    · exact absurd g (k3 j hj)
    · refine ⟨q, g1, g3, g2, g4, ?_, g7.1⟩
      show st q = st (cb (agn st cb v j)).toNat
      rw [g2]; rfl
  have hroot : d (agn st cb v K) < 1000000 := by
    cases K with
    | zero => exact hd
    | succ i => obtain ⟨q, -, -, -, -, q4, q5⟩ := hs i (by omega); rw [← q4]; exact q5
  have hr : agn st cb v K = s := by
    obtain ⟨-, mu', h2⟩ := hB
    rcases h2 _ k4 with ⟨-, g⟩ | ⟨q, -, g2, -⟩
    · unfold src at g
      by_cases e : agn st cb v K = s
      · exact e
      · rw [if_neg e] at g; omega
    · rw [k2] at g2; omega
  refine ⟨K, k1, hr, fun j hj => ?_, fun i j hij hj e => ?_⟩
  · obtain ⟨q, q1, q2, q3, q4, -⟩ := hs j hj
    exact ⟨q, q1, q2, q3, q4⟩
  · have := (tre_fall hT hv j (fun q hq => k3 q (by omega))).2 i hij
    rw [e] at this
    omega
theorem usw0 (U τ : Nat → Int) (u : Nat) : usw U τ 0 u = 0 := if_pos rfl
theorem s3_takeWay (h : NW n m F T C U) (hτ : UOK m C τ) {D0 B0 : Nat → Int} {s t : Nat} (hs : s < n) (ht : t < n) (hst0 : s ≠ t) {N : Nat} (hN : 100 ≤ N) :
    (∃ τ' d cb : Nat → Int, pX3_takeWay N (iI n) (iI m) (iF F) (iF T) (iF C) (iF U) (iF τ) (iF D0) (iF B0) (iI s) (iI t) = some (true, iF τ', iF d, iF cb) ∧ UOK m C τ' ∧ ∀ w, unet m F T τ' w = unet m F T τ w + (if s = w then 1 else 0) - (if t = w then 1 else 0)) ∨
    (∃ d cb : Nat → Int, pX3_takeWay N (iI n) (iI m) (iF F) (iF T) (iF C) (iF U) (iF τ) (iF D0) (iF B0) (iI s) (iI t) = some (false, iF τ, iF d, iF cb) ∧ ∃ R : Nat → Prop, R s ∧ ¬ R t ∧ ∀ u, u < 15 * m → uok C u = true → R (ust F T τ u) → R (uen F T τ u)) := by
  have hn : 2 ≤ n ∧ n ≤ 8 := ⟨h.1, h.2.1⟩
  have hm : m ≤ 12 := h.2.2.1
  have hst := u_st h τ
  have hwt := usw_bd h τ 0
  let d0 : Nat → Int := fil (src s) D0 n
  let c0 : Nat → Int := fil (fun _ => -1) B0 n
  have hini : lp (un3 (pX3_takeWay_l2 (iI n) (iI s))) N (0, iF D0, iF B0) = some (iI n, iF d0, iF c0) := by
    rw [show ((0 : Int32), iF D0, iF B0) = (iI ((0 : Nat) : Int), iF (fil (src s) D0 0), iF (fil (fun _ => -1) B0 0)) by rw [fil_0, fil_0]; rfl]
    refine lp_run (fun k : Nat => (iI (k : Int), iF (fil (src s) D0 k), iF (fil (fun _ => -1) B0 k))) _ n (fun k hk => ?_) ?_ (by omega)
    · show pX3_takeWay_l2 (iI n) (iI s) (iI (k : Nat)) (iF (fil (src s) D0 k)) (iF (fil (fun _ => -1) B0 k)) = _
      unfold pX3_takeWay_l2
      rw [le_n (by omega) (by omega) (by omega)]
      by_cases c : k = s
      · rw [eq_y (by omega), zl0, zlm, wr_n (by omega) (by omega), bind_some, wr_n (by omega) (by omega), bind_some]
        rw [show (0 : Int) = src s k from (if_pos c).symm, fil_s, show (-1 : Int) = (fun _ : Nat => (-1 : Int)) k from rfl, fil_s, iI_s]
      · rw [eq_n (by omega) (by omega) (by omega) (by omega) (by omega), zlF, zlm, wr_n (by omega) (by omega), bind_some, wr_n (by omega) (by omega), bind_some]
        rw [show (1000000 : Int) = src s k from (if_neg c).symm, fil_s, show (-1 : Int) = (fun _ : Nat => (-1 : Int)) k from rfl, fil_s, iI_s]
    · show pX3_takeWay_l2 (iI n) (iI s) (iI (n : Nat)) _ _ = _
      unfold pX3_takeWay_l2
      rw [le_y (by omega) (by omega) (by omega)]
  let X : Nat → BX := rns (15 * m) (ust F T τ) (uen F T τ) (usw U τ 0) (uok C) (d0, c0, -1)
  have hp : ∀ q, q < 15 * m → uok C q = true → (fun _ : Nat => (0 : Int)) (uen F T τ q) ≤ (fun _ : Nat => (0 : Int)) (ust F T τ q) + usw U τ 0 q := fun q hq ho => by rw [usw0]; exact Int.le_refl 0
  have hI0 : BI (15 * m) n (ust F T τ) (uen F T τ) (usw U τ 0) (uok C) d0 0 (15 * m) (d0, c0, -1) := bi_init d0 c0 (-1) (fun v hv => fil_lt _ _ hv)
  have hB : ∀ k, BI (15 * m) n (ust F T τ) (uen F T τ) (usw U τ 0) (uok C) d0 k (15 * m) (X k) := bi_rns hst hI0
  have hb0 : bb n 0 ((d0, c0, -1) : BX).1 := by
    intro v hv
    show fil (src s) D0 n v = _ ∨ (_ ≤ fil (src s) D0 n v ∧ fil (src s) D0 n v ≤ _)
    rw [fil_lt _ _ hv]
    unfold src
    split
    · right; omega
    · left; rfl
  have hbb : ∀ k : Nat, bb n (k * (15 * m : Nat)) (X k).1 := bb_rns hst hwt hb0
  have hend : (X n).2.2 = -1 := bi_end (pi := fun _ => 0) hst hp (by omega) hI0
  obtain ⟨K', k1, k2, k3⟩ := least_of (P := fun k => (X (k + 1)).2.2 = -1) n ⟨n - 1, by omega, by show (X (n - 1 + 1)).2.2 = -1; rw [show n - 1 + 1 = n by omega]; exact hend⟩
  have hround : ∀ k, k < n → pX3_shortenAll N (iI m) (iF F) (iF T) (iF C) (iF U) (iF τ) (iF (X k).1) (iF (X k).2.1) 0 = some (iI (X (k + 1)).2.2, iF (X (k + 1)).1, iF (X (k + 1)).2.1) := by
    intro k hk
    have hkm : (k : Int) * (15 * m : Nat) ≤ 1260 := by
      have := Int.mul_le_mul (show (k : Int) ≤ 7 by omega) (show ((15 * m : Nat) : Int) ≤ 180 by omega) (by omega) (by omega)
      omega
    have hkm0 : 0 ≤ (k : Int) * (15 * m : Nat) := Int.mul_nonneg (by omega) (by omega)
    have hYb := bb_rnk hst hwt (x := ((X k).1, (X k).2.1, -1)) hkm0 (hbb k)
    exact s3_short (p := 0) h hτ (Or.inl rfl) (x0 := ((X k).1, (X k).2.1, -1)) rfl (fun j hj v hv => by have := hYb j hj v hv; omega) hN
  have hB1 := bi_done (pi := fun _ => 0) hst hp (by omega) (hB (K' + 1)) k2
  have hBT : BT (15 * m) n (ust F T τ) (uen F T τ) (usw U τ 0) (uok C) (src s) (X (K' + 1)).1 (X (K' + 1)).2.1 := bt_congr hB1 (fun v hv => fil_lt _ _ hv)
  have hbd : ∀ v, v < n → (X (K' + 1)).1 v = 1000000 ∨ (-200000 ≤ (X (K' + 1)).1 v ∧ (X (K' + 1)).1 v ≤ 200000) := by
    intro v hv
    have := hbb (K' + 1) v hv
    have hkm : ((K' + 1 : Nat) : Int) * (15 * m : Nat) ≤ 1440 := by
      have := Int.mul_le_mul (show ((K' + 1 : Nat) : Int) ≤ 8 by omega) (show ((15 * m : Nat) : Int) ≤ 180 by omega) (by omega) (by omega)
      omega
    omega
  have hlp : lp (un4 (pX3_takeWay_l48 N (iI m) (iF C) (iF F) (iI n) (iF T) (iF U) (iF τ))) N (1, 0, iF d0, iF c0) = some (iI 0, iI ((K' + 1 : Nat) : Int), iF (X (K' + 1)).1, iF (X (K' + 1)).2.1) := by
    refine lp_run (fun k => (iI (if k = 0 then 1 else if (X k).2.2 = -1 then 0 else 1), iI (k : Nat), iF (X k).1, iF (X k).2.1)) _ (K' + 1) (fun k hk => ?_) ?_ (by omega)
    · show pX3_takeWay_l48 _ _ _ _ _ _ _ _ _ _ _ _ = _
      unfold pX3_takeWay_l48
      have e : (if k = 0 then (1 : Int) else if (X k).2.2 = -1 then 0 else 1) = 1 := by
        by_cases c : k = 0
        · rw [if_pos c]
        · rw [if_neg c, if_neg]
          have := k3 (k - 1) (by omega)
          rw [show k - 1 + 1 = k by omega] at this
          exact this
      rw [le_n (by omega) (by omega) (by omega), e, zl0, eq_n (by omega) (by omega) (by omega) (by omega) (by omega)]
      rw [show (iI 0 : Int32) = 0 from rfl, hround k (by omega), bs3]
      have hch : -1 ≤ (X (k + 1)).2.2 ∧ (X (k + 1)).2.2 ≤ 8 := by
        obtain ⟨r, tau, T', -, -, -, -, -, g⟩ := hB (k + 1)
        by_cases c : (X (k + 1)).2.2 = -1
        · omega
        · obtain ⟨v, v1, v2, -⟩ := (g (by omega)).2 c
          omega
      rw [if_neg (show ¬ k + 1 = 0 by omega), iI_s, zlm]
      by_cases c : (X (k + 1)).2.2 = -1
      · rw [eq_y c, if_pos c]; rfl
      · rw [eq_n c (by omega) (by omega) (by omega) (by omega), if_neg c]; rfl
    · show pX3_takeWay_l48 _ _ _ _ _ _ _ _ _ _ _ _ = _
      unfold pX3_takeWay_l48
      rw [if_neg (show ¬ K' + 1 = 0 by omega), if_pos k2]
      by_cases c : n ≤ K' + 1
      · rw [le_y (by omega) (by omega) (by omega)]
      · rw [le_n (by omega) (by omega) (by omega), zl0, eq_y rfl]
  have ht0 := hbd t ht
  by_cases c : (X (K' + 1)).1 t < 1000000
  · left
    obtain ⟨K, q1, q2, q3, q4⟩ := chainW hst hBT ht c
    have hW : Way m F T C τ (X (K' + 1)).2.1 t K := ⟨fun i hi => by obtain ⟨u, u1, u2, u3, u4⟩ := q3 i hi; exact ⟨u, u1, u2, u3, u4⟩, fun i j hij hj => q4 i j hij (by omega)⟩
    have hT1 := s3_turn h hτ ht hW hs q2 K 0 0 N (by omega) (fun j _ hj => by rw [← q2]; exact q4 j K hj (Nat.le_refl K)) (by omega) (by omega)
    obtain ⟨f1, f2, -, -⟩ := fl_inv (U := U) hτ hW K (Nat.le_refl K)
    refine ⟨fl τ (ust F T τ) (X (K' + 1)).2.1 t K, (X (K' + 1)).1, (X (K' + 1)).2.1, ?_, f1, fun w => by rw [f2 w, q2]⟩
    unfold pX3_takeWay pX3_turnBack
    rw [hini, bs3, hlp, bs4, rd_n (by omega) (by omega), bind_some, zlF, lt_y c (by omega) (by omega)]
    have hT1' : lp (un3 (pX3_turnBack_l5 (iF F) (iI n) (iF T) (iI s) (iF (X (K' + 1)).2.1))) N (iI t, (0 : Int32), iF τ) = _ := hT1
    rw [hT1']
    rfl
  · right
    refine ⟨(X (K' + 1)).1, (X (K' + 1)).2.1, ?_, fun v => (X (K' + 1)).1 v < 1000000, ?_, c, fun u hu ho hR => ?_⟩
    · unfold pX3_takeWay
      rw [hini, bs3, hlp, bs4, rd_n (by omega) (by omega), bind_some, zlF, lt_n (by omega) (by omega) (by omega)]
    · obtain ⟨-, mu, h2⟩ := hBT
      rcases h2 s hs with ⟨-, g⟩ | ⟨q, g1, g2, g3, g4, g5, g6, -⟩
      · unfold src at g; rw [if_pos rfl] at g; show (X (K' + 1)).1 s < 1000000; omega
      · rw [usw0] at g6; show (X (K' + 1)).1 s < 1000000; omega
    · have := hBT.1 u hu ho hR
      rw [usw0] at this
      show (X (K' + 1)).1 (uen F T τ u) < 1000000
      have hR' : (X (K' + 1)).1 (ust F T τ u) < 1000000 := hR
      omega
end UNW
