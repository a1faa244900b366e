/-! the reference: measure, send, begin -/
def srcs (R : Nat → Int) : Nat → Int := fun v => if 0 < R v then 0 else 1000000
theorem par24 {t : Nat} (h : t < 24) : iI (t : Int) / 2 = iI ((t / 2 : Nat) : Int) ∧ (iI (t : Int) - iI (t : Int) / 2 * 2 = 1 ↔ ¬ t % 2 = 0) := by
  have : ∀ t : Fin 24, iI (t.val : Int) / 2 = iI ((t.val / 2 : Nat) : Int) ∧ (iI (t.val : Int) - iI (t.val : Int) / 2 * 2 = 1 ↔ ¬ t.val % 2 = 0) := by decide +kernel
  exact this ⟨t, h⟩
section X5b
variable {n m : Nat} {F T C U O L H R : Nat → Int} {mW mU : Nat → Int32}
theorem s5_measure {N : Nat} (h : NW n m F T C U) (hw : WF m C L H O) (hPr : PrOK N m C U mW mU) (hp : ∃ p, Pot m (nfr F) (nfr T) (npr U) L H O p) (hR : ∀ v, v < n → -1000000 ≤ R v ∧ R v ≤ 1000000) {d0 cb0 : Nat → Int} (hN : 100 ≤ N) :
    ∃ d cb : Nat → Int, pX5_measure N (iI n) (iI m) (iF F) (iF T) mW mU (iF L) (iF H) (iF O) (iF R) (iF d0) (iF cb0) = some (iF d, iF cb) ∧
      BT (2 * m) n (rst (nfr F) (nfr T)) (ren (nfr F) (nfr T)) (rwt (npr U) O) (rok L H O) (srcs R) d cb ∧ ∀ v, v < n → d v = 1000000 ∨ (-20000 ≤ d v ∧ d v ≤ 20000) := by
  have hn : 2 ≤ n ∧ n ≤ 8 := ⟨h.1, h.2.1⟩
  have hm : m ≤ 12 := h.2.2.1
  have hst := nw_st h (rok L H O)
  have hwt := nw_w h hw
  obtain ⟨p, hp⟩ := hp
  have hfill : lp (un3 (pX5_measure_l2 (iI n) (iF R))) N (0, iF d0, iF cb0) = some (iI n, iF (fil (srcs R) d0 n), iF (fil (fun _ => -1) cb0 n)) := by
    rw [show ((0 : Int32), iF d0, iF cb0) = (iI ((0 : Nat) : Int), iF (fil (srcs R) d0 0), iF (fil (fun _ => -1) cb0 0)) by rw [fil_0, fil_0]; rfl]
    refine lp_run (fun k : Nat => (iI (k : Int), iF (fil (srcs R) d0 k), iF (fil (fun _ => -1) cb0 k))) _ n (fun k hk => ?_) ?_ (by omega)
    · show pX5_measure_l2 (iI n) (iF R) (iI (k : Nat)) (iF (fil (srcs R) d0 k)) (iF (fil (fun _ => -1) cb0 k)) = _
      have hr := hR k hk
      unfold pX5_measure_l2
      rw [le_n (by omega) (by omega) (by omega), rd_n (by omega) (by omega), bind_some]
      by_cases c : 0 < R k
      · rw [le0_n c (by omega), zl0, zlm, wr_n (by omega) (by omega), bind_some, wr_n (by omega) (by omega), bind_some]
        rw [show (0 : Int) = srcs R k from (if_pos c).symm, fil_s, show (-1 : Int) = (fun _ : Nat => (-1 : Int)) k from rfl, fil_s, iI_s]
      · rw [le0_y (by omega) (by omega), zlF, zlm, wr_n (by omega) (by omega), bind_some, wr_n (by omega) (by omega), bind_some]
        rw [show (1000000 : Int) = srcs R k from (if_neg c).symm, fil_s, show (-1 : Int) = (fun _ : Nat => (-1 : Int)) k from rfl, fil_s, iI_s]
    · show pX5_measure_l2 (iI n) (iF R) (iI (n : Nat)) (iF (fil (srcs R) d0 n)) (iF (fil (fun _ => -1) cb0 n)) = _
      unfold pX5_measure_l2
      rw [le_y (by omega) (by omega) (by omega)]
  generalize hd1 : fil (srcs R) d0 n = d1 at hfill
  generalize hcb1 : fil (fun _ => -1) cb0 n = cb1 at hfill
  have hcb : ∀ v, v < n → cb1 v = -1 := fun v hv => by rw [← hcb1]; exact fil_lt _ _ hv
  have hds : ∀ v, v < n → d1 v = srcs R v := fun v hv => by rw [← hd1]; exact fil_lt _ _ hv
  let X : Nat → BX := rns (2 * m) (rst (nfr F) (nfr T)) (ren (nfr F) (nfr T)) (rwt (npr U) O) (rok L H O) (d1, cb1, -1)
  have hB : ∀ k, BI (2 * m) n (rst (nfr F) (nfr T)) (ren (nfr F) (nfr T)) (rwt (npr U) O) (rok L H O) d1 k (2 * m) (X k) := bi_rns hst (bi_init d1 cb1 (-1) hcb)
  have hb0 : bb n 0 ((d1, cb1, -1) : BX).1 := by
    intro v hv
    dsimp only
    rw [hds v hv]
    unfold srcs
    split <;> omega
  have hbb : ∀ k : Nat, bb n (k * (2 * m : Nat)) (X k).1 := bb_rns hst hwt hb0
  have hend : (X n).2.2 = -1 := bi_end hst hp (by omega) (bi_init d1 cb1 (-1) hcb)
  obtain ⟨K', k1, k2, k3⟩ := least_of (P := fun k => (X (k + 1)).2.2 = -1) n ⟨n - 1, by omega, by show (X (n - 1 + 1)).2.2 = -1; rw [show n - 1 + 1 = n by omega]; exact hend⟩
  have hround : ∀ k, k < n → lp (un4 (pX5_measure_l54 N (iI m) (iF F) (iF L) (iF H) (iF O) (iF T) mU mW)) N (0, 0, iF (X k).1, iF (X k).2.1) = some (iI (if (X (k + 1)).2.2 = -1 then 0 else 1), iI (m : Nat), iF (X (k + 1)).1, iF (X (k + 1)).2.1) := by
    intro k hk
    let Y : Nat → BX := rnk (rst (nfr F) (nfr T)) (ren (nfr F) (nfr T)) (rwt (npr U) O) (rok L H O) ((X k).1, (X k).2.1, -1)
    have hkm0 : 0 ≤ (k : Int) * (2 * m : Nat) := Int.mul_nonneg (by omega) (by omega)
    have hYb : ∀ j, j ≤ 2 * m → bb n (k * (2 * m : Nat) + j) (Y j).1 := bb_rnk hst hwt (x := ((X k).1, (X k).2.1, -1)) hkm0 (hbb k)
    have hkm : (k : Int) * (2 * m : Nat) ≤ 168 := by
      have := Int.mul_le_mul (show (k : Int) ≤ 7 by omega) (show ((2 * m : Nat) : Int) ≤ 24 by omega) (by omega) (by omega)
      omega
    refine lp_run (fun j => (iI (if (Y (2 * j)).2.2 = -1 then 0 else 1), iI (j : Nat), iF (Y (2 * j)).1, iF (Y (2 * j)).2.1)) _ m (fun j hj => ?_) ?_ (by omega)
    · show pX5_measure_l54 N (iI m) (iF F) (iF L) (iF H) (iF O) (iF T) mU mW (iI (if (Y (2 * j)).2.2 = -1 then 0 else 1)) (iI (j : Nat)) (iF (Y (2 * j)).1) (iF (Y (2 * j)).2.1) = _
      rw [s5_arc h hw hPr (B := (k : Int) * (2 * m : Nat) + (2 * j : Nat)) (by omega) (by omega) (hYb (2 * j) (by omega)) hj]
      rfl
    · show pX5_measure_l54 N (iI m) (iF F) (iF L) (iF H) (iF O) (iF T) mU mW (iI (if (Y (2 * m)).2.2 = -1 then 0 else 1)) (iI (m : Nat)) (iF (Y (2 * m)).1) (iF (Y (2 * m)).2.1) = _
      unfold pX5_measure_l54
      rw [le_y (by omega) (by omega) (by omega)]
      rfl
  refine ⟨(X (K' + 1)).1, (X (K' + 1)).2.1, ?_, bt_congr (bi_done hst hp (by omega) (hB (K' + 1)) k2) hds, fun v hv => ?_⟩
  · unfold pX5_measure
    rw [hfill, bs3]
    have hlp : lp (un3 (pX5_measure_l46 N (iI m) (iF F) (iF L) (iF H) (iF O) (iF T) mU mW)) N (1, iF d1, iF cb1) = some (iI 0, iF (X (K' + 1)).1, iF (X (K' + 1)).2.1) := by
      refine lp_run (fun k => (iI (if k = 0 then 1 else if (X k).2.2 = -1 then 0 else 1), iF (X k).1, iF (X k).2.1)) _ (K' + 1) (fun k hk => ?_) ?_ (by omega)
      · show pX5_measure_l46 N (iI m) (iF F) (iF L) (iF H) (iF O) (iF T) mU mW (iI (if k = 0 then 1 else if (X k).2.2 = -1 then 0 else 1)) (iF (X k).1) (iF (X k).2.1) = _
        unfold pX5_measure_l46
        have e : (if k = 0 then (1 : Int) else if (X k).2.2 = -1 then 0 else 1) = 1 := by
          by_cases c : k = 0
          · rw [if_pos c]
          · rw [if_neg c, if_neg]
            have := k3 (k - 1) (by omega)
            rw [show k - 1 + 1 = k by omega] at this
            exact this
        rw [e, eq0_n (by omega) (by omega) (by omega), hround k (by omega), bs4]
        rw [if_neg (show ¬ k + 1 = 0 by omega)]
      · show pX5_measure_l46 N (iI m) (iF F) (iF L) (iF H) (iF O) (iF T) mU mW (iI (if K' + 1 = 0 then 1 else if (X (K' + 1)).2.2 = -1 then 0 else 1)) (iF (X (K' + 1)).1) (iF (X (K' + 1)).2.1) = _
        unfold pX5_measure_l46
        rw [if_neg (show ¬ K' + 1 = 0 by omega), if_pos k2, eq0_y rfl]
    rw [hlp, bs3]
  · have := hbb (K' + 1) v hv
    have hkm : ((K' + 1 : Nat) : Int) * (2 * m : Nat) ≤ 192 := by
      have := Int.mul_le_mul (show ((K' + 1 : Nat) : Int) ≤ 8 by omega) (show ((2 * m : Nat) : Int) ≤ 24 by omega) (by omega) (by omega)
      omega
    omega
/-- a unit sent along the chain of a node -/
theorem s5_send (h : NW n m F T C U) {Q : Nat → Prop} {cb mu : Nat → Int} (hT : Tre n (2 * m) (rst (nfr F) (nfr T)) (ren (nfr F) (nfr T)) (rok L H O) Q cb mu) {t K : Nat} (ht : t < n) (hKn : K < n) (hK : ∀ j, j < K → cb (agn (rst (nfr F) (nfr T)) cb t j) ≠ -1) (hc : cb (agn (rst (nfr F) (nfr T)) cb t K) = -1) {N : Nat} (hN : 100 ≤ N) :
    ∃ R', pX5_send N (iF F) (iF T) (iF O) (iF R) (iF cb) (iI t) = some (iF (agf (rst (nfr F) (nfr T)) cb t 1 O K), iF R') ∧ ∀ v, R' v = R v + (if t = v then 1 else 0) - (if agn (rst (nfr F) (nfr T)) cb t K = v then 1 else 0) := by
  have hn : 2 ≤ n ∧ n ≤ 8 := ⟨h.1, h.2.1⟩
  have hm : m ≤ 12 := h.2.2.1
  have hch := chain_steps hT ht hK
  have hKlt := (tre_fall hT ht K hK).1
  have hlp : lp (un2 (pX5_send_l12 (iF cb) (iF F) (iF T))) N (iI t, iF O) = some (iI ((agn (rst (nfr F) (nfr T)) cb t K : Nat) : Int), iF (agf (rst (nfr F) (nfr T)) cb t 1 O K)) := by
    refine lp_run (fun j => (iI ((agn (rst (nfr F) (nfr T)) cb t j : Nat) : Int), iF (agf (rst (nfr F) (nfr T)) cb t 1 O j))) _ K (fun j hj => ?_) ?_ (by omega)
    · show pX5_send_l12 (iF cb) (iF F) (iF T) (iI ((agn (rst (nfr F) (nfr T)) cb t j : Nat) : Int)) (iF (agf (rst (nfr F) (nfr T)) cb t 1 O j)) = some (.inr (iI ((agn (rst (nfr F) (nfr T)) cb t (j + 1) : Nat) : Int), iF (agf (rst (nfr F) (nfr T)) cb t 1 O (j + 1))))
      obtain ⟨q0, q, q1, q2, q3, q4⟩ := hch j hj
      have h1 := h.2.2.2.1 (q / 2) (by omega)
      have e2 : agf (rst (nfr F) (nfr T)) cb t 1 O (j + 1) = up (agf (rst (nfr F) (nfr T)) cb t 1 O j) (q / 2) (agf (rst (nfr F) (nfr T)) cb t 1 O j (q / 2) + (if q % 2 = 0 then 1 else -1)) := by
        show up _ ((cb (agn (rst (nfr F) (nfr T)) cb t j)).toNat / 2) _ = _
        rw [q2]; rfl
      obtain ⟨p1, p2⟩ := par24 (t := q) (by omega)
      unfold pX5_send_l12
      rw [rd_n (by omega) (by omega), bind_some, q2, zlm, eq_n (by omega) (by omega) (by omega) (by omega) (by omega), bind_some, bind_some]
      by_cases h9 : q % 2 = 0
      · rw [if_neg (fun g => p2.mp g h9), p1, rd_n (by omega) (by omega), bind_some, zl1, iI_add, wr_n (by omega) (by omega), bind_some, rd_n (by omega) (by omega), bind_some, e2, if_pos h9, q4, rst_e h9]
        rw [show F (q / 2) = ((nfr F (q / 2) : Nat) : Int) by unfold nfr; omega]
      · rw [if_pos (p2.mpr h9), p1, rd_n (by omega) (by omega), bind_some, iI_add, wr_n (by omega) (by omega), bind_some, rd_n (by omega) (by omega), bind_some, e2, if_neg h9, q4, rst_o h9]
        rw [show T (q / 2) = ((nfr T (q / 2) : Nat) : Int) by unfold nfr; omega]
    · show pX5_send_l12 (iF cb) (iF F) (iF T) (iI ((agn (rst (nfr F) (nfr T)) cb t K : Nat) : Int)) (iF (agf (rst (nfr F) (nfr T)) cb t 1 O K)) = _
      unfold pX5_send_l12
      rw [rd_n (by omega) (by omega), bind_some, hc, zlm, eq_y rfl]
  refine ⟨up (up R t (R t + 1)) (agn (rst (nfr F) (nfr T)) cb t K) (up R t (R t + 1) (agn (rst (nfr F) (nfr T)) cb t K) - 1), ?_, fun v => ?_⟩
  · unfold pX5_send
    rw [rd_n (by omega) (by omega), bind_some, zl1, iI_add, wr_n (by omega) (by omega), bind_some, hlp, bs2, rd_n (by omega) (by omega), bind_some, iI_sub, wr_n (by omega) (by omega), bind_some]
  · by_cases e1 : v = agn (rst (nfr F) (nfr T)) cb t K
    · rw [e1, up_eq, if_pos rfl]
      by_cases e2 : v = t
      · rw [e1] at e2; rw [e2, up_eq, if_pos rfl]
      · rw [e1] at e2; rw [up_ne _ _ e2, if_neg (show ¬ t = agn (rst (nfr F) (nfr T)) cb t K from fun e => e2 e.symm)]; omega
    · rw [up_ne _ _ e1, if_neg (show ¬ agn (rst (nfr F) (nfr T)) cb t K = v from fun e => e1 e.symm)]
      by_cases e2 : v = t
      · rw [e2, up_eq, if_pos rfl]; omega
      · rw [up_ne _ _ e2, if_neg (show ¬ t = v from fun e => e2 e.symm)]; omega
/-- the arcs' least amounts laid, and what they cost -/
theorem s5_begin_arcs {N : Nat} (h : NW n m F T C U) (hL : ∀ a, a < m → 0 ≤ L a ∧ L a ≤ C a) (hPr : PrOK N m C U mW mU) {O0 : Nat → Int} {b : Nat → Int} (hN : 100 ≤ N) :
    ∃ R', lp (un4 (pX5_begin_l80 N (iI m) (iF F) (iF L) (iF T) mU mW)) N (0, 0, iF O0, iF b) = some (iI (cst m (npr U) L), iI m, iF (fil L O0 m), iF R') ∧ ∀ v, R' v = b v - net m (nfr F) (nfr T) L v := by
  have hn : 2 ≤ n ∧ n ≤ 8 := ⟨h.1, h.2.1⟩
  have hm : m ≤ 12 := h.2.2.1
  refine ⟨fun v => b v - net m (nfr F) (nfr T) L v, ?_, fun v => rfl⟩
  rw [show ((0 : Int32), (0 : Int32), iF O0, iF b) = (iI (cst 0 (npr U) L), iI ((0 : Nat) : Int), iF (fil L O0 0), iF (fun v => b v - net 0 (nfr F) (nfr T) L v)) by rw [fil_0]; show _ = (iI 0, iI 0, iF O0, iF (fun v => b v - 0)); rw [show (fun v => b v - 0) = b from funext fun v => Int.sub_zero _]; rfl]
  refine lp_run (fun k : Nat => (iI (cst k (npr U) L), iI (k : Int), iF (fil L O0 k), iF (fun v => b v - net k (nfr F) (nfr T) L v))) _ m (fun k hk => ?_) ?_ (by omega)
  · show pX5_begin_l80 N (iI m) (iF F) (iF L) (iF T) mU mW (iI (cst k (npr U) L)) (iI (k : Nat)) (iF (fil L O0 k)) (iF (fun v => b v - net k (nfr F) (nfr T) L v)) = _
    have h1 := h.2.2.2.1 k hk
    have h2 := hL k hk
    have hf := nw_ft h k hk
    have hin : lp (un2 (pX5_begin_l150 N (iF L) mU mW (iI (k : Nat)))) N (iI (cst k (npr U) L), 1) = some (iI (cst (k + 1) (npr U) L), iI ((L k).toNat + 1 : Nat)) := by
      rw [show (iI (cst k (npr U) L), (1 : Int32)) = (iI (cst k (npr U) L + sm (fun u => npr U k (u + 1)) 0), iI ((0 + 1 : Nat) : Int)) by rw [show sm (fun u => npr U k (u + 1)) 0 = 0 from rfl, Int.add_zero]; rfl]
      refine lp_run (fun j : Nat => (iI (cst k (npr U) L + sm (fun u => npr U k (u + 1)) j), iI ((j + 1 : Nat) : Int))) _ (L k).toNat (fun j hj => ?_) ?_ (by omega)
      · show pX5_begin_l150 N (iF L) mU mW (iI (k : Nat)) (iI (cst k (npr U) L + sm (fun u => npr U k (u + 1)) j)) (iI ((j + 1 : Nat) : Int)) = _
        unfold pX5_begin_l150
        rw [rd_n (by omega) (by omega), bind_some, lt_n (by omega) (by omega) (by omega), hPr k hk (j + 1) (by omega) (by omega), bind_some, iI_add, iI_s]
        rw [show sm (fun u => npr U k (u + 1)) (j + 1) = sm (fun u => npr U k (u + 1)) j + npr U k (j + 1) from rfl, Int.add_assoc]
      · show pX5_begin_l150 N (iF L) mU mW (iI (k : Nat)) (iI (cst k (npr U) L + sm (fun u => npr U k (u + 1)) (L k).toNat)) (iI (((L k).toNat + 1 : Nat) : Int)) = _
        unfold pX5_begin_l150
        rw [rd_n (by omega) (by omega), bind_some, lt_y (by omega) (by omega) (by omega)]
        rfl
    unfold pX5_begin_l80
    rw [le_n (by omega) (by omega) (by omega), rd_n (by omega) (by omega), bind_some, wr_n (by omega) (by omega), bind_some, rd_n (by omega) (by omega), bind_some]
    rw [show F k = ((nfr F k : Nat) : Int) by unfold nfr; omega, rd_n (by omega) (by omega), bind_some, bind_some, iI_sub, wr_n (by omega) (by omega), bind_some, rd_n (by omega) (by omega), bind_some]
    rw [show T k = ((nfr T k : Nat) : Int) by unfold nfr; omega, rd_n (by omega) (by omega), bind_some, bind_some, iI_add, wr_n (by omega) (by omega), bind_some, hin, bs2, fil_s, iI_s]
    refine congrArg (fun z : Nat → Int => some (Sum.inr (iI (cst (k + 1) (npr U) L), iI ((k + 1 : Nat) : Int), iF (fil L O0 (k + 1)), iF z))) (funext fun v => ?_)
    have hs : net (k + 1) (nfr F) (nfr T) L v = net k (nfr F) (nfr T) L v + ((if nfr F k = v then L k else 0) - (if nfr T k = v then L k else 0)) := rfl
    rw [hs]
    by_cases e1 : v = nfr T k
    · rw [e1, up_eq, up_ne _ _ (fun e => hf.2.2 e.symm), if_neg hf.2.2, if_pos rfl]; omega
    · rw [up_ne _ _ e1, if_neg (show ¬ nfr T k = v from fun e => e1 e.symm)]
      by_cases e2 : v = nfr F k
      · rw [e2, up_eq, if_pos rfl]; omega
      · rw [up_ne _ _ e2, if_neg (show ¬ nfr F k = v from fun e => e2 e.symm)]; omega
  · show pX5_begin_l80 N (iI m) (iF F) (iF L) (iF T) mU mW (iI (cst m (npr U) L)) (iI (m : Nat)) (iF (fil L O0 m)) (iF (fun v => b v - net m (nfr F) (nfr T) L v)) = _
    unfold pX5_begin_l80
    rw [le_y (by omega) (by omega) (by omega)]
/-- the demand with a unit more from the source to a node, or without (-1) -/
def dma (s t : Nat) (A : Int) (al : Int) : Nat → Int := fun v => dem s t A v + (if al = -1 then 0 else (if s = v then 1 else 0) - (if al = (v : Int) then 1 else 0))
theorem s5_begin {N : Nat} (h : NW n m F T C U) (hL : ∀ a, a < m → 0 ≤ L a ∧ L a ≤ C a) (hPr : PrOK N m C U mW mU) {O0 R0 : Nat → Int} {s t : Nat} (hs : s < n) (ht : t < n) (hst : s ≠ t) {A al : Int} (hal : al = -1 ∨ (0 ≤ al ∧ al < n)) (hN : 100 ≤ N) :
    ∃ R', pX5_begin N (iI n) (iI m) (iI s) (iI t) (iF F) (iF T) mW mU (iF L) (iF O0) (iF R0) (iI A) (iI al) = some (iI (cst m (npr U) L), iF (fil L O0 m), iF R') ∧ ∀ v, v < n → R' v = dma s t A al v - net m (nfr F) (nfr T) L v := by
  have hn : 2 ≤ n ∧ n ≤ 8 := ⟨h.1, h.2.1⟩
  have hm : m ≤ 12 := h.2.2.1
  have hfill : lp (un2 (pX5_begin_l2 (iI n))) N (0, iF R0) = some (iI n, iF (fil (fun _ => 0) R0 n)) := by
    rw [show ((0 : Int32), iF R0) = (iI ((0 : Nat) : Int), iF (fil (fun _ => 0) R0 0)) by rw [fil_0]; rfl]
    refine lp_run (fun k : Nat => (iI (k : Int), iF (fil (fun _ => 0) R0 k))) _ n (fun k hk => ?_) ?_ (by omega)
    · show pX5_begin_l2 (iI n) (iI (k : Nat)) (iF (fil (fun _ => 0) R0 k)) = _
      unfold pX5_begin_l2
      rw [le_n (by omega) (by omega) (by omega), zl0, wr_n (by omega) (by omega), bind_some]
      rw [show up (fil (fun _ => 0) R0 k) k 0 = fil (fun _ => 0) R0 (k + 1) from fil_s _ _ _, iI_s]
    · show pX5_begin_l2 (iI n) (iI (n : Nat)) (iF (fil (fun _ => 0) R0 n)) = _
      unfold pX5_begin_l2
      rw [le_y (by omega) (by omega) (by omega)]
  generalize hz : fil (fun _ => 0) R0 n = Z at hfill
  have hZ : ∀ v, v < n → Z v = 0 := fun v hv => by rw [← hz]; exact fil_lt _ _ hv
  unfold pX5_begin
  rw [hfill, bs2, rd_n (by omega) (by omega), bind_some, zlm]
  by_cases c : al = -1
  · simp only [eq_y c]
    obtain ⟨R', r1, r2⟩ := s5_begin_arcs h hL hPr (O0 := O0) (b := up (up Z s (Z s + (A + 0))) t (up Z s (Z s + (A + 0)) t - A)) hN
    rw [zl0, iI_add, iI_add, wr_n (by omega) (by omega), bind_some, rd_n (by omega) (by omega), bind_some, iI_sub, wr_n (by omega) (by omega), bind_some]
    rw [show (iI 0 : Int32) = 0 from rfl, r1, bs4]
    refine ⟨R', rfl, fun v hv => ?_⟩
    rw [r2 v]
    congr 1
    unfold dma dem
    rw [if_pos c, hZ s hs]
    by_cases e1 : v = t
    · rw [e1, up_eq, up_ne _ _ (fun e => hst e.symm), hZ t ht, if_neg hst, if_pos rfl]; omega
    · rw [up_ne _ _ e1, if_neg (show ¬ t = v from fun e => e1 e.symm)]
      by_cases e2 : v = s
      · rw [e2, up_eq, if_pos rfl]; omega
      · rw [up_ne _ _ e2, hZ v hv, if_neg (show ¬ s = v from fun e => e2 e.symm)]; omega
  · have hal' : 0 ≤ al ∧ al < n := by rcases hal with g | g; exact absurd g c; exact g
    have hne : ∀ {α : Type} {u w : α}, (if iI al = iI (-1) then u else w) = w := fun {α u w} => eq_n c (by omega) (by omega) (by omega) (by omega)
    simp only [hne]
    have hsame : pX5_begin_l80''' N (iI m) (iF F) (iF L) (iF T) mU mW = pX5_begin_l80 N (iI m) (iF F) (iF L) (iF T) mU mW := rfl
    rw [hsame]
    rw [zl1, iI_add, iI_add, wr_n (by omega) (by omega), bind_some, rd_n (by omega) (by omega), bind_some, iI_sub, wr_n (by omega) (by omega), bind_some, rd_in (by omega) (by omega) (by omega), bind_some, iI_sub, wr_in (by omega) (by omega) (by omega), bind_some]
    generalize hB : up (up Z s (Z s + (A + 1))) t (up Z s (Z s + (A + 1)) t - A) = B
    obtain ⟨R', r1, r2⟩ := s5_begin_arcs h hL hPr (O0 := O0) (b := up B al.toNat (B al.toNat - 1)) hN
    rw [r1, bs4]
    refine ⟨R', rfl, fun v hv => ?_⟩
    rw [r2 v]
    congr 1
    have hBv : ∀ v, v < n → B v = dem s t A v + (if s = v then 1 else 0) := by
      intro v hv
      rw [← hB]
      unfold dem
      rw [hZ s hs]
      by_cases e1 : v = t
      · rw [e1, up_eq, up_ne _ _ (fun e => hst e.symm), hZ t ht, if_neg hst, if_pos rfl, if_neg hst]; omega
      · rw [up_ne _ _ e1, if_neg (show ¬ t = v from fun e => e1 e.symm)]
        by_cases e2 : v = s
        · rw [e2, up_eq, if_pos rfl, if_pos rfl]; omega
        · rw [up_ne _ _ e2, hZ v hv, if_neg (show ¬ s = v from fun e => e2 e.symm), if_neg (show ¬ s = v from fun e => e2 e.symm)]; omega
    unfold dma
    rw [if_neg c]
    by_cases e1 : v = al.toNat
    · rw [e1, up_eq, hBv al.toNat (by omega), if_pos (show al = ((al.toNat : Nat) : Int) by omega)]; omega
    · rw [up_ne _ _ e1, hBv v hv, if_neg (show ¬ al = (v : Int) by omega)]; omega
end X5b
