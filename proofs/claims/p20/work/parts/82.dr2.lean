/-! rows of my own: how the reference looks back -/
section DRW
variable {n m : Nat} {F T C U K : Nat → Int} {mW mU mP : Nat → Int32}
theorem up_id (F : Nat → Int) (k : Nat) : up F k (F k) = F := by
  funext j
  unfold up
  by_cases c : j = k
  · rw [if_pos c, c]
  · rw [if_neg c]
theorem s5_look {N : Nat} (h : NW n m F T C U) (hK : KOK m C K) (hPr : PrOK N m C U mW mU) (hCp : CpOK N m C mW mP) {t : Nat} (ht : t < n) {D0 : Nat → Int} (hN : 100 ≤ N) :
    ∃ d cb : Nat → Int, pX5_lookBack N (iI n) (iI m) (iI t) (iF F) (iF T) mW mU mP (iF D0) (iF K) = some (iF d) ∧ BT m n (nfr T) (nfr F) (dw 100 U K) (dok C K) (src t) d cb ∧ bbw n 96 d := by
  have hn : 2 ≤ n ∧ n ≤ 8 := ⟨h.1, h.2.1⟩
  have hm : m ≤ 12 := h.2.2.1
  have hst := d_st h K
  have hwt := dw_bd h hK (Or.inr rfl : (100 : Int) = 16 ∨ (100 : Int) = 100)
  let d0 : Nat → Int := fil (src t) D0 n
  let X : Nat → BX := rns m (nfr T) (nfr F) (dw 100 U K) (dok C K) (d0, fun _ => -1, -1)
  have hp : ∀ q, q < m → dok C K q = true → (fun _ : Nat => (0 : Int)) (nfr F q) ≤ (fun _ : Nat => (0 : Int)) (nfr T q) + dw 100 U K q := fun q hq ho => by have := hwt q hq ho; dsimp only; omega
  have hI0 : BI m n (nfr T) (nfr F) (dw 100 U K) (dok C K) d0 0 m (d0, fun _ => -1, -1) := bi_init d0 _ (-1) (fun v _ => rfl)
  have hB : ∀ k, BI m n (nfr T) (nfr F) (dw 100 U K) (dok C K) d0 k m (X k) := bi_rns hst hI0
  have hb0 : bbw n 0 ((d0, fun _ => -1, -1) : BX).1 := by
    intro v hv
    show fil (src t) D0 n v = _ ∨ (0 ≤ fil (src t) D0 n v ∧ fil (src t) D0 n v ≤ _)
    rw [fil_lt _ _ hv]
    unfold src
    split
    · right; omega
    · left; rfl
  have hbb : ∀ k : Nat, bbw n (k * m) (X k).1 := bbw_rns hst hwt hb0
  have hend : (X n).2.2 = -1 := bi_end (pi := fun _ => 0) hst hp (by omega) hI0
  have hround : ∀ k, k < n → lp (un2 (pX5_lookBack_l48 N (iI m) (iF F) (iF K) mP (iF T) mU mW)) N (0, iF (X k).1) = some (iI m, iF (X (k + 1)).1) := by
    intro k hk
    let Y : Nat → BX := rnk (nfr T) (nfr F) (dw 100 U K) (dok C K) ((X k).1, (X k).2.1, -1)
    have hYb : ∀ j, j ≤ m → bbw n (k * m + j) (Y j).1 := bbw_rnk hst hwt (x := ((X k).1, (X k).2.1, -1)) (Int.mul_nonneg (by omega) (by omega)) (hbb k)
    have hkm : (k : Int) * (m : Nat) ≤ 84 := by
      have := Int.mul_le_mul (show (k : Int) ≤ 7 by omega) (show ((m : Nat) : Int) ≤ 12 by omega) (by omega) (by omega)
      omega
    have hkm0 : 0 ≤ (k : Int) * (m : Nat) := Int.mul_nonneg (by omega) (by omega)
    refine lp_run (fun j => (iI (j : Nat), iF (Y j).1)) _ m (fun j hj => ?_) ?_ (by omega)
    · show pX5_lookBack_l48 N (iI m) (iF F) (iF K) mP (iF T) mU mW (iI (j : Nat)) (iF (Y j).1) = _
      have hyd : ∀ v, v < n → 0 ≤ (Y j).1 v ∧ (Y j).1 v ≤ 1000000 := fun v hv => by have := hYb j (by omega) v hv; omega
      have hft := nw_ft h j hj
      have hC := h.2.2.2.1 j hj
      have hk := hK j hj
      have hyF := hyd _ hft.1
      have hyT := hyd _ hft.2.1
      have e1 : Y (j + 1) = rlx (nfr T) (nfr F) (dw 100 U K) (dok C K) (Y j) j := rfl
      unfold pX5_lookBack_l48
      rw [le_n (by omega) (by omega) (by omega), rd_n (by omega) (by omega), bind_some, hCp j hj, bind_some, iI_s, e1]
      unfold rlx
      by_cases c : K j < C j
      · have hw := hwt j hj (dok_iff.mpr c)
        have hwe : dw 100 U K j = 100 * dq U K j + 1 := rfl
        rw [le_n c (by omega) (by omega), rd_n (by omega) (by omega), bind_some, rd_in (by omega) (by omega) (by omega), bind_some, bind_some]
        rw [show iI (K j) + 1 = iI (((K j).toNat + 1 : Nat) : Int) by rw [zl1, iI_add]; congr 1; omega]
        rw [hPr j hj _ (by omega) (by omega), bind_some, rd_n (by omega) (by omega), bind_some, bind_some, rd_in (by omega) (by omega) (by omega), bind_some]
        rw [zl100, zl1, iI_mul, iI_add, iI_add]
        show (if iI ((Y j).1 (nfr F j)) ≤ iI ((Y j).1 (nfr T j) + 100 * dq U K j + 1) then _ else _) = _
        by_cases c2 : (Y j).1 (nfr T j) + dw 100 U K j < (Y j).1 (nfr F j)
        · rw [le_n (by omega) (by omega) (by omega), wr_in (by omega) (by omega) (by omega), bind_some, if_pos (show dok C K j = true ∧ (Y j).1 (nfr T j) < 1000000 ∧ (Y j).1 (nfr T j) + dw 100 U K j < (Y j).1 (nfr F j) from ⟨dok_iff.mpr c, by omega, c2⟩)]
          rw [hwe, Int.add_assoc]
          rfl
        · rw [if_neg (show ¬ (dok C K j = true ∧ (Y j).1 (nfr T j) < 1000000 ∧ (Y j).1 (nfr T j) + dw 100 U K j < (Y j).1 (nfr F j)) from fun g => c2 g.2.2), le_y (by omega) (by omega) (by omega), bind_some, rd_in (by omega) (by omega) (by omega), bind_some, wr_in (by omega) (by omega) (by omega), bind_some, up_id]
      · rw [le_y (by omega) (by omega) (by omega), if_neg (fun g => c (dok_iff.mp g.1))]
    · show pX5_lookBack_l48 _ _ _ _ _ _ _ _ _ _ = _
      unfold pX5_lookBack_l48
      rw [le_y (by omega) (by omega) (by omega)]
      rfl
  have hini : lp (un2 (pX5_lookBack_l2 (iI t) (iI n))) N (0, iF D0) = some (iI n, iF (fil (src t) D0 n)) := by
    rw [show ((0 : Int32), iF D0) = (iI ((0 : Nat) : Int), iF (fil (src t) D0 0)) by rw [fil_0]; rfl]
    refine lp_run (fun k : Nat => (iI (k : Int), iF (fil (src t) D0 k))) _ n (fun k hk => ?_) ?_ (by omega)
    · show pX5_lookBack_l2 (iI t) (iI n) (iI (k : Nat)) (iF (fil (src t) D0 k)) = _
      unfold pX5_lookBack_l2
      rw [le_n (by omega) (by omega) (by omega)]
      by_cases c : k = t
      · rw [eq_y (by omega), zl0, wr_n (by omega) (by omega), bind_some]
        rw [show (0 : Int) = src t k from (if_pos c).symm, fil_s, iI_s]
      · rw [eq_n (by omega) (by omega) (by omega) (by omega) (by omega), zlF, wr_n (by omega) (by omega), bind_some]
        rw [show (1000000 : Int) = src t k from (if_neg c).symm, fil_s, iI_s]
    · show pX5_lookBack_l2 (iI t) (iI n) (iI (n : Nat)) (iF (fil (src t) D0 n)) = _
      unfold pX5_lookBack_l2
      rw [le_y (by omega) (by omega) (by omega)]
  refine ⟨(X n).1, (X n).2.1, ?_, bt_congr (bi_done (pi := fun _ => 0) hst hp (by omega) (hB n) hend) (fun v hv => fil_lt _ _ hv), fun v hv => ?_⟩
  · unfold pX5_lookBack
    have hlp : lp (un2 (pX5_lookBack_l38 N (iI m) (iF F) (iF K) (iI n) mP (iF T) mU mW)) N (0, iF d0) = some (iI n, iF (X n).1) := by
      refine lp_run (fun k => (iI (k : Nat), iF (X k).1)) _ n (fun k hk => ?_) ?_ (by omega)
      · show pX5_lookBack_l38 _ _ _ _ _ _ _ _ _ _ _ = _
        unfold pX5_lookBack_l38
        rw [le_n (by omega) (by omega) (by omega), hround k (by omega), bs2, iI_s]
      · show pX5_lookBack_l38 _ _ _ _ _ _ _ _ _ _ _ = _
        unfold pX5_lookBack_l38
        rw [le_y (by omega) (by omega) (by omega)]
    rw [hini, bs2, hlp]; rfl
  · have := hbb n v hv
    have hkm : ((n : Nat) : Int) * (m : Nat) ≤ 96 := by
      have := Int.mul_le_mul (show ((n : Nat) : Int) ≤ 8 by omega) (show ((m : Nat) : Int) ≤ 12 by omega) (by omega) (by omega)
      omega
    omega
theorem bt_wcongr {S n : Nat} {st en : Nat → Nat} {w w' : Nat → Int} {ok ok' : Nat → Bool} {d0 d cb : Nat → Int} (h : BT S n st en w ok d0 d cb) (he : ∀ t, t < S → ok t = ok' t ∧ w t = w' t) : BT S n st en w' ok' d0 d cb := by
  obtain ⟨h1, mu, h2⟩ := h
  refine ⟨fun t ht ho => ?_, mu, fun v hv => ?_⟩
  · rw [← (he t ht).2]; exact h1 t ht (by rw [(he t ht).1]; exact ho)
  · rcases h2 v hv with g | ⟨t, g1, g2, g3, g4, g5, g6, g7⟩
    · exact Or.inl g
    · exact Or.inr ⟨t, g1, g2, by rw [← (he t g1).1]; exact g3, g4, g5, by rw [← (he t g1).2]; exact g6, g7⟩
theorem dqc {U K K' : Nat → Int} {a : Nat} (h : K a = K' a) : dq U K a = dq U K' a := by unfold dq; rw [h]
/-- the arc that is taken from a node: the same for both -/
def Nx (m : Nat) (F T C U K dC : Nat → Int) (v a : Nat) : Prop := a < m ∧ nfr F a = v ∧ K a < C a ∧ dC (nfr T a) < 1000000 ∧ dC v = dC (nfr T a) + (16 * dq U K a + 1)
theorem nx_least {T dC : Nat → Int} {v : Nat} (h : ∃ a, Nx m F T C U K dC v a) : ∃ a, Nx m F T C U K dC v a ∧ ∀ j, j < a → ¬ Nx m F T C U K dC v j := by
  obtain ⟨a, ha⟩ := h
  obtain ⟨i, h1, h2, h3⟩ := least_of (P := Nx m F T C U K dC v) (a + 1) ⟨a, by omega, ha⟩
  exact ⟨i, h2, h3⟩
theorem s1_best (h : NW n m F T C U) (hK : KOK m C K) {d : Nat → Int} (hd : ∀ v, v < n → 0 ≤ d v ∧ d v ≤ 1000000) {v a : Nat} (hv : v < n) (hdv : d v < 1000000) (ha : Nx m F T C U K d v a) (hl : ∀ j, j < a → ¬ Nx m F T C U K d v j) {N : Nat} (hN : 100 ≤ N) :
    pX1_bestArcFrom N (iI m) (iF F) (iF T) (iF C) (iF U) (iF K) (iF d) (iI v) = some (iI a) := by
  have hn := h.2.1
  have hm := h.2.2.1
  have ham : a < m := ha.1
  have hstep : ∀ j, j < m → pX1_bestArcFrom_l2 (iF K) (iF d) (iI m) (iF C) (iF F) (iF T) (iF U) (iI v) (iI j) = if nfr F j = v ∧ (if dok C K j = true ∧ d (nfr T j) < 1000000 then d (nfr T j) + dw 16 U K j else 1000000) = d v then some (.inl (.inr (iI j))) else some (.inr (iI (j + 1 : Nat))) := by
    intro j hj
    have hC := h.2.2.2.1 j hj
    have hft := nw_ft h j hj
    have hyT := hd _ hft.2.1
    have hyv := hd _ hv
    unfold pX1_bestArcFrom_l2
    rw [le_n (by omega) (by omega) (by omega), rd_n (by omega) (by omega), bind_some]
    have hwb : -100 ≤ (if dok C K j = true ∧ d (nfr T j) < 1000000 then d (nfr T j) + dw 16 U K j else 1000000) ∧ (if dok C K j = true ∧ d (nfr T j) < 1000000 then d (nfr T j) + dw 16 U K j else 1000000) ≤ 2000000 := by
      split
      · rename_i g
        have := dw_bd h hK (Or.inl rfl : (16 : Int) = 16 ∨ (16 : Int) = 100) j hj g.1
        omega
      · omega
    by_cases c1 : nfr F j = v
    · rw [eq_y (by have : ((F j).toNat : Int) = v := by rw [show (F j).toNat = nfr F j from rfl, c1]
                   omega), s1_weight h hK hd hj, bind_some, rd_n (by omega) (by omega), bind_some]
      by_cases c2 : (if dok C K j = true ∧ d (nfr T j) < 1000000 then d (nfr T j) + dw 16 U K j else 1000000) = d v
      · rw [eq_y c2, if_pos ⟨c1, c2⟩]
      · rw [eq_n c2 (by omega) (by omega) (by omega) (by omega), if_neg (fun g => c2 g.2), iI_s]
    · rw [eq_n (fun e => c1 (by show (F j).toNat = v; omega)) (by omega) (by omega) (by omega) (by omega), if_neg (fun g => c1 g.1), iI_s]
  have hiff : ∀ j, j < m → ((nfr F j = v ∧ (if dok C K j = true ∧ d (nfr T j) < 1000000 then d (nfr T j) + dw 16 U K j else 1000000) = d v) ↔ Nx m F T C U K d v j) := by
    intro j hj
    unfold Nx
    constructor
    · rintro ⟨g1, g2⟩
      by_cases c : dok C K j = true ∧ d (nfr T j) < 1000000
      · rw [if_pos c] at g2
        exact ⟨hj, g1, dok_iff.mp c.1, c.2, g2.symm⟩
      · rw [if_neg c] at g2; omega
    · rintro ⟨-, g1, g2, g3, g4⟩
      rw [if_pos ⟨dok_iff.mpr g2, g3⟩]
      exact ⟨g1, g4.symm⟩
  unfold pX1_bestArcFrom
  have hlp : lp (pX1_bestArcFrom_l2 (iF K) (iF d) (iI m) (iF C) (iF F) (iF T) (iF U) (iI v)) N (iI ((0 : Nat) : Int)) = some (.inr (iI a)) := by
    refine lp_run (fun j : Nat => iI (j : Int)) _ a (fun j hj => ?_) ?_ (by omega)
    · rw [hstep j (by omega), if_neg (fun g => hl j hj ((hiff j (by omega)).mp g))]
    · rw [hstep a ham, if_pos ((hiff a ham).mpr ha)]
  have e0 : (0 : Int32) = iI ((0 : Nat) : Int) := rfl
  rw [e0, hlp]; rfl
theorem s5_best (h : NW n m F T C U) (hK : KOK m C K) {N : Nat} (hPr : PrOK N m C U mW mU) (hCp : CpOK N m C mW mP) {t : Nat} {K0 dC d : Nat → Int} (hD : DP n m F T C U K0 t dC d) {v a : Nat} (hv : v < n) (hdv : dC v < 1000000) (ha : Nx m F T C U K dC v a) (hl : ∀ j, j < a → ¬ Nx m F T C U K dC v j) {K2 : Nat → Int} (hKe : ∀ j, j < m → K j = K2 j) (hN : 100 ≤ N) :
    lp (pX5_takeWay_l15 N (iF d) (iF F) (iF K2) mP (iF T) mU mW (iI v)) N (iI ((0 : Nat) : Int)) = some (iI a) := by
  have hn := h.2.1
  have hm := h.2.2.1
  have ham : a < m := ha.1
  have hp := hD.1
  have hd : ∀ v, v < n → 0 ≤ d v ∧ d v ≤ 1000000 := by
    intro x hx
    rcases hp x hx with g | ⟨c, P, g1, g2, g3, g4, g5, g6⟩ <;> omega
  have hstep : ∀ j, j < m → (Nx m F T C U K dC v j → pX5_takeWay_l15 N (iF d) (iF F) (iF K2) mP (iF T) mU mW (iI v) (iI j) = some (.inl (iI j))) ∧ (¬ Nx m F T C U K dC v j → pX5_takeWay_l15 N (iF d) (iF F) (iF K2) mP (iF T) mU mW (iI v) (iI j) = some (.inr (iI (j + 1 : Nat)))) := by
    intro j hj
    have hC := h.2.2.2.1 j hj
    have hk := hK j hj
    have hft := nw_ft h j hj
    have hyT := hd _ hft.2.1
    have hyv := hd _ hv
    have hb : ∃ b : Bool, pX5_isNext N (iF F) (iF T) mW mU mP (iF d) (iF K2) (iI j) (iI v) = some b ∧ (b = true ↔ Nx m F T C U K dC v j) := by
      unfold pX5_isNext
      rw [rd_n (by omega) (by omega), bind_some]
      by_cases c1 : nfr F j = v
      · rw [eq_y (by have : ((F j).toNat : Int) = v := by rw [show (F j).toNat = nfr F j from rfl, c1]
                     omega), rd_n (by omega) (by omega), bind_some, hCp j hj, bind_some, ← hKe j hj]
        by_cases c2 : K j < C j
        · have hq := dq_bd h hK hj c2
          rw [le_n c2 (by omega) (by omega), rd_n (by omega) (by omega), bind_some, rd_n (by omega) (by omega), bind_some, rd_in (by omega) (by omega) (by omega), bind_some, bind_some]
          rw [show iI (K j) + 1 = iI (((K j).toNat + 1 : Nat) : Int) by rw [zl1, iI_add]; congr 1; omega]
          rw [hPr j hj _ (by omega) (by omega), bind_some, zl100, zl1, iI_mul, iI_add, iI_add]
          show ∃ b : Bool, (if iI (d v) = iI (d (nfr T j) + 100 * dq U K j + 1) then some true else some false) = some b ∧ _
          have key : d v = d (nfr T j) + 100 * dq U K j + 1 ↔ (dC (nfr T j) < 1000000 ∧ dC v = dC (nfr T j) + (16 * dq U K j + 1)) := by
            rcases hp v hv with g | ⟨c, P, g1, g2, g3, g4, g5, g6⟩
            · omega
            · rcases hp _ hft.2.1 with f | ⟨c', P', f1, f2, f3, f4, f5, f6⟩
              · omega
              · constructor
                · intro e
                  have : P = P' + dq U K j := by omega
                  omega
                · rintro ⟨-, e⟩
                  have : P = P' + dq U K j := by omega
                  omega
          by_cases c3 : d v = d (nfr T j) + 100 * dq U K j + 1
          · exact ⟨true, by rw [eq_y c3], by unfold Nx; exact ⟨fun _ => ⟨hj, c1, c2, key.mp c3⟩, fun _ => rfl⟩⟩
          · exact ⟨false, by rw [eq_n c3 (by omega) (by omega) (by omega) (by omega)], ⟨fun e => (by cases e), fun e => absurd (key.mpr e.2.2.2) c3⟩⟩
        · exact ⟨false, by rw [le_y (by omega) (by omega) (by omega)], ⟨fun e => (by cases e), fun e => absurd e.2.2.1 c2⟩⟩
      · exact ⟨false, by rw [eq_n (fun e => c1 (by show (F j).toNat = v; omega)) (by omega) (by omega) (by omega) (by omega)], ⟨fun e => (by cases e), fun e => absurd e.2.1 c1⟩⟩
    obtain ⟨b, b1, b2⟩ := hb
    unfold pX5_takeWay_l15
    rw [b1, bind_some]
    constructor
    · intro g
      rw [b2.mpr g, b0_t]
    · intro g
      have : b = false := by cases b with
        | false => rfl
        | true => exact absurd (b2.mp rfl) g
      rw [this, b0_f, iI_s]
  refine lp_run (fun j : Nat => iI (j : Int)) _ a (fun j hj => ?_) ?_ (by omega)
  · exact (hstep j (by omega)).2 (hl j hj)
  · exact (hstep a ham).1 ha
end DRW
