/-! the class: the greatest amount; the bounds of the cheapest flows; the least and the greatest on an arc -/
theorem sm_const (c : Int) : ∀ n : Nat, sm (fun _ => c) n = c * n := by
  intro n
  induction n with
  | zero => show (0 : Int) = c * 0; rw [Int.mul_zero]
  | succ n ih => show sm (fun _ => c) n + c = c * (n + 1 : Nat); rw [ih, show ((n + 1 : Nat) : Int) = n + 1 from rfl, Int.mul_add, Int.mul_one]
theorem up_up (F : Nat → Int) (k : Nat) (x y : Int) : up (up F k x) k y = up F k y := by
  funext j
  unfold up
  by_cases h : j = k
  · rw [if_pos h, if_pos h]
  · rw [if_neg h, if_neg h, if_neg h]
theorem cut_arc {n m : Nat} {fr to : Nat → Nat} {lo hi f g : Nat → Int} (hft : ∀ a, a < m → fr a < n ∧ to a < n) (R : Nat → Prop) (hR : ∀ v, Decidable (R v)) {a0 : Nat} (ha0 : a0 < m) (hg : ∀ a, a < m → a ≠ a0 → lo a ≤ g a ∧ g a ≤ hi a) (hc : ∀ t, t < 2 * m → t / 2 ≠ a0 → rok lo hi f t = true → R (rst fr to t) → R (ren fr to t)) : sm (fun v => if R v then net m fr to g v - net m fr to f v else 0) n ≤ (g a0 - f a0) * ((if R (fr a0) then (1 : Int) else 0) - (if R (to a0) then 1 else 0)) := by
  have h1 := net_pi hft (fun a => g a - f a) (fun v => if R v then 1 else 0)
  have h2 : sm (fun v => (if R v then (1 : Int) else 0) * net m fr to (fun a => g a - f a) v) n = sm (fun v => if R v then net m fr to g v - net m fr to f v else 0) n := by
    refine sm_congr (fun v _ => ?_)
    rw [net_sub]
    by_cases h : R v
    · rw [if_pos h, if_pos h, Int.one_mul]
    · rw [if_neg h, if_neg h, Int.zero_mul]
  rw [← h2, h1]
  have h3 : sm (fun a => (g a - f a) * ((if R (fr a) then (1 : Int) else 0) - (if R (to a) then 1 else 0))) m ≤ sm (fun a => if a = a0 then (g a0 - f a0) * ((if R (fr a0) then (1 : Int) else 0) - (if R (to a0) then 1 else 0)) else 0) m := by
    refine sm_le (fun a ha => ?_)
    by_cases e : a = a0
    · subst e; rw [if_pos rfl]; exact Int.le_refl _
    · rw [if_neg e]
      obtain ⟨g1, g2⟩ := hg a ha e
      by_cases r1 : R (fr a) <;> by_cases r2 : R (to a)
      · rw [if_pos r1, if_pos r2]; simp
      · rw [if_pos r1, if_neg r2]
        have h4 : ¬ f a < hi a := by
          intro h5
          have := hc (2 * a) (by omega) (by omega) ((rok_e (by omega)).mpr (by rw [show 2 * a / 2 = a by omega]; exact h5))
          rw [rst_e (by omega), ren_e (by omega), show 2 * a / 2 = a by omega] at this
          exact r2 (this r1)
        omega
      · rw [if_neg r1, if_pos r2]
        have h4 : ¬ lo a < f a := by
          intro h5
          have := hc (2 * a + 1) (by omega) (by omega) ((rok_o (by omega)).mpr (by rw [show (2 * a + 1) / 2 = a by omega]; exact h5))
          rw [rst_o (by omega), ren_o (by omega), show (2 * a + 1) / 2 = a by omega] at this
          exact r1 (this r2)
        omega
      · rw [if_neg r1, if_neg r2]; simp
  rw [sm_one, if_pos ha0] at h3
  exact h3
/-- how many of the first k -/
def cnt (P : Nat → Bool) : Nat → Int
  | 0 => 0
  | k + 1 => cnt P k + (if P (k + 1) then 1 else 0)
theorem cnt_dn {P : Nat → Bool} {c : Nat} (hP : ∀ u v : Nat, 1 ≤ u → u ≤ v → v ≤ c → P v = true → P u = true) : ∀ k, k ≤ c → ∃ j : Nat, j ≤ k ∧ cnt P k = j ∧ (∀ u, 1 ≤ u → u ≤ j → P u = true) ∧ (∀ u, j < u → u ≤ k → ¬ P u = true) := by
  intro k
  induction k with
  | zero => intro _; exact ⟨0, Nat.le_refl _, rfl, fun u h1 h2 => by omega, fun u h1 h2 => by omega⟩
  | succ k ih =>
    intro hk
    obtain ⟨j, j1, j2, j3, j4⟩ := ih (by omega)
    by_cases h : P (k + 1) = true
    · have hj : j = k := by
        by_cases e : j < k
        · exact absurd (hP (j + 1) (k + 1) (by omega) (by omega) hk h) (j4 (j + 1) (by omega) (by omega))
        · omega
      subst hj
      refine ⟨j + 1, Nat.le_refl _, ?_, fun u h1 h2 => ?_, fun u h1 h2 => by omega⟩
      · show cnt P j + (if P (j + 1) then 1 else 0) = _
        rw [if_pos h, j2]; rfl
      · by_cases e : u = j + 1
        · rw [e]; exact h
        · exact j3 u h1 (by omega)
    · refine ⟨j, by omega, ?_, j3, fun u h1 h2 => ?_⟩
      · show cnt P k + (if P (k + 1) then 1 else 0) = _
        rw [if_neg h, j2]; omega
      · by_cases e : u = k + 1
        · rw [e]; exact h
        · exact j4 u h1 (by omega)
section X0e
variable {n m : Nat} {F T C U O L H : Nat → Int}
theorem s_greatestAmount (h : NW n m F T C U) {cb0 : Nat → Int} {s t : Nat} (hs : s < n) (ht : t < n) (hst : s ≠ t) {N : Nat} (hN : 300 ≤ N) :
    ∃ (k : Nat) (f L' H' cb : Nat → Int), pX0_greatestAmount N (iI n) (iI m) (iF F) (iF T) (iF C) (iF O) (iF L) (iF H) (iF cb0) (iI s) (iI t) = some (iI k, iF f, iF L', iF H', iF cb) ∧ k ≤ 180 ∧
      (∃ g, Flo n m (nfr F) (nfr T) (fun _ => 0) C (dem s t k) g) ∧ ∀ A : Nat, k < A → NoFlo n m (nfr F) (nfr T) (fun _ => 0) C (dem s t A) := by
  have hm : m ≤ 12 := h.2.2.1
  have hLH : ∀ a, a < m → fil (fun _ => 0) L m a = 0 ∧ fil C H m a = C a := fun a ha => ⟨fil_lt _ _ ha, fil_lt _ _ ha⟩
  have hz : ∀ a, a < m → fil (fun _ => 0) O m a = 0 := fun a ha => fil_lt _ _ ha
  have hw : WF m C (fil (fun _ => 0) L m) (fil C H m) (fil (fun _ => 0) O m) := fun a ha => by
    have := h.2.2.2.1 a ha
    rw [hz a ha, (hLH a ha).1, (hLH a ha).2]; omega
  obtain ⟨k, f, cb, h1, h2, h3, h4, h5⟩ := s_send h hw (cb0 := cb0) hs ht hst (lim := 180) (by omega) hN
  have hfl : Flo n m (nfr F) (nfr T) (fil (fun _ => 0) L m) (fil C H m) (dem s t k) f := ⟨fun a ha => ⟨(h3 a ha).2.1, (h3 a ha).2.2.1⟩, fun v hv => by rw [h4 v, net_0 _ _ hz]; unfold dem; omega⟩
  refine ⟨k, f, fil (fun _ => 0) L m, fil C H m, cb, ?_, h2, ⟨f, flo_lh hfl hLH⟩, fun A hA g hg => ?_⟩
  · unfold pX0_greatestAmount
    rw [s_empty hm (by omega), bs3, show (180 : Int32) = iI ((180 : Nat) : Int) from rfl, h1, bs3]
  · have hg' := flo_lh hg (lo' := fil (fun _ => 0) L m) (hi' := fil C H m) (fun a ha => ⟨(hLH a ha).1.symm, (hLH a ha).2.symm⟩)
    rcases h5 with e | ⟨R, r1, r2, r3⟩
    · have h6 := hg.2 s hs
      have h7 : net m (nfr F) (nfr T) g s ≤ 15 * m := by
        rw [← sm_const]
        unfold net
        refine sm_le (fun a ha => ?_)
        have h8 := hg.1 a ha
        have h9 := h.2.2.2.1 a ha
        dsimp only at h8
        split <;> split <;> omega
      unfold dem at h6
      rw [if_pos rfl, if_neg (fun e => hst e.symm)] at h6
      omega
    · exact cut_dem h hs hfl R r3 r1 r2 (A := A) (by omega) g hg'
/-- what the class counts for an arc, with what a unit gains on it -/
def lof (U C d : Nat → Int) (F T : Nat → Int) (a : Nat) : Int := cnt (fun u => decide (npr U a u < d (nfr T a) - d (nfr F a))) (C a).toNat
def hif (U C d : Nat → Int) (F T : Nat → Int) (a : Nat) : Int := cnt (fun u => decide (npr U a u ≤ d (nfr T a) - d (nfr F a))) (C a).toNat
theorem lof_is (h : NW n m F T C U) (d : Nat → Int) {a : Nat} (ha : a < m) : 0 ≤ lof U C d F T a ∧ lof U C d F T a ≤ C a ∧ (∀ u : Nat, 1 ≤ u → (u : Int) ≤ lof U C d F T a → npr U a u < d (nfr T a) - d (nfr F a)) ∧ (∀ u : Nat, lof U C d F T a < u → (u : Int) ≤ C a → d (nfr T a) - d (nfr F a) ≤ npr U a u) := by
  have h1 := h.2.2.2.1 a ha
  have h2 := h.2.2.2.2.2 a ha
  obtain ⟨j, j1, j2, j3, j4⟩ := cnt_dn (P := fun u => decide (npr U a u < d (nfr T a) - d (nfr F a))) (c := (C a).toNat) (fun u v g1 g2 g3 g4 => by
    have := h2 u v g1 g2 (by omega)
    have g5 := of_decide_eq_true g4
    exact decide_eq_true (by omega)) (C a).toNat (Nat.le_refl _)
  have e : lof U C d F T a = j := j2
  rw [e]
  refine ⟨by omega, by omega, fun u g1 g2 => of_decide_eq_true (j3 u g1 (by omega)), fun u g1 g2 => ?_⟩
  have := j4 u (by omega) (by omega)
  rw [decide_eq_true_iff] at this
  omega
theorem hif_is (h : NW n m F T C U) (d : Nat → Int) {a : Nat} (ha : a < m) : 0 ≤ hif U C d F T a ∧ hif U C d F T a ≤ C a ∧ (∀ u : Nat, 1 ≤ u → (u : Int) ≤ hif U C d F T a → npr U a u ≤ d (nfr T a) - d (nfr F a)) ∧ (∀ u : Nat, hif U C d F T a < u → (u : Int) ≤ C a → d (nfr T a) - d (nfr F a) < npr U a u) := by
  have h1 := h.2.2.2.1 a ha
  have h2 := h.2.2.2.2.2 a ha
  obtain ⟨j, j1, j2, j3, j4⟩ := cnt_dn (P := fun u => decide (npr U a u ≤ d (nfr T a) - d (nfr F a))) (c := (C a).toNat) (fun u v g1 g2 g3 g4 => by
    have := h2 u v g1 g2 (by omega)
    have g5 := of_decide_eq_true g4
    exact decide_eq_true (by omega)) (C a).toNat (Nat.le_refl _)
  have e : hif U C d F T a = j := j2
  rw [e]
  refine ⟨by omega, by omega, fun u g1 g2 => of_decide_eq_true (j3 u g1 (by omega)), fun u g1 g2 => ?_⟩
  have := j4 u (by omega) (by omega)
  rw [decide_eq_true_iff] at this
  omega
theorem s_keepToCheapest (h : NW n m F T C U) (hw : WF m C L H O) (hp : ∃ p, Pot m (nfr F) (nfr T) (npr U) L H O p) {d0 cb0 : Nat → Int} {N : Nat} (hN : 100 ≤ N) :
    ∃ d cb : Nat → Int, pX0_keepToCheapest N (iI n) (iI m) (iF F) (iF T) (iF C) (iF U) (iF O) (iF L) (iF H) (iF d0) (iF cb0) = some (iF (fil (lof U C d F T) L m), iF (fil (hif U C d F T) H m), iF d, iF cb) ∧
      Pot m (nfr F) (nfr T) (npr U) L H O d := by
  have hn : 2 ≤ n ∧ n ≤ 8 := ⟨h.1, h.2.1⟩
  have hm : m ≤ 12 := h.2.2.1
  obtain ⟨d, cb, m1, m2, m3⟩ := s_measureFromAll h hw hp (d0 := d0) (cb0 := cb0) hN
  have hfin : ∀ v, v < n → -20000 ≤ d v ∧ d v ≤ 20000 := by
    intro v hv
    rcases m3 v hv with g | g
    · exfalso
      obtain ⟨-, mu, h2⟩ := m2
      rcases h2 v hv with ⟨-, q⟩ | ⟨t, g1, g2, g3, g4, g5, g6, -⟩
      · have q : d v = 0 := q
        omega
      · have := m3 _ (nw_st h _ t g1 g3).1
        have := nw_w h hw t g1 g3
        omega
    · exact g
  refine ⟨d, cb, ?_, fun t ht hok => m2.1 t ht hok (by have := hfin _ (nw_st h _ t ht hok).1; omega)⟩
  unfold pX0_keepToCheapest
  rw [m1, bs2]
  have hlp : lp (un3 (pX0_keepToCheapest_l6 N (iF d) (iI m) (iF C) (iF F) (iF T) (iF U))) N (0, iF L, iF H) = some (iI m, iF (fil (lof U C d F T) L m), iF (fil (hif U C d F T) H m)) := by
    rw [show ((0 : Int32), iF L, iF H) = (iI ((0 : Nat) : Int), iF (fil (lof U C d F T) L 0), iF (fil (hif U C d F T) H 0)) by rw [fil_0, fil_0]; rfl]
    refine lp_run (fun k : Nat => (iI (k : Int), iF (fil (lof U C d F T) L k), iF (fil (hif U C d F T) H k))) _ m (fun k hk => ?_) ?_ (by omega)
    · show pX0_keepToCheapest_l6 N (iF d) (iI m) (iF C) (iF F) (iF T) (iF U) (iI (k : Nat)) (iF (fil (lof U C d F T) L k)) (iF (fil (hif U C d F T) H k)) = _
      have h1 := h.2.2.2.1 k hk
      have f1 := hfin (nfr T k) (nw_ft h k hk).2.1
      have f2 := hfin (nfr F k) (nw_ft h k hk).1
      unfold pX0_keepToCheapest_l6
      rw [le_n (by omega) (by omega) (by omega), rd_n (by omega) (by omega), bind_some, rd_in (by omega) (by omega) (by omega), bind_some, rd_n (by omega) (by omega), bind_some, rd_in (by omega) (by omega) (by omega), bind_some, zl0, wr_n (by omega) (by omega), bind_some, wr_n (by omega) (by omega), bind_some]
      have hin : lp (un3 (pX0_keepToCheapest_l63 (iF C) (iF U) (iI (d (T k).toNat)) (iI (d (F k).toNat)) (iI (k : Nat)))) N (1, iF (up (fil (lof U C d F T) L k) k 0), iF (up (fil (hif U C d F T) H k) k 0)) = some (iI ((C k).toNat + 1 : Nat), iF (up (fil (lof U C d F T) L k) k (lof U C d F T k)), iF (up (fil (hif U C d F T) H k) k (hif U C d F T k))) := by
        refine lp_run (fun j : Nat => (iI ((j + 1 : Nat) : Int), iF (up (fil (lof U C d F T) L k) k (cnt (fun u => decide (npr U k u < d (nfr T k) - d (nfr F k))) j)), iF (up (fil (hif U C d F T) H k) k (cnt (fun u => decide (npr U k u ≤ d (nfr T k) - d (nfr F k))) j)))) _ (C k).toNat (fun j hj => ?_) ?_ (by omega)
        · show pX0_keepToCheapest_l63 (iF C) (iF U) (iI (d (T k).toNat)) (iI (d (F k).toNat)) (iI (k : Nat)) (iI ((j + 1 : Nat) : Int)) (iF (up (fil (lof U C d F T) L k) k (cnt (fun u => decide (npr U k u < d (nfr T k) - d (nfr F k))) j))) (iF (up (fil (hif U C d F T) H k) k (cnt (fun u => decide (npr U k u ≤ d (nfr T k) - d (nfr F k))) j))) = some (.inr (iI ((j + 1 + 1 : Nat) : Int), iF (up (fil (lof U C d F T) L k) k (cnt (fun u => decide (npr U k u < d (nfr T k) - d (nfr F k))) (j + 1))), iF (up (fil (hif U C d F T) H k) k (cnt (fun u => decide (npr U k u ≤ d (nfr T k) - d (nfr F k))) (j + 1)))))
          have h2 := h.2.2.2.2.1 k hk (j + 1) (by omega) (by omega)
          rw [show cnt (fun u => decide (npr U k u < d (nfr T k) - d (nfr F k))) (j + 1) = cnt (fun u => decide (npr U k u < d (nfr T k) - d (nfr F k))) j + (if decide (npr U k (j + 1) < d (nfr T k) - d (nfr F k)) = true then 1 else 0) from rfl,
            show cnt (fun u => decide (npr U k u ≤ d (nfr T k) - d (nfr F k))) (j + 1) = cnt (fun u => decide (npr U k u ≤ d (nfr T k) - d (nfr F k))) j + (if decide (npr U k (j + 1) ≤ d (nfr T k) - d (nfr F k)) = true then 1 else 0) from rfl]
          generalize cnt (fun u => decide (npr U k u < d (nfr T k) - d (nfr F k))) j = x1
          generalize cnt (fun u => decide (npr U k u ≤ d (nfr T k) - d (nfr F k))) j = x2
          unfold pX0_keepToCheapest_l63
          rw [rd_n (by omega) (by omega), bind_some, lt_n (by omega) (by omega) (by omega), s_unitPrice (by omega) (by omega) (by omega) (by omega), bind_some, rd_n (by omega) (by omega), bind_some, up_eq, iI_sub, iI_s]
          have hd : d (T k).toNat - d (F k).toNat = d (nfr T k) - d (nfr F k) := rfl
          rw [hd]
          by_cases c1 : npr U k (j + 1) < d (nfr T k) - d (nfr F k)
          · rw [le_n (by omega) (by omega) (by omega), zl1, iI_add, wr_n (by omega) (by omega), bind_some, rd_n (by omega) (by omega), bind_some, lt_n (by omega) (by omega) (by omega), up_eq, iI_add, wr_n (by omega) (by omega), bind_some, up_up, up_up, if_pos (decide_eq_true c1), if_pos (decide_eq_true (show npr U k (j + 1) ≤ d (nfr T k) - d (nfr F k) by omega))]
          · rw [le_y (by omega) (by omega) (by omega), zl0, iI_add, wr_n (by omega) (by omega), bind_some, rd_n (by omega) (by omega), bind_some, up_eq, up_up, if_neg (show ¬ decide (npr U k (j + 1) < d (nfr T k) - d (nfr F k)) = true by rw [decide_eq_true_iff]; exact c1)]
            by_cases c2 : npr U k (j + 1) ≤ d (nfr T k) - d (nfr F k)
            · rw [lt_n (by omega) (by omega) (by omega), zl1, iI_add, wr_n (by omega) (by omega), bind_some, up_up, if_pos (decide_eq_true c2)]
            · rw [lt_y (by omega) (by omega) (by omega), iI_add, wr_n (by omega) (by omega), bind_some, up_up, if_neg (show ¬ decide (npr U k (j + 1) ≤ d (nfr T k) - d (nfr F k)) = true by rw [decide_eq_true_iff]; exact c2)]
        · show pX0_keepToCheapest_l63 (iF C) (iF U) (iI (d (T k).toNat)) (iI (d (F k).toNat)) (iI (k : Nat)) (iI (((C k).toNat + 1 : Nat) : Int)) (iF (up (fil (lof U C d F T) L k) k (lof U C d F T k))) (iF (up (fil (hif U C d F T) H k) k (hif U C d F T k))) = _
          unfold pX0_keepToCheapest_l63
          rw [rd_n (by omega) (by omega), bind_some, lt_y (by omega) (by omega) (by omega)]
      rw [hin, bs3, fil_s, fil_s, iI_s]
    · show pX0_keepToCheapest_l6 N (iF d) (iI m) (iF C) (iF F) (iF T) (iF U) (iI (m : Nat)) (iF (fil (lof U C d F T) L m)) (iF (fil (hif U C d F T) H m)) = _
      unfold pX0_keepToCheapest_l6
      rw [le_y (by omega) (by omega) (by omega)]
  rw [hlp, bs3]
/-- the flows within these bounds are just the cheapest ones -/
theorem keep_is (h : NW n m F T C U) {b d : Nat → Int} (hf : Flo n m (nfr F) (nfr T) (fun _ => 0) C b O) (hp : Pot m (nfr F) (nfr T) (npr U) (fun _ => 0) C O d) :
    WF m C (lof U C d F T) (hif U C d F T) O ∧ ∀ g, (Flo n m (nfr F) (nfr T) (fun _ => 0) C b g ∧ cst m (npr U) g = cst m (npr U) O) ↔ Flo n m (nfr F) (nfr T) (lof U C d F T) (hif U C d F T) b g := by
  have hft : ∀ a, a < m → nfr F a < n ∧ nfr T a < n := fun a ha => ⟨(nw_ft h a ha).1, (nw_ft h a ha).2.1⟩
  have hs := h.2.2.2.2.2
  have hO : ∀ a, a < m → lof U C d F T a ≤ O a ∧ O a ≤ hif U C d F T a := by
    intro a ha
    obtain ⟨l1, l2, l3, l4⟩ := lof_is h d ha
    obtain ⟨r1, r2, r3, r4⟩ := hif_is h d ha
    have h1 := hf.1 a ha
    dsimp only at h1
    constructor
    · rcases Int.lt_or_le (O a) (lof U C d F T a) with g | g
      · have h2 := pot_fwd hp ha (by omega)
        have h3 := l3 ((O a).toNat + 1) (by omega) (by omega)
        omega
      · exact g
    · rcases Int.lt_or_le (hif U C d F T a) (O a) with g | g
      · have h2 := pot_bwd hp ha (show (fun _ => (0 : Int)) a < O a by dsimp only; omega)
        have h3 := r4 (O a).toNat (by omega) (by omega)
        omega
      · exact g
  refine ⟨fun a ha => ⟨(lof_is h d ha).1, (hO a ha).1, (hO a ha).2, (hif_is h d ha).2.1⟩, fun g => ⟨fun ⟨hg, hc⟩ => ?_, fun hg => ?_⟩⟩
  · refine ⟨fun a ha => ?_, hg.2⟩
    have h0 := pot_zero hft hf hg d
    -- each arc's loss is nothing
    have hnn : ∀ i, i < m → 0 ≤ CC (npr U) i (g i) - CC (npr U) i (O i) - (g i - O i) * (d (nfr T i) - d (nfr F i)) := by
      intro i hi
      have f1 := hf.1 i hi
      have g1 := hg.1 i hi
      dsimp only at f1 g1
      have := cc_slope hs hi (q := d (nfr T i) - d (nfr F i)) (x := O i) (y := g i) (by omega) (by omega) (by omega) (by omega) (fun q => by have := pot_fwd hp hi (by omega); omega) (fun q => by have := pot_bwd hp hi (show (fun _ => (0 : Int)) i < O i by dsimp only; omega); omega)
      omega
    have hsum : sm (fun i => CC (npr U) i (g i) - CC (npr U) i (O i) - (g i - O i) * (d (nfr T i) - d (nfr F i))) m = 0 := by
      rw [sm_sub (fun i => CC (npr U) i (g i) - CC (npr U) i (O i)) (fun i => (g i - O i) * (d (nfr T i) - d (nfr F i))), h0, sm_sub]
      unfold cst at hc
      omega
    have hterm := sm_pos hnn a ha
    rw [hsum] at hterm
    obtain ⟨l1, l2, l3, l4⟩ := lof_is h d ha
    obtain ⟨r1, r2, r3, r4⟩ := hif_is h d ha
    have f1 := hf.1 a ha
    have g1 := hg.1 a ha
    dsimp only at f1 g1
    obtain ⟨o1, o2⟩ := hO a ha
    generalize hq : d (nfr T a) - d (nfr F a) = q at l3 l4 r3 r4 hterm
    constructor
    · rcases Int.lt_or_le (g a) (lof U C d F T a) with e | e
      · exfalso
        have s1 := l3 ((g a).toNat + 1) (by omega) (by omega)
        have s2 := cc_add (npr U) a (x := g a) (by omega)
        have s3 := cc_slope hs ha (q := q) (x := O a) (y := g a + 1) (by omega) (by omega) (by omega) (by omega) (fun e => by omega) (fun e => r3 (O a).toNat (by omega) (by omega))
        have s4 : (g a + 1 - O a) * q = (g a - O a) * q + q := by rw [show g a + 1 - O a = (g a - O a) + 1 by omega, Int.add_mul, Int.one_mul]
        omega
      · exact e
    · rcases Int.lt_or_le (hif U C d F T a) (g a) with e | e
      · exfalso
        have s1 := r4 (g a).toNat (by omega) (by omega)
        have s2 := cc_sub (npr U) a (x := g a) (by omega)
        have s3 := cc_slope hs ha (q := q) (x := O a) (y := g a + -1) (by omega) (by omega) (by omega) (by omega) (fun e => l4 ((O a).toNat + 1) (by omega) (by omega)) (fun e => by omega)
        have s4 : (g a + -1 - O a) * q = (g a - O a) * q - q := by rw [show g a + -1 - O a = (g a - O a) - 1 by omega, Int.sub_mul, Int.one_mul]
        omega
      · exact e
  · have hg0 : Flo n m (nfr F) (nfr T) (fun _ => 0) C b g := ⟨fun a ha => by
      have := hg.1 a ha
      have := lof_is h d ha
      have := hif_is h d ha
      dsimp only
      omega, hg.2⟩
    refine ⟨hg0, ?_⟩
    have h0 := pot_zero hft hf hg0 d
    have heq : sm (fun i => CC (npr U) i (g i) - CC (npr U) i (O i)) m = sm (fun i => (g i - O i) * (d (nfr T i) - d (nfr F i))) m := by
      refine sm_congr (fun i hi => ?_)
      obtain ⟨l1, l2, l3, l4⟩ := lof_is h d hi
      obtain ⟨r1, r2, r3, r4⟩ := hif_is h d hi
      obtain ⟨o1, o2⟩ := hO i hi
      obtain ⟨g1, g2⟩ := hg.1 i hi
      have s1 := cc_slope hs hi (q := d (nfr T i) - d (nfr F i)) (x := O i) (y := g i) (by omega) (by omega) (by omega) (by omega) (fun e => l4 ((O i).toNat + 1) (by omega) (by omega)) (fun e => r3 (O i).toNat (by omega) (by omega))
      have s2 := cc_slope hs hi (q := d (nfr T i) - d (nfr F i)) (x := g i) (y := O i) (by omega) (by omega) (by omega) (by omega) (fun e => l4 ((g i).toNat + 1) (by omega) (by omega)) (fun e => r3 (g i).toNat (by omega) (by omega))
      have s3 : (O i - g i) * (d (nfr T i) - d (nfr F i)) = -((g i - O i) * (d (nfr T i) - d (nfr F i))) := by rw [← Int.neg_mul]; congr 1; omega
      omega
    rw [h0, sm_sub] at heq
    unfold cst
    omega
theorem s_hold {a : Nat} (ha : a < 12) : pX0_hold (iF O) (iF L) (iF H) (iI a) = some (iF (up L a (O a)), iF (up H a (O a))) := by
  unfold pX0_hold
  rw [rd_n ha (by omega), bind_some, wr_n ha (by omega), bind_some, bind_some, wr_n ha (by omega), bind_some]
/-- an arc brought down as far as the bounds let -/
theorem s_lower (h : NW n m F T C U) (hw : WF m C L H O) {cb0 : Nat → Int} {a : Nat} (ha : a < m) {N : Nat} (hN : 300 ≤ N) :
    ∃ (x : Int) (f cb : Nat → Int), pX0_lower N (iI n) (iI m) (iF F) (iF T) (iF O) (iF L) (iF H) (iF cb0) (iI a) = some (iI x, iF f, iF (up L a x), iF (up H a x), iF cb) ∧ f a = x ∧ WF m C (up L a x) (up H a x) f ∧ WF m C L H f ∧
      (∀ v, net m (nfr F) (nfr T) f v = net m (nfr F) (nfr T) O v) ∧ ∀ g, (∀ i, i < m → L i ≤ g i ∧ g i ≤ H i) → (∀ v, v < n → net m (nfr F) (nfr T) g v = net m (nfr F) (nfr T) O v) → x ≤ g a := by
  have hm : m ≤ 12 := h.2.2.1
  have h1 := h.2.2.2.1 a ha
  have h2 := hw a ha
  have hft : ∀ a, a < m → nfr F a < n ∧ nfr T a < n := fun a ha => ⟨(nw_ft h a ha).1, (nw_ft h a ha).2.1⟩
  have hw1 : WF m C (up L a (O a)) (up H a (O a)) O := fun i hi => by
    have := hw i hi
    by_cases e : i = a
    · subst e; rw [up_eq, up_eq]; omega
    · rw [up_ne _ _ e, up_ne _ _ e]; exact this
  obtain ⟨k, f, cb, s1, s2, s3, s4, s5⟩ := s_send h hw1 (cb0 := cb0) (nw_ft h a ha).1 (nw_ft h a ha).2.1 (nw_ft h a ha).2.2 (lim := (O a - L a).toNat) (by omega) hN
  have hfa : f a = O a := by
    have := s3 a ha
    rw [up_eq, up_eq] at this; omega
  have hrun : pX0_lower N (iI n) (iI m) (iF F) (iF T) (iF O) (iF L) (iF H) (iF cb0) (iI a) = some (iI (O a - k), iF (up f a (O a - k)), iF (up L a (O a - k)), iF (up H a (O a - k)), iF cb) := by
    unfold pX0_lower
    rw [rd_n (by omega) (by omega), bind_some, rd_n (by omega) (by omega), bind_some, s_hold (by omega), bs2, bind_some, rd_n (by omega) (by omega), bind_some, rd_n (by omega) (by omega), bind_some, iI_sub]
    rw [show F a = ((nfr F a : Nat) : Int) by unfold nfr; omega, show T a = ((nfr T a : Nat) : Int) by unfold nfr; omega, show O a - L a = (((O a - L a).toNat : Nat) : Int) by omega, s1, bs3, iI_sub, wr_n (by omega) (by omega), bind_some, s_hold (by omega), bs2, rd_n (by omega) (by omega), bind_some, up_eq, up_up, up_up]
  have hnet : ∀ v, net m (nfr F) (nfr T) (up f a (O a - k)) v = net m (nfr F) (nfr T) O v := by
    intro v
    have := net_up (fr := nfr F) (to := nfr T) ha f (-(k : Int)) v
    rw [hfa] at this
    rw [show O a - (k : Int) = O a + -(k : Int) by omega, this, s4 v]
    by_cases e1 : nfr F a = v <;> by_cases e2 : nfr T a = v <;> simp [e1, e2] <;> omega
  have hwf : ∀ i, i < m → i ≠ a → up f a (O a - k) i = f i ∧ L i ≤ f i ∧ f i ≤ H i := by
    intro i hi e
    have := s3 i hi
    rw [up_ne _ _ e, up_ne _ _ e] at this
    exact ⟨up_ne _ _ e, this.2.1, this.2.2.1⟩
  refine ⟨_, _, cb, hrun, up_eq _ _ _, fun i hi => ?_, fun i hi => ?_, hnet, fun g hg1 hg2 => ?_⟩
  · have := hw i hi
    by_cases e : i = a
    · subst e; rw [up_eq, up_eq, up_eq]; omega
    · rw [up_ne _ _ e, up_ne _ _ e, up_ne _ _ e]
      have := hwf i hi e
      omega
  · have := hw i hi
    by_cases e : i = a
    · subst e; rw [up_eq]; omega
    · have := hwf i hi e
      omega
  · rcases s5 with e | ⟨R, r1, r2, r3⟩
    · have := hg1 a ha
      omega
    · rcases Int.lt_or_le (g a) (O a - k) with q | q
      · exfalso
        have hR : ∀ v, Decidable (R v) := fun v => Classical.propDecidable _
        have c1 := cut_arc hft R hR ha (lo := L) (hi := H) (g := g) (f := up f a (O a - k)) (fun i hi _ => hg1 i hi) (fun t ht hta hok => r3 t ht (by
          by_cases h9 : t % 2 = 0
          · have := (rok_e h9).mp hok
            rw [rok_e h9, up_ne _ _ hta]
            rw [up_ne _ _ hta] at this
            exact this
          · have := (rok_o h9).mp hok
            rw [rok_o h9, up_ne _ _ hta]
            rw [up_ne _ _ hta] at this
            exact this))
        rw [if_pos r1, if_neg r2, up_eq] at c1
        have c2 : sm (fun v => if R v then net m (nfr F) (nfr T) g v - net m (nfr F) (nfr T) (up f a (O a - k)) v else 0) n = 0 := by
          refine (sm_congr (g := fun _ => 0) (fun v hv => ?_)).trans (sm_zero n)
          rw [hnet v, hg2 v hv, Int.sub_self]
          split <;> rfl
        omega
      · exact q
/-- an arc brought up as far as the bounds let -/
theorem s_raise (h : NW n m F T C U) (hw : WF m C L H O) {cb0 : Nat → Int} {a : Nat} (ha : a < m) {N : Nat} (hN : 300 ≤ N) :
    ∃ (x : Int) (f cb : Nat → Int), pX0_raise N (iI n) (iI m) (iF F) (iF T) (iF O) (iF L) (iF H) (iF cb0) (iI a) = some (iI x, iF f, iF (up L a x), iF (up H a x), iF cb) ∧ f a = x ∧ WF m C L H f ∧
      (∀ v, net m (nfr F) (nfr T) f v = net m (nfr F) (nfr T) O v) ∧ ∀ g, (∀ i, i < m → L i ≤ g i ∧ g i ≤ H i) → (∀ v, v < n → net m (nfr F) (nfr T) g v = net m (nfr F) (nfr T) O v) → g a ≤ x := by
  have hm : m ≤ 12 := h.2.2.1
  have h1 := h.2.2.2.1 a ha
  have h2 := hw a ha
  have hft : ∀ a, a < m → nfr F a < n ∧ nfr T a < n := fun a ha => ⟨(nw_ft h a ha).1, (nw_ft h a ha).2.1⟩
  have hw1 : WF m C (up L a (O a)) (up H a (O a)) O := fun i hi => by
    have := hw i hi
    by_cases e : i = a
    · subst e; rw [up_eq, up_eq]; omega
    · rw [up_ne _ _ e, up_ne _ _ e]; exact this
  obtain ⟨k, f, cb, s1, s2, s3, s4, s5⟩ := s_send h hw1 (cb0 := cb0) (nw_ft h a ha).2.1 (nw_ft h a ha).1 (fun e => (nw_ft h a ha).2.2 e.symm) (lim := (H a - O a).toNat) (by omega) hN
  have hfa : f a = O a := by
    have := s3 a ha
    rw [up_eq, up_eq] at this; omega
  have hrun : pX0_raise N (iI n) (iI m) (iF F) (iF T) (iF O) (iF L) (iF H) (iF cb0) (iI a) = some (iI (O a + k), iF (up f a (O a + k)), iF (up L a (O a + k)), iF (up H a (O a + k)), iF cb) := by
    unfold pX0_raise
    rw [rd_n (by omega) (by omega), bind_some, rd_n (by omega) (by omega), bind_some, s_hold (by omega), bs2, bind_some, rd_n (by omega) (by omega), bind_some, rd_n (by omega) (by omega), bind_some, iI_sub]
    rw [show F a = ((nfr F a : Nat) : Int) by unfold nfr; omega, show T a = ((nfr T a : Nat) : Int) by unfold nfr; omega, show H a - O a = (((H a - O a).toNat : Nat) : Int) by omega, s1, bs3, iI_add, wr_n (by omega) (by omega), bind_some, s_hold (by omega), bs2, rd_n (by omega) (by omega), bind_some, up_eq, up_up, up_up]
  have hnet : ∀ v, net m (nfr F) (nfr T) (up f a (O a + k)) v = net m (nfr F) (nfr T) O v := by
    intro v
    have := net_up (fr := nfr F) (to := nfr T) ha f (k : Int) v
    rw [hfa] at this
    rw [this, s4 v]
    by_cases e1 : nfr F a = v <;> by_cases e2 : nfr T a = v <;> simp [e1, e2] <;> omega
  have hwf : ∀ i, i < m → i ≠ a → up f a (O a + k) i = f i ∧ L i ≤ f i ∧ f i ≤ H i := by
    intro i hi e
    have := s3 i hi
    rw [up_ne _ _ e, up_ne _ _ e] at this
    exact ⟨up_ne _ _ e, this.2.1, this.2.2.1⟩
  refine ⟨_, _, cb, hrun, up_eq _ _ _, fun i hi => ?_, hnet, fun g hg1 hg2 => ?_⟩
  · have := hw i hi
    by_cases e : i = a
    · subst e; rw [up_eq]; omega
    · have := hwf i hi e
      omega
  · rcases s5 with e | ⟨R, r1, r2, r3⟩
    · have := hg1 a ha
      omega
    · rcases Int.lt_or_le (O a + k) (g a) with q | q
      · exfalso
        have hR : ∀ v, Decidable (R v) := fun v => Classical.propDecidable _
        have c1 := cut_arc hft R hR ha (lo := L) (hi := H) (g := g) (f := up f a (O a + k)) (fun i hi _ => hg1 i hi) (fun t ht hta hok => r3 t ht (by
          by_cases h9 : t % 2 = 0
          · have := (rok_e h9).mp hok
            rw [rok_e h9, up_ne _ _ hta]
            rw [up_ne _ _ hta] at this
            exact this
          · have := (rok_o h9).mp hok
            rw [rok_o h9, up_ne _ _ hta]
            rw [up_ne _ _ hta] at this
            exact this))
        rw [if_neg r2, if_pos r1, up_eq] at c1
        have c2 : sm (fun v => if R v then net m (nfr F) (nfr T) g v - net m (nfr F) (nfr T) (up f a (O a + k)) v else 0) n = 0 := by
          refine (sm_congr (g := fun _ => 0) (fun v hv => ?_)).trans (sm_zero n)
          rw [hnet v, hg2 v hv, Int.sub_self]
          split <;> rfl
        omega
      · exact q
end X0e
