/-! rows of my own: units and circles: one round -/
section UNS
variable {n m : Nat} {F T C U τ : Nat → Int} {d cb : Nat → Int}
def usw (U τ : Nat → Int) (p : Int) (u : Nat) : Int := if p = 0 then 0 else uwt U τ u
theorem usw_bd (h : NW n m F T C U) (τ : Nat → Int) (p : Int) : ∀ u, u < 15 * m → uok C u = true → -99 ≤ usw U τ p u ∧ usw U τ p u ≤ 99 := by
  intro u hu ho
  have := u_pr h hu ho
  unfold usw uwt
  split
  · omega
  · split <;> omega
theorem s3_fin {st en : Nat → Nat} {w : Nat → Int} {ok : Nat → Bool} {x y u : Nat} {ch wv : Int} {J : Int32} (hx : x < 8) (hy : y < 8) (hu : u < 180) (hok : ok u = true) (hst : st u = x) (hen : en u = y) (hw : w u = wv) (hwb : -99 ≤ wv ∧ wv ≤ 99) (h1 : -1000000 ≤ d x ∧ d x ≤ 1000000) (h2 : -1000000 ≤ d y ∧ d y ≤ 1000000) :
    ((if 1000000 ≤ iI (d x) then some (Sum.inr (iI ch, J, iF d, iF cb)) else if iI (d y) ≤ iI (d x) + iI wv then some (.inr (iI ch, J, iF d, iF cb)) else (wr 8 (iF d) (iI y) (iI (d x) + iI wv)).bind fun D => (wr 8 (iF cb) (iI y) (iI u)).bind fun B => some (.inr (iI y, J, D, B))) : Option ((Int32 × Int32 × (Nat → Int32) × (Nat → Int32)) ⊕ (Int32 × Int32 × (Nat → Int32) × (Nat → Int32)))) =
      some (.inr (iI (rlx st en w ok (d, cb, ch) u).2.2, J, iF (rlx st en w ok (d, cb, ch) u).1, iF (rlx st en w ok (d, cb, ch) u).2.1)) := by
  unfold rlx
  rw [iI_add, zlF]
  by_cases c1 : 1000000 ≤ d x
  · rw [le_y c1 (by omega) (by omega), if_neg (show ¬ (ok u = true ∧ d (st u) < 1000000 ∧ d (st u) + w u < d (en u)) from fun g => by rw [hst] at g; omega)]
  · rw [le_n (by omega) (by omega) (by omega)]
    by_cases c2 : d y ≤ d x + wv
    · rw [le_y c2 (by omega) (by omega), if_neg (show ¬ (ok u = true ∧ d (st u) < 1000000 ∧ d (st u) + w u < d (en u)) from fun g => by rw [hst, hen, hw] at g; omega)]
    · rw [le_n (by omega) (by omega) (by omega), if_pos (show ok u = true ∧ d (st u) < 1000000 ∧ d (st u) + w u < d (en u) from ⟨hok, by rw [hst]; omega, by rw [hst, hen, hw]; omega⟩), wr_n (by omega) (by omega), bind_some, wr_n (by omega) (by omega), bind_some, hst, hen, hw]
theorem s3_unit (h : NW n m F T C U) (hτ : UOK m C τ) {p : Int} (hp : p = 0 ∨ p = 1) {ch : Int} (hd : ∀ v, v < n → -1000000 ≤ d v ∧ d v ≤ 1000000) {a j : Nat} (ha : a < m) (hj1 : 1 ≤ j) (hj2 : (j : Int) ≤ C a) :
    pX3_shortenAll_l18 (iF C) (iF F) (iF T) (iF U) (iI p) (iF τ) (iI a) (iI ch) (iI j) (iF d) (iF cb) = some (.inr (iI (rlx (ust F T τ) (uen F T τ) (usw U τ p) (uok C) (d, cb, ch) (15 * a + j - 1)).2.2, iI ((j + 1 : Nat) : Int), iF (rlx (ust F T τ) (uen F T τ) (usw U τ p) (uok C) (d, cb, ch) (15 * a + j - 1)).1, iF (rlx (ust F T τ) (uen F T τ) (usw U τ p) (uok C) (d, cb, ch) (15 * a + j - 1)).2.1)) := by
  have hn := h.2.1
  have hm := h.2.2.1
  have hC := h.2.2.2.1 a ha
  have hft := nw_ft h a ha
  obtain ⟨u, hu⟩ : ∃ u, u = 15 * a + j - 1 := ⟨_, rfl⟩
  rw [← hu]
  have hua : u / 15 = a := by omega
  have hum : u % 15 = j - 1 := by omega
  have huS : u < 15 * m := by omega
  have hok : uok C u = true := by
    refine decide_eq_true ?_
    rw [hua, hum]; omega
  have h01 := hτ u huS
  have idx : (iI a * 15 + iI j) - 1 = iI (u : Int) := by
    rw [zl15, zl1, iI_mul, iI_add, iI_sub]; congr 1; omega
  have e1 : rd 12 (iF C) (iI a) = some (iI (C a)) := rd_n (by omega) (by omega)
  have e2 : rd 180 (iF τ) (iI u) = some (iI (τ u)) := rd_n (by omega) (by omega)
  have e3 : rd 12 (iF F) (iI a) = some (iI (nfr F a : Nat)) := by rw [rd_n (by omega) (by omega)]; congr 2; show F a = ((F a).toNat : Int); omega
  have e4 : rd 12 (iF T) (iI a) = some (iI (nfr T a : Nat)) := by rw [rd_n (by omega) (by omega)]; congr 2; show T a = ((T a).toNat : Int); omega
  have e5 : rd 8 (iF d) (iI (nfr F a : Nat)) = some (iI (d (nfr F a))) := rd_n (by omega) (by omega)
  have e6 : rd 8 (iF d) (iI (nfr T a : Nat)) = some (iI (d (nfr T a))) := rd_n (by omega) (by omega)
  have e7 : pX2_unitPrice (iF C) (iF U) (iI a) (iI j) = some (iI (U u)) := by
    rw [s_unitPrice (by omega) hj1 hj2 (by omega)]
    congr 2
    show U (15 * a + j - 1) = U u
    rw [hu]
  have hdF := hd _ hft.1
  have hdT := hd _ hft.2.1
  have hw := usw_bd h τ p u huS hok
  unfold pX3_shortenAll_l18
  rw [e1, bind_some, lt_n (by omega) (by omega) (by omega), ← iI_s]
  have f0 : (0 : Int32) = iI 0 := rfl
  rcases h01.1 with c | c
  · have s1 : ust F T τ u = nfr F a := by unfold ust; rw [if_pos c, hua]
    have s2 : uen F T τ u = nfr T a := by unfold uen; rw [if_pos c, hua]
    have hz : (iI (τ u) = 0) = True := by rw [c]; exact eq_true rfl
    rcases hp with q | q
    · have hq : (iI p = 0) = True := by rw [q]; exact eq_true rfl
      simp only [idx, e2, e3, e4, e5, e6, e7, bind_some, hz, hq, if_true]
      have s3 : usw U τ p u = 0 := by unfold usw; rw [if_pos q]
      exact s3_fin (wv := 0) (by omega) (by omega) (by omega) hok s1 s2 s3 (by omega) hdF hdT
    · have hq : (iI p = 0) = False := by rw [q]; exact eq_false (by decide)
      simp only [idx, e2, e3, e4, e5, e6, e7, bind_some, hz, hq, if_true, if_false]
      have s3 : usw U τ p u = U u := by unfold usw uwt; rw [if_neg (by omega), if_pos c]
      exact s3_fin (wv := U u) (by omega) (by omega) (by omega) hok s1 s2 s3 (by omega) hdF hdT
  · have s1 : ust F T τ u = nfr T a := by unfold ust; rw [if_neg (by omega), hua]
    have s2 : uen F T τ u = nfr F a := by unfold uen; rw [if_neg (by omega), hua]
    have hz : (iI (τ u) = 0) = False := by rw [c]; exact eq_false (by decide)
    rcases hp with q | q
    · have hq : (iI p = 0) = True := by rw [q]; exact eq_true rfl
      simp only [idx, e2, e3, e4, e5, e6, e7, bind_some, hz, hq, if_true, if_false]
      have s3 : usw U τ p u = 0 := by unfold usw; rw [if_pos q]
      exact s3_fin (wv := 0) (by omega) (by omega) (by omega) hok s1 s2 s3 (by omega) hdT hdF
    · have hq : (iI p = 0) = False := by rw [q]; exact eq_false (by decide)
      simp only [idx, e2, e3, e4, e5, e6, e7, bind_some, hz, hq, if_true, if_false, iI_neg]
      have s3 : usw U τ p u = -U u := by unfold usw uwt; rw [if_neg (by omega), if_neg (by omega)]
      exact s3_fin (wv := -U u) (by omega) (by omega) (by omega) hok s1 s2 s3 (by omega) hdT hdF
theorem rnk_skip {st en : Nat → Nat} {w : Nat → Int} {ok : Nat → Bool} {x : BX} {k : Nat} : ∀ e : Nat, (∀ i, k ≤ i → i < k + e → ¬ ok i = true) → rnk st en w ok x (k + e) = rnk st en w ok x k := by
  intro e
  induction e with
  | zero => intro _; rfl
  | succ e ih =>
    intro hi
    show rlx st en w ok (rnk st en w ok x (k + e)) (k + e) = _
    rw [rlx_n (hi (k + e) (by omega) (by omega))]
    exact ih (fun i h1 h2 => hi i h1 (by omega))
theorem s3_short (h : NW n m F T C U) (hτ : UOK m C τ) {p : Int} (hp : p = 0 ∨ p = 1) {x0 : BX} (hx : x0 = (d, cb, -1)) (hd : ∀ k, k ≤ 15 * m → ∀ v, v < n → -1000000 ≤ (rnk (ust F T τ) (uen F T τ) (usw U τ p) (uok C) x0 k).1 v ∧ (rnk (ust F T τ) (uen F T τ) (usw U τ p) (uok C) x0 k).1 v ≤ 1000000) {N : Nat} (hN : 100 ≤ N) :
    pX3_shortenAll N (iI m) (iF F) (iF T) (iF C) (iF U) (iF τ) (iF d) (iF cb) (iI p) = some (iI (rnk (ust F T τ) (uen F T τ) (usw U τ p) (uok C) x0 (15 * m)).2.2, iF (rnk (ust F T τ) (uen F T τ) (usw U τ p) (uok C) x0 (15 * m)).1, iF (rnk (ust F T τ) (uen F T τ) (usw U τ p) (uok C) x0 (15 * m)).2.1) := by
  have hm := h.2.2.1
  obtain ⟨Y, hY⟩ : ∃ Y : Nat → BX, Y = rnk (ust F T τ) (uen F T τ) (usw U τ p) (uok C) x0 := ⟨_, rfl⟩
  have hYs : ∀ k, Y (k + 1) = rlx (ust F T τ) (uen F T τ) (usw U τ p) (uok C) (Y k) k := fun k => by rw [hY]; rfl
  rw [← hY] at hd ⊢
  have hY0 : Y 0 = (d, cb, -1) := by rw [hY, hx]; rfl
  have harc : ∀ a, a < m → lp (un4 (pX3_shortenAll_l18 (iF C) (iF F) (iF T) (iF U) (iI p) (iF τ) (iI a))) N (iI (Y (15 * a)).2.2, 1, iF (Y (15 * a)).1, iF (Y (15 * a)).2.1) = some (iI (Y (15 * (a + 1))).2.2, iI (((C a).toNat + 1 : Nat) : Int), iF (Y (15 * (a + 1))).1, iF (Y (15 * (a + 1))).2.1) := by
    intro a ha
    have hC := h.2.2.2.1 a ha
    have hskip : Y (15 * (a + 1)) = Y (15 * a + (C a).toNat) := by
      have e : 15 * (a + 1) = 15 * a + (C a).toNat + (15 - (C a).toNat) := by omega
      rw [e, hY]
      refine rnk_skip _ (fun i h1 h2 ho => ?_)
      have := of_decide_eq_true ho
      rw [show i / 15 = a by omega] at this
      omega
    rw [hskip]
    refine lp_run (fun k : Nat => (iI (Y (15 * a + k)).2.2, iI ((k + 1 : Nat) : Int), iF (Y (15 * a + k)).1, iF (Y (15 * a + k)).2.1)) _ (C a).toNat (fun k hk => ?_) ?_ (by omega)
    · show pX3_shortenAll_l18 (iF C) (iF F) (iF T) (iF U) (iI p) (iF τ) (iI a) (iI (Y (15 * a + k)).2.2) (iI ((k + 1 : Nat) : Int)) (iF (Y (15 * a + k)).1) (iF (Y (15 * a + k)).2.1) = _
      rw [s3_unit h hτ hp (hd (15 * a + k) (by omega)) ha (by omega) (by omega)]
      have e : 15 * a + (k + 1) - 1 = 15 * a + k := by omega
      rw [e, show 15 * a + (k + 1) = 15 * a + k + 1 by omega, hYs]
    · show pX3_shortenAll_l18 (iF C) (iF F) (iF T) (iF U) (iI p) (iF τ) (iI a) _ (iI (((C a).toNat + 1 : Nat) : Int)) _ _ = _
      unfold pX3_shortenAll_l18
      rw [rd_n (by omega) (by omega), bind_some, lt_y (by omega) (by omega) (by omega)]
  have hall : lp (un4 (pX3_shortenAll_l4 N (iI m) (iF C) (iF F) (iF T) (iF U) (iI p) (iF τ))) N ((-1), 0, iF d, iF cb) = some (iI (Y (15 * m)).2.2, iI m, iF (Y (15 * m)).1, iF (Y (15 * m)).2.1) := by
    have e0 : ((-1 : Int32), (0 : Int32), iF d, iF cb) = (iI (Y (15 * 0)).2.2, iI ((0 : Nat) : Int), iF (Y (15 * 0)).1, iF (Y (15 * 0)).2.1) := by
      show _ = (iI (Y 0).2.2, _, iF (Y 0).1, iF (Y 0).2.1)
      rw [hY0]; rfl
    rw [e0]
    refine lp_run (fun a : Nat => (iI (Y (15 * a)).2.2, iI (a : Int), iF (Y (15 * a)).1, iF (Y (15 * a)).2.1)) _ m (fun a ha => ?_) ?_ (by omega)
    · show pX3_shortenAll_l4 N (iI m) (iF C) (iF F) (iF T) (iF U) (iI p) (iF τ) (iI (Y (15 * a)).2.2) (iI a) (iF (Y (15 * a)).1) (iF (Y (15 * a)).2.1) = _
      unfold pX3_shortenAll_l4
      rw [le_n (by omega) (by omega) (by omega), harc a ha, bs4, iI_s]
    · show pX3_shortenAll_l4 _ _ _ _ _ _ _ _ _ _ _ _ = _
      unfold pX3_shortenAll_l4
      rw [le_y (by omega) (by omega) (by omega)]
  unfold pX3_shortenAll
  rw [hall, bs4]
end UNS
