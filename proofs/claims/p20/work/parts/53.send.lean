/-! the class: as much as can be sent -/
def dg (s : Nat) (cb : Nat → Int) : Nat → Int := fun v => if v = s ∨ cb v ≠ -1 then 0 else 1000000
section X0d
variable {n m : Nat} {F T C U O L H : Nat → Int}
/-- known nodes are those at distance 0 -/
def kn (n s : Nat) (x : BX) : Prop := ∀ v, v < n → x.1 v = dg s x.2.1 v ∧ -1 ≤ x.2.1 v ∧ x.2.1 v ≤ 24
theorem kn_rlx (h : NW n m F T C U) {s : Nat} {x : BX} (hx : kn n s x) {t : Nat} (ht : t < 2 * m) : kn n s (rlx (rst (nfr F) (nfr T)) (ren (nfr F) (nfr T)) (fun _ => 0) (rok L H O) x t) := by
  have hm : m ≤ 12 := h.2.2.1
  have hs := nw_st h (fun _ => true) t ht rfl
  unfold rlx
  by_cases c : rok L H O t = true ∧ x.1 (rst (nfr F) (nfr T) t) < 1000000 ∧ x.1 (rst (nfr F) (nfr T) t) + 0 < x.1 (ren (nfr F) (nfr T) t)
  · rw [if_pos c]
    intro v hv
    dsimp only
    by_cases e : v = ren (nfr F) (nfr T) t
    · rw [e, up_eq]
      unfold dg
      rw [up_eq, if_pos (Or.inr (by omega))]
      have := (hx _ hs.1).1
      unfold dg at this
      refine ⟨?_, by omega, by omega⟩
      have c2 := c.2.1
      rw [this] at c2 ⊢
      by_cases q : rst (nfr F) (nfr T) t = s ∨ x.2.1 (rst (nfr F) (nfr T) t) ≠ -1
      · rw [if_pos q]; rfl
      · rw [if_neg q] at c2; omega
    · unfold dg
      rw [up_ne _ _ e, up_ne _ _ e]
      exact hx v hv
  · rw [if_neg c]; exact hx
theorem s_widen (h : NW n m F T C U) (hw : WF m C L H O) {s : Nat} (hsn : s < n) {x : BX} (hx : kn n s x) {t : Nat} (ht : t < 2 * m) :
    pX0_widen (iF F) (iF T) (iF O) (iF L) (iF H) (iF x.2.1) (iI s) (iI t) =
    some (decide (rok L H O t = true ∧ x.1 (rst (nfr F) (nfr T) t) < 1000000 ∧ x.1 (rst (nfr F) (nfr T) t) + 0 < x.1 (ren (nfr F) (nfr T) t)),
      iF (rlx (rst (nfr F) (nfr T)) (ren (nfr F) (nfr T)) (fun _ => 0) (rok L H O) x t).2.1) := by
  have hm : m ≤ 12 := h.2.2.1
  have hn : n ≤ 8 := h.2.1
  have h1 := h.2.2.2.1 (t / 2) (by omega)
  have h3 := hw (t / 2) (by omega)
  have hs := nw_st h (fun _ => true) t ht rfl
  obtain ⟨k1, k2, k3⟩ := hx _ hs.1
  obtain ⟨k4, k5, k6⟩ := hx _ hs.2.1
  have hcap : -15 ≤ (if t % 2 = 0 then H (t / 2) - O (t / 2) else O (t / 2) - L (t / 2)) ∧ (if t % 2 = 0 then H (t / 2) - O (t / 2) else O (t / 2) - L (t / 2)) ≤ 15 := by split <;> omega
  have hok : rok L H O t = true ↔ 0 < (if t % 2 = 0 then H (t / 2) - O (t / 2) else O (t / 2) - L (t / 2)) := by rw [rok_room]; exact decide_eq_true_iff
  unfold pX0_widen rlx
  rw [s_start (by omega) (by omega) (by omega), bind_some, s_end (by omega) (by omega) (by omega), bind_some, s_roomOf (by omega)]
  rw [rd_n (by omega) (by omega), rd_n (by omega) (by omega)]
  simp only [bind_some]
  rw [zlm]
  generalize hR : (if t % 2 = 0 then H (t / 2) - O (t / 2) else O (t / 2) - L (t / 2)) = R at hcap hok
  generalize hst : rst (nfr F) (nfr T) t = a at hs k1 k2 k3
  generalize hen : ren (nfr F) (nfr T) t = b at hs k4 k5 k6
  obtain ⟨q1, q2, q3⟩ := hs
  unfold dg at k1 k4
  have lt0 : ∀ {α : Type} {u w : α}, (if (0 : Int32) < iI R then u else w) = if 0 < R then u else w := by
    intro α u w
    by_cases c : 0 < R
    · rw [if_pos c, zl0]; exact lt_y c (by omega) (by omega)
    · rw [if_neg c, zl0]; exact lt_n (by omega) (by omega) (by omega)
  have eqm : ∀ {α : Type} {u w : α} (y : Int), -1 ≤ y → y ≤ 24 → (if iI y = iI (-1) then u else w) = if y = -1 then u else w := by
    intro α u w y y1 y2
    by_cases c : y = -1
    · rw [if_pos c]; exact eq_y c
    · rw [if_neg c]; exact eq_n c (by omega) (by omega) (by omega) (by omega)
  have eqs : ∀ {α : Type} {u w : α} (y : Nat), y < n → (if iI (y : Int) = iI (s : Int) then u else w) = if y = s then u else w := by
    intro α u w y y1
    by_cases c : y = s
    · rw [if_pos c]; exact eq_y (by omega)
    · rw [if_neg c]; exact eq_n (by omega) (by omega) (by omega) (by omega) (by omega)
  rw [eqs a q1, eqs b q2, eqm _ k2 k3, eqm _ k5 k6, lt0]
  have hwr : wr 8 (iF x.2.1) (iI (b : Int)) (iI (t : Int)) = some (iF (up x.2.1 b t)) := wr_n (by omega) (by omega)
  rw [hwr]
  by_cases c1 : a = s
  · rw [if_pos c1]
    rw [if_pos (Or.inl c1)] at k1
    by_cases c2 : b = s
    · omega
    · rw [if_neg c2]
      by_cases c3 : x.2.1 b = -1
      · rw [if_pos c3]
        rw [if_neg (by omega)] at k4
        by_cases c4 : 0 < R
        · rw [if_pos c4, if_pos ⟨hok.mpr c4, by omega, by omega⟩, decide_eq_true ⟨hok.mpr c4, by omega, by omega⟩]; rfl
        · rw [if_neg c4, if_neg (fun q => c4 (hok.mp q.1)), decide_eq_false (fun q => c4 (hok.mp q.1))]
      · rw [if_neg c3]
        rw [if_pos (Or.inr c3)] at k4
        rw [if_neg (by omega), decide_eq_false (by omega)]
  · rw [if_neg c1]
    by_cases c5 : x.2.1 a = -1
    · rw [if_pos c5]
      rw [if_neg (by omega)] at k1
      rw [if_neg (by omega), decide_eq_false (by omega)]
    · rw [if_neg c5]
      rw [if_pos (Or.inr c5)] at k1
      by_cases c2 : b = s
      · rw [if_pos c2]
        rw [if_pos (Or.inl c2)] at k4
        rw [if_neg (by omega), decide_eq_false (by omega)]
      · rw [if_neg c2]
        by_cases c3 : x.2.1 b = -1
        · rw [if_pos c3]
          rw [if_neg (by omega)] at k4
          by_cases c4 : 0 < R
          · rw [if_pos c4, if_pos ⟨hok.mpr c4, by omega, by omega⟩, decide_eq_true ⟨hok.mpr c4, by omega, by omega⟩]; rfl
          · rw [if_neg c4, if_neg (fun q => c4 (hok.mp q.1)), decide_eq_false (fun q => c4 (hok.mp q.1))]
        · rw [if_neg c3]
          rw [if_pos (Or.inr c3)] at k4
          rw [if_neg (by omega), decide_eq_false (by omega)]
theorem s_spreadFrom (h : NW n m F T C U) (hw : WF m C L H O) {cb0 : Nat → Int} {s : Nat} (hs : s < n) {N : Nat} (hN : 100 ≤ N) :
    ∃ d cb : Nat → Int, pX0_spreadFrom N (iI n) (iI m) (iF F) (iF T) (iF O) (iF L) (iF H) (iF cb0) (iI s) = some (iF cb) ∧
      BT (2 * m) n (rst (nfr F) (nfr T)) (ren (nfr F) (nfr T)) (fun _ => 0) (rok L H O) (src s) d cb ∧ ∀ v, v < n → d v = 0 ∨ d v = 1000000 := by
  have hn : 2 ≤ n ∧ n ≤ 8 := ⟨h.1, h.2.1⟩
  have hm : m ≤ 12 := h.2.2.1
  have hst := nw_st h (rok L H O)
  have hp : ∀ t, t < 2 * m → rok L H O t = true → (fun _ : Nat => (0 : Int)) (ren (nfr F) (nfr T) t) ≤ (fun _ : Nat => (0 : Int)) (rst (nfr F) (nfr T) t) + (fun _ : Nat => (0 : Int)) t := fun t _ _ => Int.le_refl _
  have hfill : lp (un2 (pX0_spreadFrom_l2 (iI n))) N (0, iF cb0) = some (iI n, iF (fil (fun _ => -1) cb0 n)) := by
    rw [show ((0 : Int32), iF cb0) = (iI ((0 : Nat) : Int), iF (fil (fun _ => -1) cb0 0)) by rw [fil_0]; rfl]
    refine lp_run (fun k : Nat => (iI (k : Int), iF (fil (fun _ => -1) cb0 k))) _ n (fun k hk => ?_) ?_ (by omega)
    · show pX0_spreadFrom_l2 (iI n) (iI (k : Nat)) (iF (fil (fun _ => -1) cb0 k)) = _
      unfold pX0_spreadFrom_l2
      rw [le_n (by omega) (by omega) (by omega), zlm, wr_n (by omega) (by omega), bind_some]
      rw [show (-1 : Int) = (fun _ : Nat => (-1 : Int)) k from rfl, fil_s, iI_s]
    · show pX0_spreadFrom_l2 (iI n) (iI (n : Nat)) (iF (fil (fun _ => -1) cb0 n)) = _
      unfold pX0_spreadFrom_l2
      rw [le_y (by omega) (by omega) (by omega)]
  generalize hcb1 : fil (fun _ => -1) cb0 n = cb1 at hfill
  have hcb : ∀ v, v < n → cb1 v = -1 := fun v hv => by rw [← hcb1]; exact fil_lt _ _ hv
  let X : Nat → BX := rns (2 * m) (rst (nfr F) (nfr T)) (ren (nfr F) (nfr T)) (fun _ => 0) (rok L H O) (src s, cb1, -1)
  have hB : ∀ k, BI (2 * m) n (rst (nfr F) (nfr T)) (ren (nfr F) (nfr T)) (fun _ => 0) (rok L H O) (src s) k (2 * m) (X k) := bi_rns hst (bi_init (src s) cb1 (-1) hcb)
  have hend : (X n).2.2 = -1 := bi_end (pi := fun _ => 0) hst hp (by omega) (bi_init (src s) cb1 (-1) hcb)
  have hk0 : kn n s (src s, cb1, -1) := by
    intro v hv
    dsimp only
    rw [hcb v hv]
    refine ⟨?_, by omega, by omega⟩
    unfold src dg
    rw [hcb v hv]
    by_cases c : v = s
    · rw [if_pos c, if_pos (Or.inl c)]
    · rw [if_neg c, if_neg (by omega)]
  have hkr : ∀ x : BX, kn n s x → ∀ j, j ≤ 2 * m → kn n s (rnk (rst (nfr F) (nfr T)) (ren (nfr F) (nfr T)) (fun _ => 0) (rok L H O) x j) := by
    intro x hx j
    induction j with
    | zero => intro _; exact hx
    | succ j ih => intro hj; exact kn_rlx h (ih (by omega)) (by omega)
  have hkX : ∀ k, kn n s (X k) := by
    intro k
    induction k with
    | zero => exact hk0
    | succ k ih => exact hkr ((X k).1, (X k).2.1, -1) ih (2 * m) (Nat.le_refl _)
  obtain ⟨K', k1, k2, k3⟩ := least_of (P := fun k => (X (k + 1)).2.2 = -1) n ⟨n - 1, by omega, by show (X (n - 1 + 1)).2.2 = -1; rw [show n - 1 + 1 = n by omega]; exact hend⟩
  have hround : ∀ k, k < n → lp (un3 (pX0_spreadFrom_l50 (iF H) (iF L) (iF O) (iI m) (iF F) (iF T) (iI s))) N (0, 0, iF (X k).2.1) = some (iI (if (X (k + 1)).2.2 = -1 then 0 else 1), iI (2 * m : Nat), iF (X (k + 1)).2.1) := by
    intro k hk
    let Y : Nat → BX := rnk (rst (nfr F) (nfr T)) (ren (nfr F) (nfr T)) (fun _ => 0) (rok L H O) ((X k).1, (X k).2.1, -1)
    have hYk : ∀ j, j ≤ 2 * m → kn n s (Y j) := hkr ((X k).1, (X k).2.1, -1) (hkX k)
    refine lp_run (fun j => (iI (if (Y j).2.2 = -1 then 0 else 1), iI (j : Nat), iF (Y j).2.1)) _ (2 * m) (fun j hj => ?_) ?_ (by omega)
    · show pX0_spreadFrom_l50 (iF H) (iF L) (iF O) (iI m) (iF F) (iF T) (iI s) (iI (if (Y j).2.2 = -1 then 0 else 1)) (iI (j : Nat)) (iF (Y j).2.1) = _
      unfold pX0_spreadFrom_l50
      rw [s_steps, bind_some, le_n (by omega) (by omega) (by omega)]
      rw [s_widen h hw hs (hYk j (by omega)) hj, bs2]
      have e1 : Y (j + 1) = rlx (rst (nfr F) (nfr T)) (ren (nfr F) (nfr T)) (fun _ => 0) (rok L H O) (Y j) j := rfl
      rw [iI_s, e1]
      congr 3
      unfold rlx
      by_cases c : rok L H O j = true ∧ (Y j).1 (rst (nfr F) (nfr T) j) < 1000000 ∧ (Y j).1 (rst (nfr F) (nfr T) j) + 0 < (Y j).1 (ren (nfr F) (nfr T) j)
      · rw [if_pos c, decide_eq_true c]
        dsimp only
        rw [if_neg (show ¬ ((ren (nfr F) (nfr T) j : Nat) : Int) = -1 by omega)]
        by_cases c2 : (Y j).2.2 = -1
        · rw [if_pos c2]; decide
        · rw [if_neg c2]; decide
      · rw [if_neg c, decide_eq_false c]
        by_cases c2 : (Y j).2.2 = -1
        · rw [if_pos c2]; show iI 0 ||| b2i false = iI 0; decide
        · rw [if_neg c2]; show iI 1 ||| b2i false = iI 1; decide
    · show pX0_spreadFrom_l50 (iF H) (iF L) (iF O) (iI m) (iF F) (iF T) (iI s) (iI (if (Y (2 * m)).2.2 = -1 then 0 else 1)) (iI ((2 * m : Nat) : Int)) (iF (Y (2 * m)).2.1) = _
      unfold pX0_spreadFrom_l50
      rw [s_steps, bind_some, le_y (by omega) (by omega) (by omega)]
      rfl
  refine ⟨(X (K' + 1)).1, (X (K' + 1)).2.1, ?_, bi_done (pi := fun _ => 0) hst hp (by omega) (hB (K' + 1)) k2, fun v hv => ?_⟩
  · unfold pX0_spreadFrom
    rw [hfill, bs2]
    have hlp : lp (un3 (pX0_spreadFrom_l30 N (iF H) (iF L) (iF O) (iI m) (iF F) (iI n) (iF T) (iI s))) N (1, 0, iF cb1) = some (iI 0, iI ((K' + 1 : Nat) : Int), iF (X (K' + 1)).2.1) := by
      refine lp_run (fun k => (iI (if k = 0 then 1 else if (X k).2.2 = -1 then 0 else 1), iI (k : Nat), iF (X k).2.1)) _ (K' + 1) (fun k hk => ?_) ?_ (by omega)
      · show pX0_spreadFrom_l30 N (iF H) (iF L) (iF O) (iI m) (iF F) (iI n) (iF T) (iI s) (iI (if k = 0 then 1 else if (X k).2.2 = -1 then 0 else 1)) (iI (k : Nat)) (iF (X k).2.1) = _
        unfold pX0_spreadFrom_l30
        have e : (if k = 0 then (1 : Int) else if (X k).2.2 = -1 then 0 else 1) = 1 := by
          by_cases c : k = 0
          · rw [if_pos c]
          · rw [if_neg c, if_neg]
            have := k3 (k - 1) (by omega)
            rw [show k - 1 + 1 = k by omega] at this
            exact this
        rw [le_n (by omega) (by omega) (by omega), e, eq0_n (by omega) (by omega) (by omega), hround k (by omega), bs3]
        rw [iI_s, if_neg (show ¬ k + 1 = 0 by omega)]
      · show pX0_spreadFrom_l30 N (iF H) (iF L) (iF O) (iI m) (iF F) (iI n) (iF T) (iI s) (iI (if K' + 1 = 0 then 1 else if (X (K' + 1)).2.2 = -1 then 0 else 1)) (iI ((K' + 1 : Nat) : Int)) (iF (X (K' + 1)).2.1) = _
        unfold pX0_spreadFrom_l30
        rw [if_neg (show ¬ K' + 1 = 0 by omega), if_pos k2]
        by_cases c : n ≤ K' + 1
        · rw [le_y (by omega) (by omega) (by omega)]
        · rw [le_n (by omega) (by omega) (by omega), eq0_y rfl]
    rw [hlp, bs3]
  · have := (hkX (K' + 1) v hv).1
    rw [this]
    unfold dg
    split <;> omega
/-- more along a chain stays within bounds -/
theorem aug_wf (h : NW n m F T C U) (hw : WF m C L H O) {Q : Nat → Prop} {cb mu : Nat → Int} (hT : Tre n (2 * m) (rst (nfr F) (nfr T)) (ren (nfr F) (nfr T)) (rok L H O) Q cb mu) {t K : Nat} (ht : t < n) (hK : ∀ j, j < K → cb (agn (rst (nfr F) (nfr T)) cb t j) ≠ -1) {u : Int} (hu0 : 0 ≤ u) (hu : ∀ j, j < K → u ≤ rmo L H O (cb (agn (rst (nfr F) (nfr T)) cb t j)).toNat) : WF m C L H (agf (rst (nfr F) (nfr T)) cb t u O K) := by
  obtain ⟨-, i2, -⟩ := aug_inv (f := O) (nw_ft h) hT ht u K hK
  intro a ha
  have h1 := hw a ha
  rcases i2 a with g | ⟨q, g1, g2, g3, g4, g5, j, g6, g7⟩
  · rw [g]; exact h1
  · have h2 := hu j g6
    rw [g7] at h2
    unfold rmo at h2
    rw [g2] at h2
    rw [g5]
    by_cases h9 : q % 2 = 0
    · rw [if_pos h9] at h2 ⊢; omega
    · rw [if_neg h9] at h2 ⊢; omega
/-- as much as can be sent, up to a limit -/
theorem s_send (h : NW n m F T C U) (hw : WF m C L H O) {cb0 : Nat → Int} {s t : Nat} (hs : s < n) (ht : t < n) (hst : s ≠ t) {lim : Nat} (hl : lim ≤ 180) {N : Nat} (hN : 300 ≤ N) :
    ∃ (k : Nat) (f cb : Nat → Int), pX0_send N (iI n) (iI m) (iF F) (iF T) (iF O) (iF L) (iF H) (iF cb0) (iI s) (iI t) (iI lim) = some (iI k, iF f, iF cb) ∧ k ≤ lim ∧ WF m C L H f ∧
      (∀ v, net m (nfr F) (nfr T) f v = net m (nfr F) (nfr T) O v + (if s = v then (k : Int) else 0) - (if t = v then (k : Int) else 0)) ∧
      (k = lim ∨ ∃ R : Nat → Prop, R s ∧ ¬ R t ∧ ∀ q, q < 2 * m → rok L H f q = true → R (rst (nfr F) (nfr T) q) → R (ren (nfr F) (nfr T) q)) := by
  have hn : 2 ≤ n ∧ n ≤ 8 := ⟨h.1, h.2.1⟩
  have hm : m ≤ 12 := h.2.2.1
  let I : Nat → (Int32 × Int32 × (Nat → Int32) × (Nat → Int32)) → Prop := fun j x => ∃ (k w : Nat) (f cb : Nat → Int), x = (iI k, iI w, iF f, iF cb) ∧ w + j = lim + 1 ∧ w ≤ k ∧ k ≤ lim ∧ WF m C L H f ∧ (∀ v, net m (nfr F) (nfr T) f v = net m (nfr F) (nfr T) O v + (if s = v then (k : Int) else 0) - (if t = v then (k : Int) else 0))
  let Post : ((Int32 × Int32 × (Nat → Int32) × (Nat → Int32)) ⊕ (Int32 × (Nat → Int32) × (Nat → Int32))) → Prop := fun r =>
    ∃ (k w : Nat) (f cb : Nat → Int), (r = .inl (iI k, iI w, iF f, iF cb) ∨ r = .inr (iI k, iF f, iF cb)) ∧ k ≤ lim ∧ WF m C L H f ∧ (∀ v, net m (nfr F) (nfr T) f v = net m (nfr F) (nfr T) O v + (if s = v then (k : Int) else 0) - (if t = v then (k : Int) else 0)) ∧
      (k = lim ∨ ∃ R : Nat → Prop, R s ∧ ¬ R t ∧ ∀ q, q < 2 * m → rok L H f q = true → R (rst (nfr F) (nfr T) q) → R (ren (nfr F) (nfr T) q))
  have hinit : I (lim + 1) (0, 0, iF O, iF cb0) := by
    refine ⟨0, 0, O, cb0, rfl, by omega, by omega, by omega, hw, fun v => ?_⟩
    by_cases e1 : s = v <;> by_cases e2 : t = v <;> simp [e1, e2]
  obtain ⟨r, hr1, hr2⟩ := lp_inv (step := un4 (pX0_send_l6 N (iF H) (iF L) (iI m) (iF F) (iI n) (iF T) (iI s) (iI t) (iI lim))) I Post (by
    intro j x hI
    obtain ⟨k, w, f, cb, rfl, hj, hwk, hk, hf, hnet⟩ := hI
    show (∃ r, pX0_send_l6 N (iF H) (iF L) (iI m) (iF F) (iI n) (iF T) (iI s) (iI t) (iI lim) (iI k) (iI w) (iF f) (iF cb) = some (.inl r) ∧ Post r) ∨ (∃ s', pX0_send_l6 N (iF H) (iF L) (iI m) (iF F) (iI n) (iF T) (iI s) (iI t) (iI lim) (iI k) (iI w) (iF f) (iF cb) = some (.inr s') ∧ ∃ k', k' < j ∧ I k' s')
    unfold pX0_send_l6
    by_cases c1 : lim ≤ w
    · left
      rw [le_y (by omega) (by omega) (by omega)]
      exact ⟨_, rfl, k, w, f, cb, Or.inl rfl, hk, hf, hnet, Or.inl (by omega)⟩
    · rw [le_n (by omega) (by omega) (by omega)]
      by_cases c2 : lim ≤ k
      · left
        rw [le_y (by omega) (by omega) (by omega)]
        exact ⟨_, rfl, k, w, f, cb, Or.inl rfl, hk, hf, hnet, Or.inl (by omega)⟩
      · rw [le_n (by omega) (by omega) (by omega)]
        obtain ⟨d1, cb1, m1, m2, m3⟩ := s_spreadFrom h hf (cb0 := cb) hs (N := N) (by omega)
        rw [m1, bind_some, iI_sub]
        have m3' : ∀ v, v < n → d1 v = 1000000 ∨ (-20000 ≤ d1 v ∧ d1 v ≤ 20000) := fun v hv => by rcases m3 v hv with g | g <;> omega
        obtain ⟨c0, ds0⟩ := bt_src0 h hs m2 m3' (fun _ _ _ => by show (-99 : Int) ≤ 0 ∧ (0 : Int) ≤ 99; omega)
        by_cases hd : d1 t < 1000000
        · right
          obtain ⟨mu, hT⟩ := bt_tre h m2
          obtain ⟨K, k1, k2, k3, k4⟩ := tre_root hT ht
          have e := bt_src h m2 ht hd k3 k2
          obtain ⟨u, u1, u2, u3, u4⟩ := s_sendOnWay h hf hT ht k1 k3 e c0 (lim := (lim : Int) - k) (by omega) (by omega) (N := N) (by omega)
          rw [u4, bs2, eq0_n (by omega) (by omega) (by omega)]
          obtain ⟨i1, -, -⟩ := aug_inv (f := f) (nw_ft h) hT ht u K k3
          refine ⟨_, rfl, j - 1, by omega, k + u.toNat, w + 1, _, _, by rw [iI_add, iI_s]; congr 3; omega, by omega, by omega, by omega, aug_wf h hf hT ht k3 (by omega) u3, fun v => ?_⟩
          rw [i1 v, hnet v, e]
          by_cases e1 : s = v <;> by_cases e2 : t = v <;> simp [e1, e2] <;> omega
        · left
          have hcb : cb1 t = -1 := by
            obtain ⟨-, mu, h2⟩ := m2
            rcases h2 t ht with ⟨g, -⟩ | ⟨q, g1, g2, g3, g4, g5, g6, -⟩
            · exact g
            · have := m3 _ (nw_st h _ q g1 g3).1
              dsimp only at g6
              omega
          rw [s_sendOnWay0 hn hs ht (fun e => hst e.symm) hcb (by omega) (by omega) (by omega), bs2, eq0_y rfl]
          refine ⟨_, rfl, k, w, f, cb1, Or.inr rfl, hk, hf, hnet, Or.inr ⟨fun v => d1 v < 1000000, by show d1 s < 1000000; omega, hd, fun q hq hok hlt => ?_⟩⟩
          have h8 : d1 (ren (nfr F) (nfr T) q) ≤ d1 (rst (nfr F) (nfr T) q) + 0 := m2.1 q hq hok hlt
          have h9 : d1 (rst (nfr F) (nfr T) q) < 1000000 := hlt
          show d1 (ren (nfr F) (nfr T) q) < 1000000
          omega) N (lim + 1) _ hinit (by omega)
  obtain ⟨k, w, f, cb, hr, g1, g2, g3, g4⟩ := hr2
  refine ⟨k, f, cb, ?_, g1, g2, g3, g4⟩
  unfold pX0_send
  show (lp _ N (0, 0, iF O, iF cb0)).bind _ = _
  rw [hr1]
  rcases hr with rfl | rfl <;> rfl
end X0d
