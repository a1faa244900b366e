/-! rows of my own: what class and reference keep of arcs and pieces -/
section SRL
variable {n m : Nat} {F T P C U W V : Nat → Int}
def pre (W : Nat → Int) (a k : Nat) : Int := sm (fun i => W (3 * a + i)) k
theorem pre_s (W : Nat → Int) (a k : Nat) : pre W a (k + 1) = pre W a k + W (3 * a + k) := rfl
def ArcOK (n : Nat) (F T P C U W V : Nat → Int) (a : Nat) : Prop :=
  (0 ≤ F a ∧ F a < n ∧ 0 ≤ T a ∧ T a < n ∧ F a ≠ T a) ∧ (1 ≤ P a ∧ P a ≤ 3) ∧ (∀ k : Nat, (k : Int) < P a → 1 ≤ W (3 * a + k) ∧ W (3 * a + k) ≤ 5 ∧ 0 ≤ V (3 * a + k) ∧ V (3 * a + k) ≤ 99) ∧
    (∀ k : Nat, (k : Int) + 1 < P a → V (3 * a + k) ≤ V (3 * a + (k + 1))) ∧ C a = pre W a (P a).toNat ∧
    ∀ k : Nat, (k : Int) < P a → ∀ j : Nat, pre W a k ≤ j → (j : Int) < pre W a (k + 1) → U (15 * a + j) = V (3 * a + k)
def SRel (n m : Nat) (F T P C U W V : Nat → Int) : Prop :=
  2 ≤ n ∧ n ≤ 8 ∧ m ≤ 12 ∧ (∀ a, a < m → ArcOK n F T P C U W V a) ∧ ∀ a, m ≤ a → a < 12 → P a = 0 ∧ C a = 0
theorem pre_bd {a : Nat} (h : ArcOK n F T P C U W V a) : ∀ k : Nat, (k : Int) ≤ P a → (k : Int) ≤ pre W a k ∧ pre W a k ≤ 5 * k := by
  intro k
  induction k with
  | zero => intro _; exact ⟨Int.le_refl _, Int.le_refl _⟩
  | succ k ih =>
    intro hk
    have := ih (by omega)
    have := h.2.2.1 k (by omega)
    rw [pre_s]
    omega
theorem pre_mono {a : Nat} (h : ArcOK n F T P C U W V a) (k : Nat) : ∀ e : Nat, ((k + e : Nat) : Int) ≤ P a → pre W a k ≤ pre W a (k + e) := by
  intro e
  induction e with
  | zero => intro _; exact Int.le_refl _
  | succ e ih =>
    intro hk
    have := ih (by omega)
    have := h.2.2.1 (k + e) (by omega)
    show _ ≤ pre W a (k + e + 1)
    rw [pre_s]
    omega
theorem c_bd {a : Nat} (h : ArcOK n F T P C U W V a) : 1 ≤ C a ∧ C a ≤ 15 := by
  have := pre_bd h (P a).toNat (by have := h.2.1; omega)
  have h1 := h.2.1
  rw [h.2.2.2.2.1]
  omega
/-- the piece in which a unit lies -/
theorem piece_of {a : Nat} (h : ArcOK n F T P C U W V a) {u : Nat} (h1 : 1 ≤ u) (h2 : (u : Int) ≤ C a) : ∃ k : Nat, (k : Int) < P a ∧ pre W a k < u ∧ (u : Int) ≤ pre W a (k + 1) := by
  have hp := h.2.1
  obtain ⟨i, i1, i2, i3⟩ := least_of (P := fun k => (u : Int) ≤ pre W a (k + 1)) (P a).toNat ⟨(P a).toNat - 1, by omega, by rw [show (P a).toNat - 1 + 1 = (P a).toNat by omega, ← h.2.2.2.2.1]; exact h2⟩
  refine ⟨i, by omega, ?_, i2⟩
  cases i with
  | zero => show sm _ 0 < (u : Int); show (0 : Int) < u; omega
  | succ i =>
    have := i3 i (by omega)
    omega
theorem v_mono {a : Nat} (h : ArcOK n F T P C U W V a) (k : Nat) : ∀ e : Nat, ((k + e : Nat) : Int) < P a → V (3 * a + k) ≤ V (3 * a + (k + e)) := by
  intro e
  induction e with
  | zero => intro _; exact Int.le_refl _
  | succ e ih =>
    intro hk
    have := ih (by omega)
    have := h.2.2.2.1 (k + e) (by omega)
    exact Int.le_trans (ih (by omega)) this
theorem u_is {a : Nat} (h : ArcOK n F T P C U W V a) {u k : Nat} (h1 : 1 ≤ u) (hk : (k : Int) < P a) (h2 : pre W a k < u) (h3 : (u : Int) ≤ pre W a (k + 1)) : npr U a u = V (3 * a + k) := by
  have := h.2.2.2.2.2 k hk (u - 1) (by omega) (by omega)
  show U (15 * a + u - 1) = _
  rw [show 15 * a + u - 1 = 15 * a + (u - 1) by omega]
  exact this
theorem sr_nw (h : SRel n m F T P C U W V) : NW n m F T C U := by
  obtain ⟨h1, h2, h3, h4, -⟩ := h
  refine ⟨h1, h2, h3, fun a ha => ?_, fun a ha u u1 u2 => ?_, fun a ha u v u1 uv v2 => ?_⟩
  · have := (h4 a ha).1
    have := c_bd (h4 a ha)
    omega
  · obtain ⟨k, k1, k2, k3⟩ := piece_of (h4 a ha) u1 u2
    rw [u_is (h4 a ha) u1 k1 k2 k3]
    have := (h4 a ha).2.2.1 k k1
    omega
  · obtain ⟨k, k1, k2, k3⟩ := piece_of (h4 a ha) u1 (by omega)
    obtain ⟨k', k1', k2', k3'⟩ := piece_of (h4 a ha) (by omega) v2
    rw [u_is (h4 a ha) u1 k1 k2 k3, u_is (h4 a ha) (by omega) k1' k2' k3']
    have : k ≤ k' := by
      rcases Nat.lt_or_ge k' k with g | g
      · exfalso
        have := pre_mono (h4 a ha) (k' + 1) (k - (k' + 1)) (by omega)
        rw [show k' + 1 + (k - (k' + 1)) = k by omega] at this
        omega
      · exact g
    have := v_mono (h4 a ha) k (k' - k) (by omega)
    rw [show k + (k' - k) = k' by omega] at this
    exact this
theorem idx3 {a i : Nat} : (3 * iI a) + iI i = iI ((3 * a + i : Nat) : Int) := by
  rw [zl3, iI_mul, iI_add]; rfl
theorem sr_cp (h : SRel n m F T P C U W V) {N : Nat} (hN : 100 ≤ N) : CpOK N m C (iF W) (iF P) := by
  intro a ha
  have hA := h.2.2.2.1 a ha
  have hm := h.2.2.1
  have hP := hA.2.1
  have hb := c_bd hA
  have hlp : lp (un2 (pX5_capacityOf_l4 (iF P) (iF W) (iI a))) N (0, 0) = some (iI (C a), iI (((P a).toNat : Nat) : Int)) := by
    have e0 : ((0 : Int32), (0 : Int32)) = (iI (pre W a 0), iI ((0 : Nat) : Int)) := rfl
    rw [e0]
    refine lp_run (fun k : Nat => (iI (pre W a k), iI (k : Int))) _ (P a).toNat (fun k hk => ?_) ?_ (by omega)
    · show pX5_capacityOf_l4 (iF P) (iF W) (iI a) (iI (pre W a k)) (iI (k : Int)) = _
      unfold pX5_capacityOf_l4
      rw [rd_n (by omega) (by omega), bind_some, le_n (by omega) (by omega) (by omega), idx3, rd_n (by omega) (by omega), bind_some, iI_add, iI_s]
      rfl
    · show pX5_capacityOf_l4 (iF P) (iF W) (iI a) (iI (pre W a (P a).toNat)) (iI (((P a).toNat : Nat) : Int)) = _
      unfold pX5_capacityOf_l4
      rw [rd_n (by omega) (by omega), bind_some, le_y (by omega) (by omega) (by omega), ← hA.2.2.2.2.1]
  unfold pX5_capacityOf
  rw [hlp, bs2]
theorem sr_pr (h : SRel n m F T P C U W V) {N : Nat} (hN : 100 ≤ N) : PrOK N m C U (iF W) (iF V) := by
  intro a ha u u1 u2
  have hA := h.2.2.2.1 a ha
  have hm := h.2.2.1
  have hP := hA.2.1
  have hb := c_bd hA
  obtain ⟨k, k1, k2, k3⟩ := piece_of hA u1 u2
  have hlp : lp (un2 (pX5_priceOf_l5 (iF W) (iI a))) N (0, iI (u : Int)) = some (iI (k : Int), iI ((u : Int) - pre W a k)) := by
    have e0 : ((0 : Int32), iI (u : Int)) = (iI ((0 : Nat) : Int), iI ((u : Int) - pre W a 0)) := by
      show _ = (_, iI ((u : Int) - 0))
      rw [Int.sub_zero]; rfl
    rw [e0]
    refine lp_run (fun i : Nat => (iI (i : Int), iI ((u : Int) - pre W a i))) _ k (fun i hi => ?_) ?_ (by omega)
    · show pX5_priceOf_l5 (iF W) (iI a) (iI (i : Int)) (iI ((u : Int) - pre W a i)) = _
      have h1 := pre_mono hA (i + 1) (k - (i + 1)) (by omega)
      rw [show i + 1 + (k - (i + 1)) = k by omega, pre_s] at h1
      have h2 := pre_bd hA i (by omega)
      have h3 := hA.2.2.1 i (by omega)
      unfold pX5_priceOf_l5
      rw [idx3, rd_n (by omega) (by omega), bind_some, le_n (by omega) (by omega) (by omega), bind_some, iI_sub, iI_s]
      refine congrArg (fun z => some (Sum.inr (iI ((i + 1 : Nat) : Int), iI z))) ?_
      rw [pre_s]; omega
    · show pX5_priceOf_l5 (iF W) (iI a) (iI (k : Int)) (iI ((u : Int) - pre W a k)) = _
      have h2 := pre_bd hA k (by omega)
      have h3 := hA.2.2.1 k (by omega)
      rw [pre_s] at k3
      unfold pX5_priceOf_l5
      rw [idx3, rd_n (by omega) (by omega), bind_some, le_y (by omega) (by omega) (by omega)]
  unfold pX5_priceOf
  rw [hlp, bs2, idx3, rd_n (by omega) (by omega), bind_some, u_is hA u1 k1 k2 k3]
theorem sr_last (h : SRel n m F T P C U W V) {a : Nat} (ha : a < m) : pX2_lastPrice (iF C) (iF U) (iI a) = some (iI (V (3 * a + ((P a).toNat - 1)))) := by
  have hA := h.2.2.2.1 a ha
  have hm := h.2.2.1
  have hP := hA.2.1
  have hb := c_bd hA
  have hC := hA.2.2.2.2.1
  unfold pX2_lastPrice
  rw [rd_n (by omega) (by omega), bind_some, show C a = (((C a).toNat : Nat) : Int) by omega, s_unitPrice (by omega) (by omega) (by omega) (by omega), bind_some]
  have hpm := hA.2.2.1 ((P a).toNat - 1) (by omega)
  have e : pre W a ((P a).toNat - 1 + 1) = C a := by rw [show (P a).toNat - 1 + 1 = (P a).toNat by omega]; exact hC.symm
  have e2 := e
  rw [pre_s] at e2
  rw [u_is hA (u := (C a).toNat) (k := (P a).toNat - 1) (by omega) (by omega) (by omega) (by omega)]
def filr (U : Nat → Int) (b w : Nat) (v : Int) : Nat → Int := fun i => if b ≤ i ∧ i < b + w then v else U i
theorem filr_s (U : Nat → Int) (b w : Nat) (v : Int) : up (filr U b w v) (b + w) v = filr U b (w + 1) v := by
  funext i
  unfold up filr
  by_cases c : i = b + w
  · rw [if_pos c, if_pos (by omega)]
  · rw [if_neg c]
    by_cases c2 : b ≤ i ∧ i < b + w
    · rw [if_pos c2, if_pos (by omega)]
    · rw [if_neg c2, if_neg (by omega)]
theorem filr_0 (U : Nat → Int) (b : Nat) (v : Int) : filr U b 0 v = U := by
  funext i
  unfold filr
  rw [if_neg (by omega)]
theorem s2_addPiece {a w : Nat} {v : Int} (ha : a < 12) (hC0 : 0 ≤ C a) (hw : C a + w ≤ 15) (hw5 : w ≤ 5) (hP : 0 ≤ P a ∧ P a ≤ 3) {N : Nat} (hN : 100 ≤ N) :
    pX2_addPiece N (iF P) (iF C) (iF U) (iI a) (iI w) (iI v) = some (iF (up P a (P a + 1)), iF (up C a (C a + w)), iF (filr U (15 * a + (C a).toNat) w v)) := by
  have hlp : lp (un3 (pX2_addPiece_l3 (iI a) (iI w) (iI v))) N (0, iF C, iF U) = some (iI (w : Int), iF (up C a (C a + w)), iF (filr U (15 * a + (C a).toNat) w v)) := by
    have e0 : ((0 : Int32), iF C, iF U) = (iI ((0 : Nat) : Int), iF (up C a (C a + ((0 : Nat) : Int))), iF (filr U (15 * a + (C a).toNat) 0 v)) := by
      rw [filr_0, show C a + ((0 : Nat) : Int) = C a by omega, up_id]; rfl
    rw [e0]
    refine lp_run (fun k : Nat => (iI (k : Int), iF (up C a (C a + k)), iF (filr U (15 * a + (C a).toNat) k v))) _ w (fun k hk => ?_) ?_ (by omega)
    · show pX2_addPiece_l3 (iI a) (iI w) (iI v) (iI (k : Int)) (iF (up C a (C a + k))) (iF (filr U (15 * a + (C a).toNat) k v)) = _
      have idx : iI a * 15 + iI (C a + k) = iI ((15 * a + (C a).toNat + k : Nat) : Int) := by
        rw [zl15, iI_mul, iI_add]; congr 1; omega
      unfold pX2_addPiece_l3
      rw [le_n (by omega) (by omega) (by omega), rd_n (by omega) (by omega), bind_some, up_eq, zl15, le_n (by omega) (by omega) (by omega), ← zl15, bind_some, idx, wr_n (by omega) (by omega), bind_some, bind_some, zl1, iI_add, wr_n (by omega) (by omega), bind_some, ← zl1, iI_s, filr_s, up_up]
      refine congrArg (fun z => some (Sum.inr (iI ((k + 1 : Nat) : Int), iF (up C a z), iF (filr U (15 * a + (C a).toNat) (k + 1) v)))) ?_
      omega
    · show pX2_addPiece_l3 (iI a) (iI w) (iI v) (iI (w : Int)) _ _ = _
      unfold pX2_addPiece_l3
      rw [le_y (by omega) (by omega) (by omega)]
  unfold pX2_addPiece
  rw [hlp, bs3, rd_n (by omega) (by omega), bind_some, zl1, iI_add, wr_n (by omega) (by omega), bind_some]
theorem arcok_same {n' : Nat} {F' T' P' C' U' W' V' : Nat → Int} {a : Nat} (h : ArcOK n F T P C U W V a) (hF : F' a = F a) (hT : T' a = T a) (hP : P' a = P a) (hC : C' a = C a) (hU : ∀ j : Nat, j < 15 → U' (15 * a + j) = U (15 * a + j)) (hW : ∀ k : Nat, k < 3 → W' (3 * a + k) = W (3 * a + k)) (hV : ∀ k : Nat, k < 3 → V' (3 * a + k) = V (3 * a + k)) : ArcOK n F' T' P' C' U' W' V' a := by
  have hp := h.2.1
  have hb := pre_bd h
  have hpre : ∀ k : Nat, k ≤ 3 → pre W' a k = pre W a k := fun k hk => sm_congr (fun i hi => hW i (by omega))
  unfold ArcOK
  rw [hF, hT, hP, hC]
  refine ⟨h.1, h.2.1, fun k hk => by rw [hW k (by omega), hV k (by omega)]; exact h.2.2.1 k hk, fun k hk => by rw [hV k (by omega), hV (k + 1) (by omega)]; exact h.2.2.2.1 k hk, by rw [hpre _ (by omega)]; exact h.2.2.2.2.1, fun k hk j h1 h2 => ?_⟩
  rw [hpre _ (by omega)] at h1 h2
  have := hb (k + 1) (by omega)
  rw [hU j (by omega), hV k (by omega)]
  exact h.2.2.2.2.2 k hk j h1 h2
/-- a new arc -/
theorem sr_arc (h : SRel n m F T P C U W V) (hm : m < 12) {x0 x1 x3 : Int} {w : Nat} (g0 : 0 ≤ x0 ∧ x0 < n) (g1 : 0 ≤ x1 ∧ x1 < n) (g01 : x0 ≠ x1) (gw : 1 ≤ w ∧ w ≤ 5) (g3 : 0 ≤ x3 ∧ x3 ≤ 99) :
    SRel n (m + 1) (up F m x0) (up T m x1) (up P m 1) (up C m w) (filr U (15 * m) w x3) (up W (3 * m) w) (up V (3 * m) x3) := by
  obtain ⟨h1, h2, h3, h4, h5⟩ := h
  refine ⟨h1, h2, by omega, fun a ha => ?_, fun a h6 h7 => ?_⟩
  · by_cases c : a = m
    · subst c
      have e0 : up W (3 * a) w (3 * a + 0) = w := up_eq _ _ _
      have p1 : pre (up W (3 * a) w) a 1 = w := by
        show (0 : Int) + up W (3 * a) w (3 * a + 0) = w
        rw [e0]; omega
      have p0 : pre (up W (3 * a) w) a 0 = 0 := rfl
      unfold ArcOK
      rw [up_eq, up_eq, up_eq, up_eq]
      refine ⟨⟨g0.1, g0.2, g1.1, g1.2, g01⟩, by omega, fun k hk => ?_, fun k hk => by omega, p1.symm, fun k hk j j1 j2 => ?_⟩
      · have : k = 0 := by omega
        subst this
        rw [e0, show up V (3 * a) x3 (3 * a + 0) = x3 from up_eq _ _ _]
        omega
      · have : k = 0 := by omega
        subst this
        rw [show (0 : Nat) + 1 = 1 from rfl, p1] at j2
        rw [show up V (3 * a) x3 (3 * a + 0) = x3 from up_eq _ _ _]
        unfold filr
        rw [if_pos (by omega)]
    · refine arcok_same (n' := n) (h4 a (by omega)) (up_ne _ _ c) (up_ne _ _ c) (up_ne _ _ c) (up_ne _ _ c) (fun j hj => ?_) (fun k hk => up_ne _ _ (by omega)) (fun k hk => up_ne _ _ (by omega))
      unfold filr
      rw [if_neg (by omega)]
  · rw [up_ne _ _ (by omega), up_ne _ _ (by omega)]
    exact h5 a (by omega) h7
/-- a new piece -/
theorem sr_piece (h : SRel n m F T P C U W V) {a : Nat} (ha : a < m) (hp3 : P a < 3) {x3 : Int} {w : Nat} (gw : 1 ≤ w ∧ w ≤ 5) (g3 : V (3 * a + ((P a).toNat - 1)) ≤ x3 ∧ x3 ≤ 99) :
    SRel n m F T (up P a (P a + 1)) (up C a (C a + w)) (filr U (15 * a + (C a).toNat) w x3) (up W (3 * a + (P a).toNat) w) (up V (3 * a + (P a).toNat) x3) ∧ C a + w ≤ 15 := by
  obtain ⟨h1, h2, h3, h4, h5⟩ := h
  have hA := h4 a ha
  have hP := hA.2.1
  have hC := hA.2.2.2.2.1
  have hb := pre_bd hA (P a).toNat (by omega)
  have hW : ∀ k : Nat, k ≠ (P a).toNat → up W (3 * a + (P a).toNat) w (3 * a + k) = W (3 * a + k) := fun k hk => up_ne _ _ (by omega)
  have hV : ∀ k : Nat, k ≠ (P a).toNat → up V (3 * a + (P a).toNat) x3 (3 * a + k) = V (3 * a + k) := fun k hk => up_ne _ _ (by omega)
  have hpre : ∀ k : Nat, k ≤ (P a).toNat → pre (up W (3 * a + (P a).toNat) w) a k = pre W a k := fun k hk => sm_congr (fun i hi => hW i (by omega))
  have hlast : pre (up W (3 * a + (P a).toNat) w) a ((P a).toNat + 1) = C a + w := by
    rw [pre_s, hpre _ (Nat.le_refl _), up_eq, hC]
  refine ⟨⟨h1, h2, h3, fun b hb' => ?_, fun b b1 b2 => by rw [up_ne _ _ (by omega), up_ne _ _ (by omega)]; exact h5 b b1 b2⟩, by omega⟩
  by_cases c : b = a
  · subst c
    unfold ArcOK
    rw [up_eq, up_eq]
    refine ⟨hA.1, by omega, fun k hk => ?_, fun k hk => ?_, ?_, fun k hk j j1 j2 => ?_⟩
    · by_cases c : k = (P b).toNat
      · subst c
        have := hA.2.2.1 ((P b).toNat - 1) (by omega)
        rw [up_eq, up_eq]; omega
      · rw [hW k c, hV k c]; exact hA.2.2.1 k (by omega)
    · by_cases c : k + 1 = (P b).toNat
      · rw [hV k (by omega), c, up_eq]
        rw [show (P b).toNat - 1 = k by omega] at g3
        exact g3.1
      · rw [hV k (by omega), hV (k + 1) c]
        exact hA.2.2.2.1 k (by omega)
    · rw [show (P b + 1).toNat = (P b).toNat + 1 by omega]
      exact hlast.symm
    · by_cases c : k = (P b).toNat
      · subst c
        rw [hlast] at j2
        rw [hpre _ (Nat.le_refl _), ← hC] at j1
        rw [up_eq]
        unfold filr
        rw [if_pos (by omega)]
      · rw [hpre k (by omega)] at j1
        rw [hpre (k + 1) (by omega)] at j2
        have hm := pre_mono hA (k + 1) ((P b).toNat - (k + 1)) (by omega)
        rw [show k + 1 + ((P b).toNat - (k + 1)) = (P b).toNat by omega, ← hC] at hm
        rw [hV k c]
        unfold filr
        rw [if_neg (by omega)]
        exact hA.2.2.2.2.2 k (by omega) j j1 j2
  · refine arcok_same (n' := n) (h4 b hb') rfl rfl (up_ne _ _ c) (up_ne _ _ c) (fun j hj => ?_) (fun k hk => up_ne _ _ (by omega)) (fun k hk => up_ne _ _ (by omega))
    unfold filr
    rw [if_neg (by omega)]
theorem sr_zero {n : Nat} (h1 : 2 ≤ n) (h2 : n ≤ 8) : SRel n 0 (fun _ => 0) (fun _ => 0) (fun _ => 0) (fun _ => 0) (fun _ => 0) (fun _ => 0) (fun _ => 0) := ⟨h1, h2, by omega, fun a ha => by omega, fun a _ _ => ⟨rfl, rfl⟩⟩
end SRL
