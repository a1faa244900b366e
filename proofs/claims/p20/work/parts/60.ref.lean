/-! the reference: its rounds, its sending, its cheapest flows within bounds -/
section X5
variable {n m : Nat} {F T C U O L H : Nat → Int} {mW mU : Nat → Int32}
/-- what the reference's prices say of the network -/
def PrOK (N m : Nat) (C U : Nat → Int) (mW mU : Nat → Int32) : Prop := ∀ a, a < m → ∀ u : Nat, 1 ≤ u → (u : Int) ≤ C a → pX5_priceOf N mW mU (iI a) (iI u) = some (iI (npr U a u))
theorem s5_steps {d cb : Nat → Int} {a b : Nat} (ha : a < 8) (hb : b < 8) {w t : Int} (h1 : -1000000000 ≤ d a ∧ d a ≤ 1000000) (h2 : -1000000000 ≤ d b ∧ d b ≤ 1000000) (hw : -99 ≤ w ∧ w ≤ 99) :
    pX5_steps (iF d) (iF cb) (iI a) (iI b) (iI w) (iI t) = some (decide (d a < 1000000 ∧ d a + w < d b), iF (if d a < 1000000 ∧ d a + w < d b then up d b (d a + w) else d), iF (if d a < 1000000 ∧ d a + w < d b then up cb b t else cb)) := by
  unfold pX5_steps
  rw [rd_n ha (by omega), bind_some, zlF]
  by_cases c1 : d a < 1000000
  · rw [le_n c1 (by omega) (by omega), bind_some, rd_n hb (by omega), bind_some, iI_add]
    by_cases c2 : d a + w < d b
    · rw [lt_y c2 (by omega) (by omega), bind_some, iI_add, wr_n hb (by omega), bind_some, wr_n hb (by omega), bind_some, decide_eq_true ⟨c1, c2⟩, if_pos ⟨c1, c2⟩, if_pos ⟨c1, c2⟩]
    · rw [lt_n (by omega) (by omega) (by omega), decide_eq_false (fun q => c2 q.2), if_neg (fun q => c2 q.2), if_neg (fun q => c2 q.2)]
  · rw [le_y (by omega) (by omega) (by omega), decide_eq_false (fun q => c1 q.1), if_neg (fun q => c1 q.1), if_neg (fun q => c1 q.1)]
theorem rlx_y {st en : Nat → Nat} {w : Nat → Int} {ok : Nat → Bool} {x : BX} {t : Nat} (h : ok t = true) : rlx st en w ok x t = (if x.1 (st t) < 1000000 ∧ x.1 (st t) + w t < x.1 (en t) then up x.1 (en t) (x.1 (st t) + w t) else x.1, if x.1 (st t) < 1000000 ∧ x.1 (st t) + w t < x.1 (en t) then up x.2.1 (en t) t else x.2.1, if x.1 (st t) < 1000000 ∧ x.1 (st t) + w t < x.1 (en t) then (en t : Int) else x.2.2) := by
  unfold rlx
  by_cases c : x.1 (st t) < 1000000 ∧ x.1 (st t) + w t < x.1 (en t)
  · rw [if_pos ⟨h, c⟩, if_pos c, if_pos c, if_pos c]
  · rw [if_neg (fun q => c q.2), if_neg c, if_neg c, if_neg c]
theorem rlx_n {st en : Nat → Nat} {w : Nat → Int} {ok : Nat → Bool} {x : BX} {t : Nat} (h : ¬ ok t = true) : rlx st en w ok x t = x := by
  unfold rlx
  rw [if_neg (fun q => h q.1)]
/-- one arc of the reference's rounds: two steps -/
theorem s5_arc {N : Nat} (h : NW n m F T C U) (hw : WF m C L H O) (hPr : PrOK N m C U mW mU) {x : BX} {B : Int} (hB0 : 0 ≤ B) (hB : B ≤ 1000) (hx : bb n B x.1) {k : Nat} (hk : k < m) :
    pX5_measure_l54 N (iI m) (iF F) (iF L) (iF H) (iF O) (iF T) mU mW (iI (if x.2.2 = -1 then 0 else 1)) (iI (k : Nat)) (iF x.1) (iF x.2.1) =
    some (.inr (iI (if (rlx (rst (nfr F) (nfr T)) (ren (nfr F) (nfr T)) (rwt (npr U) O) (rok L H O) (rlx (rst (nfr F) (nfr T)) (ren (nfr F) (nfr T)) (rwt (npr U) O) (rok L H O) x (2 * k)) (2 * k + 1)).2.2 = -1 then 0 else 1), iI ((k + 1 : Nat) : Int),
      iF (rlx (rst (nfr F) (nfr T)) (ren (nfr F) (nfr T)) (rwt (npr U) O) (rok L H O) (rlx (rst (nfr F) (nfr T)) (ren (nfr F) (nfr T)) (rwt (npr U) O) (rok L H O) x (2 * k)) (2 * k + 1)).1,
      iF (rlx (rst (nfr F) (nfr T)) (ren (nfr F) (nfr T)) (rwt (npr U) O) (rok L H O) (rlx (rst (nfr F) (nfr T)) (ren (nfr F) (nfr T)) (rwt (npr U) O) (rok L H O) x (2 * k)) (2 * k + 1)).2.1)) := by
  have hm : m ≤ 12 := h.2.2.1
  have hn : n ≤ 8 := h.2.1
  have h1 := h.2.2.2.1 k hk
  have h3 := hw k hk
  have hf := nw_ft h k hk
  have hst := nw_st h (rok L H O)
  have hwt := nw_w h hw
  have e1 : 2 * k / 2 = k := by omega
  have e2 : (2 * k + 1) / 2 = k := by omega
  have s1 : rst (nfr F) (nfr T) (2 * k) = nfr F k := by rw [rst_e (by omega), e1]
  have s2 : ren (nfr F) (nfr T) (2 * k) = nfr T k := by rw [ren_e (by omega), e1]
  have s3 : rst (nfr F) (nfr T) (2 * k + 1) = nfr T k := by rw [rst_o (by omega), e2]
  have s4 : ren (nfr F) (nfr T) (2 * k + 1) = nfr F k := by rw [ren_o (by omega), e2]
  have w1 : rwt (npr U) O (2 * k) = npr U k ((O k).toNat + 1) := by rw [rwt_e (by omega), e1]
  have w2 : rwt (npr U) O (2 * k + 1) = -npr U k (O k).toNat := by rw [rwt_o (by omega), e2]
  have o1 : rok L H O (2 * k) = true ↔ O k < H k := by rw [rok_e (by omega), e1]
  have o2 : rok L H O (2 * k + 1) = true ↔ L k < O k := by rw [rok_o (by omega), e2]
  have hF : F k = ((nfr F k : Nat) : Int) := by unfold nfr; omega
  have hT : T k = ((nfr T k : Nat) : Int) := by unfold nfr; omega
  have bnd : ∀ (B : Int) (d : Nat → Int), 0 ≤ B → B ≤ 1001 → bb n B d → ∀ v, v < n → -1000000000 ≤ d v ∧ d v ≤ 1000000 := fun B d q0 q1 q2 v hv => by have := q2 v hv; omega
  have c1n : (iI ((k + 1 : Nat) : Int)) = iI (k : Int) + 1 := (iI_s k).symm
  have i2 : (2 : Int32) * iI (k : Int) = iI ((2 * k : Nat) : Int) := by rw [zl2, iI_mul]; rfl
  -- the second step, from whatever the first one left
  have tail : ∀ (y : BX) (fl : Int), bb n (B + 1) y.1 → (fl = 0 ∨ fl = 1) → (fl = 0 ↔ y.2.2 = -1) →
      ((rd 12 (iF O) (iI (k : Int))).bind fun t46 => (rd 12 (iF L) (iI (k : Int))).bind fun t47 => if t46 ≤ t47 then some (Sum.inr (iI fl, iI (k : Int) + 1, iF y.1, iF y.2.1)) else
        (rd 12 (iF T) (iI (k : Int))).bind fun t48 => (rd 12 (iF F) (iI (k : Int))).bind fun t49 => (rd 12 (iF O) (iI (k : Int))).bind fun t50 => (pX5_priceOf N mW mU (iI (k : Int)) t50).bind fun r51 =>
        bnd3 (pX5_steps (iF y.1) (iF y.2.1) t48 t49 (-r51) (iI ((2 * k : Nat) : Int) + 1)) fun b52 mD_53 mB_54 =>
        if (b2i b52) = 0 then some (Sum.inr (iI fl, iI (k : Int) + 1, mD_53, mB_54)) else some (Sum.inr (1, iI (k : Int) + 1, mD_53, mB_54))) =
      (some (.inr (iI (if (rlx (rst (nfr F) (nfr T)) (ren (nfr F) (nfr T)) (rwt (npr U) O) (rok L H O) y (2 * k + 1)).2.2 = -1 then 0 else 1), iI ((k + 1 : Nat) : Int), iF (rlx (rst (nfr F) (nfr T)) (ren (nfr F) (nfr T)) (rwt (npr U) O) (rok L H O) y (2 * k + 1)).1, iF (rlx (rst (nfr F) (nfr T)) (ren (nfr F) (nfr T)) (rwt (npr U) O) (rok L H O) y (2 * k + 1)).2.1)) : Option ((Int32 × Int32 × (Nat → Int32) × (Nat → Int32)) ⊕ (Int32 × Int32 × (Nat → Int32) × (Nat → Int32)))) := by
    intro y fl hy hfl hch
    have hb := bnd _ _ (by omega) (by omega) hy
    have hflc : fl = if y.2.2 = -1 then 0 else 1 := by
      by_cases c : y.2.2 = -1
      · rw [if_pos c]; exact hch.mpr c
      · rw [if_neg c]; rcases hfl with g | g
        · exact absurd (hch.mp g) c
        · exact g
    rw [rd_n (by omega) (by omega), bind_some, rd_n (by omega) (by omega), bind_some]
    by_cases c : L k < O k
    · rw [le_n c (by omega) (by omega), rd_n (by omega) (by omega), bind_some, rd_n (by omega) (by omega), bind_some, bind_some]
      have hp := hPr k hk (O k).toNat (by omega) (by omega)
      rw [show (((O k).toNat : Nat) : Int) = O k by omega] at hp
      have hp2 := h.2.2.2.2.1 k hk (O k).toNat (by omega) (by omega)
      rw [hp, bind_some, iI_neg, show iI ((2 * k : Nat) : Int) + 1 = iI ((2 * k + 1 : Nat) : Int) from iI_s _, hF, hT, s5_steps (by omega) (by omega) (hb _ hf.2.1) (hb _ hf.1) (by omega), bs3, b0_d, rlx_y (o2.mpr c), s3, s4, w2, c1n]
      dsimp only
      by_cases c2 : y.1 (nfr T k) < 1000000 ∧ y.1 (nfr T k) + -npr U k (O k).toNat < y.1 (nfr F k)
      · simp only [if_pos c2]
        rw [if_neg (show ¬ ((nfr F k : Nat) : Int) = -1 by omega)]; rfl
      · simp only [if_neg c2]
        rw [hflc]
    · rw [le_y (by omega) (by omega) (by omega), rlx_n (fun q => c (o2.mp q)), c1n, hflc]
  have hb := bnd _ _ hB0 (by omega) hx
  unfold pX5_measure_l54
  rw [le_n (by omega) (by omega) (by omega), i2]
  -- the first step
  by_cases c : O k < H k
  · have hy : bb n (B + 1) (rlx (rst (nfr F) (nfr T)) (ren (nfr F) (nfr T)) (rwt (npr U) O) (rok L H O) x (2 * k)).1 := bb_step hst hwt (by omega) hB0 hx
    have hp := hPr k hk ((O k).toNat + 1) (by omega) (by omega)
    rw [show ((((O k).toNat + 1 : Nat)) : Int) = O k + 1 by omega] at hp
    have hp2 := h.2.2.2.2.1 k hk ((O k).toNat + 1) (by omega) (by omega)
    have hx1 := rlx_y (st := rst (nfr F) (nfr T)) (en := ren (nfr F) (nfr T)) (w := rwt (npr U) O) (x := x) (o1.mpr c)
    rw [s1, s2, w1] at hx1
    have hro : rd 12 (iF O) (iI (k : Int)) = some (iI (O k)) := rd_n (by omega) (by omega)
    have hrm : rd 12 (iF H) (iI (k : Int)) = some (iI (H k)) := rd_n (by omega) (by omega)
    have hrf : rd 12 (iF F) (iI (k : Int)) = some (iI (nfr F k : Nat)) := by rw [rd_n (by omega) (by omega), hF]
    have hrt : rd 12 (iF T) (iI (k : Int)) = some (iI (nfr T k : Nat)) := by rw [rd_n (by omega) (by omega), hT]
    have hstp := s5_steps (d := x.1) (cb := x.2.1) (a := nfr F k) (b := nfr T k) (w := npr U k ((O k).toNat + 1)) (t := ((2 * k : Nat) : Int)) (by omega) (by omega) (hb _ hf.1) (hb _ hf.2.1) (by omega)
    by_cases c2 : x.1 (nfr F k) < 1000000 ∧ x.1 (nfr F k) + npr U k ((O k).toNat + 1) < x.1 (nfr T k)
    · simp only [if_pos c2] at hx1 hstp
      rw [decide_eq_true c2] at hstp
      have ht := tail _ 1 hy (Or.inr rfl) (by rw [hx1]; dsimp only; omega)
      rw [hx1] at ht ⊢
      rw [← ht]
      simp only [hro, hrm, hrf, hrt, bind_some]
      rw [le_n c (by omega) (by omega), zl1, iI_add, hp, bind_some, ← zl1, hstp, bs3, b0_t]
      all_goals (simp only [hro, hrf, hrt, bind_some])
      all_goals rfl
    · simp only [if_neg c2] at hx1 hstp
      rw [decide_eq_false c2] at hstp
      simp only [hro, hrm, hrf, hrt, bind_some]
      rw [le_n c (by omega) (by omega), zl1, iI_add, hp, bind_some, ← zl1, hstp, bs3, b0_f]
      by_cases c3 : x.2.2 = -1
      · have ht := tail _ 0 hy (Or.inl rfl) (by rw [hx1]; dsimp only; omega)
        rw [hx1] at ht ⊢
        rw [← ht, if_pos c3, eq0_y rfl]
        simp only [hro, hrf, hrt, bind_some]
        rfl
      · have ht := tail _ 1 hy (Or.inr rfl) (by rw [hx1]; dsimp only; omega)
        rw [hx1] at ht ⊢
        rw [← ht, if_neg c3, eq0_n (by omega) (by omega) (by omega)]
        simp only [hro, hrf, hrt, bind_some]
        rfl
  · rw [rlx_n (fun q => c (o1.mp q))]
    have hro : rd 12 (iF O) (iI (k : Int)) = some (iI (O k)) := rd_n (by omega) (by omega)
    have hrm : rd 12 (iF H) (iI (k : Int)) = some (iI (H k)) := rd_n (by omega) (by omega)
    rw [hro, hrm, bind_some, bind_some, le_y (by omega) (by omega) (by omega)]
    have hx2 : bb n (B + 1) x.1 := fun v hv => by have := hx v hv; omega
    by_cases c3 : x.2.2 = -1
    · have ht := tail x 0 hx2 (Or.inl rfl) (by omega)
      rw [← ht, if_pos c3, hro]
      simp only [bind_some, eq0_y]
      rfl
    · have ht := tail x 1 hx2 (Or.inr rfl) (by omega)
      rw [← ht, if_neg c3, hro]
      simp only [bind_some]
      rfl
end X5
