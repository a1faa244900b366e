/-! rows of my own: arc, piece, demand, capacity, price: both sides -/
section OPS
variable {n m : Nat} {F T P C U W V : Nat → Int}
theorem i32 (p : Int32) : ∃ x : Int, p = iI x ∧ -2147483648 ≤ x ∧ x < 2147483648 := ⟨p.toInt, (iI_self p).symm, p.le_toInt, p.toInt_lt⟩
theorem q_refNode (hn : n ≤ 8) {x : Int} (h1 : -2147483648 ≤ x) (h2 : x < 2147483648) : pX4_refuseOtherThanNode (iI n) (iI x) = if 0 ≤ x ∧ x < n then some (.inr ()) else some (.inl 1) := by
  unfold pX4_refuseOtherThanNode
  rw [zl0]
  by_cases c1 : x < 0
  · rw [lt_y c1 h1 (by omega), if_neg (by omega)]
  · rw [lt_n (by omega) (by omega) h2]
    by_cases c2 : x < n
    · rw [lt_y c2 (by omega) (by omega), if_pos (by omega)]; rfl
    · rw [lt_n (by omega) (by omega) h2, if_neg (by omega)]
theorem q_refArc (hm : m ≤ 12) {x : Int} (h1 : -2147483648 ≤ x) (h2 : x < 2147483648) : pX4_refuseOtherThanArc (iI m) (iI x) = if 0 ≤ x ∧ x < m then some (.inr ()) else some (.inl 1) := by
  unfold pX4_refuseOtherThanArc
  rw [zl0]
  by_cases c1 : x < 0
  · rw [lt_y c1 h1 (by omega), if_neg (by omega)]
  · rw [lt_n (by omega) (by omega) h2]
    by_cases c2 : x < m
    · rw [lt_y c2 (by omega) (by omega), if_pos (by omega)]; rfl
    · rw [lt_n (by omega) (by omega) h2, if_neg (by omega)]
theorem q_noWidth {x : Int} (h1 : -2147483648 ≤ x) (h2 : x < 2147483648) : pX4_isNoWidth (iI x) = some (decide ¬ (1 ≤ x ∧ x ≤ 5)) := by
  unfold pX4_isNoWidth
  rw [zl1, zl5]
  by_cases c1 : x < 1
  · rw [lt_y c1 h1 (by omega), decide_eq_true (by omega)]
  · rw [lt_n (by omega) (by omega) h2]
    by_cases c2 : x ≤ 5
    · rw [le_y c2 (by omega) (by omega), decide_eq_false (by omega)]
    · rw [le_n (by omega) (by omega) h2, decide_eq_true (by omega)]
theorem bx_l {A R : Type} (k : Nat) (f : A → Option (Nat ⊕ R)) : bndx (some (.inl k : Nat ⊕ A)) f = some (.inl k) := rfl
theorem bx_r {A R : Type} (a : A) (f : A → Option (Nat ⊕ R)) : bndx (some (.inr a : Nat ⊕ A)) f = f a := rfl
theorem rgt_s {R : Type} (r : R) : rgt (some r) = some (.inr r : Nat ⊕ R) := rfl
theorem s5_arcs {mNo mAr p0 p1 p2 p3 : Int32} {mF mT mW mU mP : Nat → Int32} {b0 b1 bw bp : Bool} (e0 : pX5_isNode mNo p0 = some b0) (e1 : pX5_isNode mNo p1 = some b1) (ew : pX5_in p2 1 5 = some bw) (ep : pX5_in p3 0 99 = some bp) :
    pX5_arc mNo mAr mF mT mW mU mP p0 p1 p2 p3 = if (b0 && b1) = false then some (0, 1, mAr, mF, mT, mW, mU, mP) else if p0 = p1 ∨ (bw && bp) = false then some (0, 2, mAr, mF, mT, mW, mU, mP) else if mAr = 12 then some (0, 3, mAr, mF, mT, mW, mU, mP) else
      (wr 12 mF mAr p0).bind fun mF_4 => (wr 12 mT mAr p1).bind fun mT_5 => (wr 12 mP mAr 0).bind fun mP_6 => bnd3 (pX5_put mW mU mP_6 mAr p2 p3) fun mW_7 mU_8 mP_9 => some (((mAr + 1) - 1, 0, mAr + 1, mF_4, mT_5, mW_7, mU_8, mP_9)) := by
  unfold pX5_arc
  by_cases c : p0 = p1
  · subst c
    obtain rfl : b0 = b1 := Option.some.inj (e0.symm.trans e1)
    by_cases c2 : mAr = 12 <;> cases b0 <;> cases bw <;> cases bp <;> simp only [e0, ew, ep, c2, bind_some, gw0, gw1, gw2, gw3, bs2, b0_t, b0_f, if_true, if_false, Bool.and_true, Bool.and_false, Bool.false_and, Bool.true_and, Bool.and_self, true_or, or_true, false_or, or_false, reduceCtorEq]
  · by_cases c2 : mAr = 12 <;> cases b0 <;> cases b1 <;> cases bw <;> cases bp <;> simp only [e0, e1, ew, ep, c, c2, bind_some, gw0, gw1, gw2, gw3, bs2, b0_t, b0_f, if_true, if_false, Bool.and_true, Bool.and_false, Bool.false_and, Bool.true_and, Bool.and_self, true_or, or_true, false_or, or_false, reduceCtorEq]
theorem op_arc (h : SRel n m F T P C U W V) (p0 p1 p2 p3 : Int32) {N : Nat} (hN : 20000 ≤ N) :
    (∃ k : Nat, (k = 1 ∨ k = 2 ∨ k = 3) ∧ pX4_arc N (iI n) (iI m) (iF F) (iF T) (iF P) (iF C) (iF U) p0 p1 p2 p3 = some (.inl k) ∧ pX5_arc (iI n) (iI m) (iF F) (iF T) (iF W) (iF V) (iF P) p0 p1 p2 p3 = some (0, iI k, iI m, iF F, iF T, iF W, iF V, iF P)) ∨
    (∃ (r : Int32) (m' : Nat) (F' T' P' C' U' W' V' : Nat → Int), pX4_arc N (iI n) (iI m) (iF F) (iF T) (iF P) (iF C) (iF U) p0 p1 p2 p3 = some (.inr (r, iI m', iF F', iF T', iF P', iF C', iF U')) ∧ pX5_arc (iI n) (iI m) (iF F) (iF T) (iF W) (iF V) (iF P) p0 p1 p2 p3 = some (r, 0, iI m', iF F', iF T', iF W', iF V', iF P') ∧ SRel n m' F' T' P' C' U' W' V') := by
  obtain ⟨x0, rfl, l0, u0⟩ := i32 p0
  obtain ⟨x1, rfl, l1, u1⟩ := i32 p1
  obtain ⟨x2, rfl, l2, u2⟩ := i32 p2
  obtain ⟨x3, rfl, l3, u3⟩ := i32 p3
  have hn := h.2.1
  have hm := h.2.2.1
  have e5 := s5_arcs (mAr := iI m) (mF := iF F) (mT := iF T) (mW := iF W) (mU := iF V) (mP := iF P) (s5_isNode hn l0 u0) (s5_isNode hn l1 u1) (s5_in (lo := 1) (hi := 5) l2 u2 (by omega) (by omega) (by omega) (by omega)) (s5_in (lo := 0) (hi := 99) l3 u3 (by omega) (by omega) (by omega) (by omega))
  rw [e5]
  unfold pX4_arc
  rw [q_refNode hn l0 u0, q_refNode hn l1 u1, q_noWidth l2 u2]
  by_cases c0 : 0 ≤ x0 ∧ x0 < n
  · rw [if_pos c0, bx_r, decide_eq_true c0]
    by_cases c1 : 0 ≤ x1 ∧ x1 < n
    · rw [if_pos c1, bx_r, decide_eq_true c1, if_neg (show ¬ ((true && true) = false) by decide)]
      by_cases c01 : x0 = x1
      · left
        rw [eq_y c01, if_pos (Or.inl (congrArg iI c01))]
        exact ⟨2, by decide, rfl, rfl⟩
      · have c01' : ¬ (iI x0 = iI x1) := fun g => c01 ((iI_eq l0 u0 l1 u1).mp g)
        rw [if_neg c01', bind_some]
        by_cases c2 : 1 ≤ x2 ∧ x2 ≤ 5
        · rw [decide_eq_false (fun g => g c2), b0_f, decide_eq_true c2, zl0]
          by_cases c3 : 0 ≤ x3 ∧ x3 ≤ 99
          · rw [lt_n (by omega) (by omega) (by omega), zl99, le_y (by omega) (by omega) (by omega), decide_eq_true c3, if_neg (show ¬ (iI x0 = iI x1 ∨ (true && true) = false) from fun g => g.elim c01' (by decide))]
            by_cases cm : m < 12
            · right
              obtain ⟨w, rfl⟩ : ∃ w : Nat, x2 = w := ⟨x2.toNat, by omega⟩
              have hz := h.2.2.2.2 m (Nat.le_refl m) cm
              have hs := sr_arc h cm c0 c1 c01 (w := w) (by omega) c3
              refine ⟨iI m, m + 1, up F m x0, up T m x1, up P m 1, up C m w, filr U (15 * m) w x3, up W (3 * m) w, up V (3 * m) x3, ?_, ?_, hs⟩
              · rw [zl12, lt_y (by omega) (by omega) (by omega)]
                unfold pX2_addArc
                rw [zl12, lt_y (by omega) (by omega) (by omega), wr_n (by omega) (by omega), bind_some, wr_n (by omega) (by omega), bind_some, s2_addPiece cm (by omega) (by omega) (by omega) (by omega) (by omega), bs3, bs7, rgt_s, hz.1, hz.2, iI_s]
                rw [show (0 : Int) + 1 = 1 from rfl, show (0 : Int) + (w : Int) = w by omega, show 15 * m + (0 : Int).toNat = 15 * m from rfl]
              · rw [zl12, eq_n (by omega) (by omega) (by omega) (by omega) (by omega), ← zl0, zl0, wr_n (by omega) (by omega), bind_some, wr_n (by omega) (by omega), bind_some, wr_n (by omega) (by omega), bind_some]
                have ep : pX5_put (iF W) (iF V) (iF (up P m 0)) (iI m) (iI (w : Int)) (iI x3) = some (iF (up W (3 * m) w), iF (up V (3 * m) x3), iF (up P m 1)) := by
                  have ix : (3 * iI m) + iI (0 : Int) = iI ((3 * m : Nat) : Int) := by rw [zl3, iI_mul, iI_add]; congr 1
                  unfold pX5_put
                  rw [rd_n (by omega) (by omega), up_eq, bind_some, ix, wr_n (by omega) (by omega), bind_some, bind_some, ix, wr_n (by omega) (by omega), bind_some, bind_some, zl1, iI_add, wr_n (by omega) (by omega), bind_some, up_up]
                  rfl
                rw [ep, bs3, iI_s, zl1, iI_sub]
                refine congrArg (fun z => some (z, _)) ?_
                congr 1
                omega
            · left
              have : m = 12 := by omega
              subst this
              exact ⟨3, by decide, by rw [if_neg (show ¬ ((iI ((12 : Nat) : Int)) < 12) by decide)], by rw [if_pos (show (iI ((12 : Nat) : Int)) = 12 by decide)]; rfl⟩
          · left
            rw [decide_eq_false c3, if_pos (Or.inr (Bool.and_false true))]
            refine ⟨2, by decide, ?_, rfl⟩
            by_cases c4 : x3 < 0
            · rw [lt_y c4 (by omega) (by omega)]
            · rw [lt_n (by omega) (by omega) (by omega), zl99, le_n (by omega) (by omega) (by omega)]
        · left
          rw [decide_eq_true c2, b0_t, decide_eq_false c2, if_pos (Or.inr (Bool.false_and _))]
          exact ⟨2, by decide, rfl, rfl⟩
    · left
      rw [if_neg c1, bx_l, decide_eq_false c1, if_pos (by decide)]
      exact ⟨1, by decide, rfl, rfl⟩
  · left
    rw [if_neg c0, bx_l, decide_eq_false c0, if_pos (Bool.false_and _)]
    exact ⟨1, by decide, rfl, rfl⟩
theorem s5_pieces {N : Nat} {mAr p0 p1 p2 : Int32} {mW mU mP : Nat → Int32} {ba bw : Bool} (ea : pX5_isArc mAr p0 = some ba) (ew : pX5_in p1 1 5 = some bw) {t30 t29 : Int32} {bp : Bool} (hr : ba = true → rd 12 mP p0 = some t29 ∧ rd 36 mU (((3 * p0) + t29) - 1) = some t30 ∧ pX5_in p2 t30 99 = some bp) :
    pX5_piece N mAr mW mU mP p0 p1 p2 = if ba = false then some (0, 1, mW, mU, mP) else if (bw && bp) = false then some (0, 2, mW, mU, mP) else if t29 = 3 then some (0, 3, mW, mU, mP) else
      bnd3 (pX5_put mW mU mP p0 p1 p2) fun mW_11 mU_12 mP_13 => (pX5_capacityOf N mW_11 mP_13 p0).bind fun r14 => some ((r14, 0, mW_11, mU_12, mP_13)) := by
  unfold pX5_piece
  cases ba
  · simp only [ea, bind_some, gw0, gw1, gw2, gw3, bs2, b0_t, b0_f, if_true]
  · obtain ⟨h1, h2, h3⟩ := hr rfl
    by_cases c2 : t29 = 3
    · subst c2
      cases bw <;> cases bp <;> simp only [ea, ew, h1, h2, h3, bind_some, gw0, gw1, gw2, gw3, bs2, b0_t, b0_f, if_true, if_false, Bool.and_true, Bool.and_false, Bool.false_and, Bool.true_and, Bool.and_self, reduceCtorEq]
    · cases bw <;> cases bp <;> simp only [ea, ew, h1, h2, h3, c2, bind_some, gw0, gw1, gw2, gw3, bs2, b0_t, b0_f, if_true, if_false, Bool.and_true, Bool.and_false, Bool.false_and, Bool.true_and, Bool.and_self, reduceCtorEq]
theorem op_piece (h : SRel n m F T P C U W V) (p0 p1 p2 : Int32) {N : Nat} (hN : 20000 ≤ N) :
    (∃ k : Nat, (k = 1 ∨ k = 2 ∨ k = 3) ∧ pX4_piece N (iI m) (iF P) (iF C) (iF U) p0 p1 p2 = some (.inl k) ∧ pX5_piece N (iI m) (iF W) (iF V) (iF P) p0 p1 p2 = some (0, iI k, iF W, iF V, iF P)) ∨
    (∃ (r : Int32) (P' C' U' W' V' : Nat → Int), pX4_piece N (iI m) (iF P) (iF C) (iF U) p0 p1 p2 = some (.inr (r, iF P', iF C', iF U')) ∧ pX5_piece N (iI m) (iF W) (iF V) (iF P) p0 p1 p2 = some (r, 0, iF W', iF V', iF P') ∧ SRel n m F T P' C' U' W' V') := by
  obtain ⟨x0, rfl, l0, u0⟩ := i32 p0
  obtain ⟨x1, rfl, l1, u1⟩ := i32 p1
  obtain ⟨x2, rfl, l2, u2⟩ := i32 p2
  have hn := h.2.1
  have hm := h.2.2.1
  by_cases c0 : 0 ≤ x0 ∧ x0 < m
  · obtain ⟨a, rfl⟩ : ∃ a : Nat, x0 = a := ⟨x0.toNat, by omega⟩
    have ha : a < m := by omega
    have hA := h.2.2.2.1 a ha
    have hP := hA.2.1
    have hb := c_bd hA
    have hv := hA.2.2.1 ((P a).toNat - 1) (by omega)
    have ix : ((3 * iI a) + iI (P a)) - 1 = iI ((3 * a + ((P a).toNat - 1) : Nat) : Int) := by
      rw [zl3, zl1, iI_mul, iI_add, iI_sub]; congr 1; omega
    have e5 := s5_pieces (N := N) (mW := iF W) (mU := iF V) (mP := iF P) (s5_isArc hm l0 u0) (s5_in (lo := 1) (hi := 5) l1 u1 (by omega) (by omega) (by omega) (by omega)) (t29 := iI (P a)) (t30 := iI (V (3 * a + ((P a).toNat - 1)))) (p2 := iI x2) (fun _ => ⟨rd_n (by omega) (by omega), by rw [ix]; exact rd_n (by omega) (by omega), s5_in (hi := 99) l2 u2 (by omega) (by omega) (by omega) (by omega)⟩)
    rw [e5]
    unfold pX4_piece
    rw [q_refArc hm l0 u0, if_pos c0, bx_r, q_noWidth l1 u1, bind_some, decide_eq_true c0, if_neg (show ¬ (true = false) by decide)]
    by_cases c1 : 1 ≤ x1 ∧ x1 ≤ 5
    · rw [decide_eq_false (fun g => g c1), b0_f, decide_eq_true c1, sr_last h ha, bind_some]
      by_cases c2 : V (3 * a + ((P a).toNat - 1)) ≤ x2 ∧ x2 ≤ 99
      · rw [lt_n c2.1 (by omega) (by omega), zl99, le_y c2.2 (by omega) (by omega), decide_eq_true c2, if_neg (show ¬ ((true && true) = false) by decide), rd_n (by omega) (by omega), bind_some]
        by_cases c3 : P a < 3
        · right
          obtain ⟨w, rfl⟩ : ∃ w : Nat, x1 = w := ⟨x1.toNat, by omega⟩
          obtain ⟨hs, hC15⟩ := sr_piece h ha c3 (w := w) (by omega) c2
          refine ⟨iI (C a + w), _, _, _, _, _, ?_, ?_, hs⟩
          · rw [zl3, lt_y c3 (by omega) (by omega), s2_addPiece (by omega) (by omega) hC15 (by omega) (by omega) (by omega), bs3, rd_n (by omega) (by omega), bind_some, up_eq, rgt_s]
          · have ep : pX5_put (iF W) (iF V) (iF P) (iI a) (iI (w : Int)) (iI x2) = some (iF (up W (3 * a + (P a).toNat) w), iF (up V (3 * a + (P a).toNat) x2), iF (up P a (P a + 1))) := by
              have ix2 : (3 * iI a) + iI (P a) = iI ((3 * a + (P a).toNat : Nat) : Int) := by rw [zl3, iI_mul, iI_add]; congr 1; omega
              unfold pX5_put
              rw [rd_n (by omega) (by omega), bind_some, ix2, wr_n (by omega) (by omega), bind_some, bind_some, ix2, wr_n (by omega) (by omega), bind_some, bind_some, zl1, iI_add, wr_n (by omega) (by omega), bind_some]
            have hcp := sr_cp hs (N := N) (by omega) a ha
            rw [up_eq] at hcp
            rw [zl3, eq_n (by omega) (by omega) (by omega) (by omega) (by omega), ep, bs3, hcp, bind_some]
        · left
          have : P a = 3 := by omega
          rw [this]
          exact ⟨3, by decide, by rw [if_neg (show ¬ (iI 3 < 3) by decide)], by rw [if_pos (show iI 3 = 3 by decide)]; rfl⟩
      · left
        rw [decide_eq_false c2, if_pos (Bool.and_false true)]
        refine ⟨2, by decide, ?_, rfl⟩
        by_cases c4 : x2 < V (3 * a + ((P a).toNat - 1))
        · rw [lt_y c4 (by omega) (by omega)]
        · rw [lt_n (by omega) (by omega) (by omega), zl99, le_n (by omega) (by omega) (by omega)]
    · left
      rw [decide_eq_true c1, b0_t, decide_eq_false c1, if_pos (by rfl)]
      exact ⟨2, by decide, rfl, rfl⟩
  · left
    have e5 := s5_pieces (N := N) (mW := iF W) (mU := iF V) (mP := iF P) (s5_isArc hm l0 u0) (s5_in (lo := 1) (hi := 5) l1 u1 (by omega) (by omega) (by omega) (by omega)) (t29 := 0) (t30 := 0) (p2 := iI x2) (bp := true) (fun e => absurd (of_decide_eq_true e) c0)
    rw [e5, decide_eq_false c0, if_pos rfl]
    unfold pX4_piece
    rw [q_refArc hm l0 u0, if_neg c0, bx_l]
    exact ⟨1, by decide, rfl, rfl⟩
theorem op_demand (hn : n ≤ 8) (mS mG mQ p0 p1 p2 : Int32) :
    (∃ k : Nat, (k = 1 ∨ k = 2) ∧ pX4_demand (iI n) p0 p1 p2 = some (.inl k) ∧ pX5_demand (iI n) mS mG mQ p0 p1 p2 = some (iI k, mS, mG, mQ)) ∨
    (∃ s t A : Nat, s < n ∧ t < n ∧ s ≠ t ∧ A ≤ 20 ∧ pX4_demand (iI n) p0 p1 p2 = some (.inr (iI s, iI t, iI A)) ∧ pX5_demand (iI n) mS mG mQ p0 p1 p2 = some (0, iI s, iI t, iI A)) := by
  obtain ⟨x0, rfl, l0, u0⟩ := i32 p0
  obtain ⟨x1, rfl, l1, u1⟩ := i32 p1
  obtain ⟨x2, rfl, l2, u2⟩ := i32 p2
  have e0 := s5_isNode hn l0 u0
  have e1 := s5_isNode hn l1 u1
  have e2 : pX5_in (iI x2) 0 20 = some (decide (0 ≤ x2 ∧ x2 ≤ 20)) := s5_in (lo := 0) (hi := 20) l2 u2 (by omega) (by omega) (by omega) (by omega)
  have key : pX5_demand (iI n) mS mG mQ (iI x0) (iI x1) (iI x2) = if (decide (0 ≤ x0 ∧ x0 < n) && decide (0 ≤ x1 ∧ x1 < n)) = false then some (1, mS, mG, mQ) else if iI x0 = iI x1 ∨ decide (0 ≤ x2 ∧ x2 ≤ 20) = false then some (2, mS, mG, mQ) else some (0, iI x0, iI x1, iI x2) := by
    generalize decide (0 ≤ x0 ∧ x0 < (n : Int)) = b0 at e0 ⊢
    generalize decide (0 ≤ x1 ∧ x1 < (n : Int)) = b1 at e1 ⊢
    generalize decide (0 ≤ x2 ∧ x2 ≤ 20) = b2 at e2 ⊢
    unfold pX5_demand
    by_cases c : iI x0 = iI x1
    · rw [← c] at e1 ⊢
      obtain rfl : b0 = b1 := Option.some.inj (e0.symm.trans e1)
      cases b0 <;> cases b2 <;> simp only [e0, e1, e2, bind_some, gw0, gw1, gw2, gw3, bs2, b0_t, b0_f, if_true, if_false, Bool.and_true, Bool.and_false, Bool.false_and, Bool.true_and, Bool.and_self, true_or, or_true, false_or, or_false, reduceCtorEq]
    · cases b0 <;> cases b1 <;> cases b2 <;> simp only [e0, e1, e2, c, bind_some, gw0, gw1, gw2, gw3, bs2, b0_t, b0_f, if_true, if_false, Bool.and_true, Bool.and_false, Bool.false_and, Bool.true_and, Bool.and_self, true_or, or_true, false_or, or_false, reduceCtorEq]
  rw [key]
  unfold pX4_demand
  rw [q_refNode hn l0 u0, q_refNode hn l1 u1]
  by_cases c0 : 0 ≤ x0 ∧ x0 < n
  · rw [if_pos c0, bx_r, decide_eq_true c0]
    by_cases c1 : 0 ≤ x1 ∧ x1 < n
    · rw [if_pos c1, bx_r, decide_eq_true c1, if_neg (show ¬ ((true && true) = false) by decide)]
      by_cases c01 : x0 = x1
      · left
        rw [eq_y c01, if_pos (Or.inl (congrArg iI c01))]
        exact ⟨2, by decide, rfl, rfl⟩
      · have c01' : ¬ (iI x0 = iI x1) := fun g => c01 ((iI_eq l0 u0 l1 u1).mp g)
        rw [if_neg c01', zl0]
        by_cases c2 : 0 ≤ x2 ∧ x2 ≤ 20
        · right
          rw [lt_n (by omega) (by omega) (by omega), zl20, le_y (by omega) (by omega) (by omega), decide_eq_true c2, if_neg (show ¬ (iI x0 = iI x1 ∨ true = false) from fun g => g.elim c01' (by decide))]
          obtain ⟨s, rfl⟩ : ∃ s : Nat, x0 = s := ⟨x0.toNat, by omega⟩
          obtain ⟨t, rfl⟩ : ∃ s : Nat, x1 = s := ⟨x1.toNat, by omega⟩
          obtain ⟨A, rfl⟩ : ∃ s : Nat, x2 = s := ⟨x2.toNat, by omega⟩
          exact ⟨s, t, A, by omega, by omega, by omega, by omega, rfl, rfl⟩
        · left
          rw [decide_eq_false c2, if_pos (Or.inr rfl)]
          refine ⟨2, by decide, ?_, rfl⟩
          by_cases c4 : x2 < 0
          · rw [lt_y c4 (by omega) (by omega)]
          · rw [lt_n (by omega) (by omega) (by omega), zl20, le_n (by omega) (by omega) (by omega)]
    · left
      rw [if_neg c1, bx_l, decide_eq_false c1, if_pos (by decide)]
      exact ⟨1, by decide, rfl, rfl⟩
  · left
    rw [if_neg c0, bx_l, decide_eq_false c0, if_pos (Bool.false_and _)]
    exact ⟨1, by decide, rfl, rfl⟩
theorem op_capacity (h : SRel n m F T P C U W V) (p0 : Int32) {N : Nat} (hN : 20000 ≤ N) :
    (pX4_capacity (iI m) (iF C) p0 = some (.inl 1) ∧ pX5_capacity N (iI m) (iF W) (iF P) p0 = some (0, 1)) ∨ (∃ r : Int32, pX4_capacity (iI m) (iF C) p0 = some (.inr r) ∧ pX5_capacity N (iI m) (iF W) (iF P) p0 = some (r, 0)) := by
  obtain ⟨x0, rfl, l0, u0⟩ := i32 p0
  have hm := h.2.2.1
  unfold pX4_capacity pX5_capacity
  rw [q_refArc hm l0 u0, s5_isArc hm l0 u0, bind_some]
  by_cases c0 : 0 ≤ x0 ∧ x0 < m
  · right
    obtain ⟨a, rfl⟩ : ∃ a : Nat, x0 = a := ⟨x0.toNat, by omega⟩
    rw [if_pos c0, bx_r, decide_eq_true c0, b0_t, gw0, bs2, b0_t, sr_cp h (by omega) a (by omega), bind_some, rd_n (by omega) (by omega), bind_some, rgt_s]
    exact ⟨_, rfl, rfl⟩
  · left
    rw [if_neg c0, bx_l, decide_eq_false c0, b0_f, gw1, bs2, b0_f]
    exact ⟨rfl, rfl⟩
theorem op_price (h : SRel n m F T P C U W V) (p0 p1 : Int32) {N : Nat} (hN : 20000 ≤ N) :
    (pX4_price (iI m) (iF C) (iF U) p0 p1 = some (.inl 1) ∧ pX5_price N (iI m) (iF W) (iF V) (iF P) p0 p1 = some (0, 1)) ∨ (∃ r : Int32, pX4_price (iI m) (iF C) (iF U) p0 p1 = some (.inr r) ∧ pX5_price N (iI m) (iF W) (iF V) (iF P) p0 p1 = some (r, 0)) := by
  obtain ⟨x0, rfl, l0, u0⟩ := i32 p0
  obtain ⟨x1, rfl, l1, u1⟩ := i32 p1
  have hm := h.2.2.1
  unfold pX4_price pX5_price
  rw [q_refArc hm l0 u0, s5_isArc hm l0 u0, bind_some]
  by_cases c0 : 0 ≤ x0 ∧ x0 < m
  · obtain ⟨a, rfl⟩ : ∃ a : Nat, x0 = a := ⟨x0.toNat, by omega⟩
    have ha : a < m := by omega
    have hb := c_bd (h.2.2.2.1 a ha)
    rw [if_pos c0, bx_r, decide_eq_true c0, b0_t, sr_cp h (by omega) a ha, bind_some, show pX5_in (iI x1) 1 (iI (C a)) = some (decide (1 ≤ x1 ∧ x1 ≤ C a)) from s5_in (lo := 1) l1 u1 (by omega) (by omega) (by omega) (by omega), bind_some, zl1]
    by_cases c1 : 1 ≤ x1 ∧ x1 ≤ C a
    · right
      obtain ⟨u, rfl⟩ : ∃ a : Nat, x1 = a := ⟨x1.toNat, by omega⟩
      rw [decide_eq_true c1, b0_t, gw0, bs2, b0_t, sr_pr h (by omega) a ha u (by omega) (by omega), bind_some, lt_n (by omega) (by omega) (by omega), rd_n (by omega) (by omega), bind_some, le_y (by omega) (by omega) (by omega), s_unitPrice (by omega) (by omega) (by omega) (by omega), bind_some, rgt_s]
      exact ⟨_, rfl, rfl⟩
    · left
      rw [decide_eq_false c1, b0_f]
      refine ⟨?_, rfl⟩
      by_cases c2 : x1 < 1
      · rw [lt_y c2 (by omega) (by omega)]
      · rw [lt_n (by omega) (by omega) (by omega), rd_n (by omega) (by omega), bind_some, le_n (by omega) (by omega) (by omega)]
  · left
    rw [if_neg c0, bx_l, decide_eq_false c0, b0_f, gw1, bs2, b0_f]
    exact ⟨rfl, rfl⟩
end OPS
