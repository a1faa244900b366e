/-! rows of my own: the answers of class and reference, one by one -/
section OPS2
variable {n m : Nat} {F T P C U W V : Nat → Int}
theorem ifx (f : Nat → Int32) : ∃ O : Nat → Int, f = iF O := ⟨_, (iF_self f).symm⟩
theorem cost_one {b : Nat → Int} {c c' : Int} (h1 : (0 ≤ c ∧ c ≤ 20000 ∧ IsMin n m (nfr F) (nfr T) (npr U) (fun _ => 0) C b c) ∨ (c = -1 ∧ NoFlo n m (nfr F) (nfr T) (fun _ => 0) C b)) (h2 : (0 ≤ c' ∧ c' ≤ 20000 ∧ IsMin n m (nfr F) (nfr T) (npr U) (fun _ => 0) C b c') ∨ (c' = -1 ∧ NoFlo n m (nfr F) (nfr T) (fun _ => 0) C b)) : c = c' := by
  rcases h1 with ⟨-, -, h1⟩ | ⟨h1, h1'⟩
  · rcases h2 with ⟨-, -, h2⟩ | ⟨h2, h2'⟩
    · exact ismin_one h1 h2
    · obtain ⟨⟨f, f1, -⟩, -⟩ := h1
      exact absurd f1 (h2' f)
  · rcases h2 with ⟨-, -, h2⟩ | ⟨h2, h2'⟩
    · obtain ⟨⟨f, f1, -⟩, -⟩ := h2
      exact absurd f1 (h1' f)
    · omega
theorem op_most (h : SRel n m F T P C U W V) {s t : Nat} (hs : s < n) (ht : t < n) (hst : s ≠ t) {N : Nat} (hN : 20000 ≤ N) (cO cL cH cB mL mM mO mR mD mB : Nat → Int32) :
    ∃ (r : Int32) (x1 x2 x3 x4 y1 y2 y3 y4 y5 y6 : Nat → Int32), pX4_most N (iI s) (iI t) (iI n) (iI m) (iF F) (iF T) (iF C) cO cL cH cB = some (r, x1, x2, x3, x4) ∧ pX5_most N (iI n) (iI m) (iI s) (iI t) (iF F) (iF T) (iF W) (iF V) (iF P) mL mM mO mR mD mB = some (r, 0, y1, y2, y3, y4, y5, y6) := by
  obtain ⟨CO, rfl⟩ := ifx cO
  obtain ⟨CL, rfl⟩ := ifx cL
  obtain ⟨CH, rfl⟩ := ifx cH
  obtain ⟨CB, rfl⟩ := ifx cB
  obtain ⟨ML, rfl⟩ := ifx mL
  obtain ⟨MM, rfl⟩ := ifx mM
  obtain ⟨MO, rfl⟩ := ifx mO
  obtain ⟨MR, rfl⟩ := ifx mR
  obtain ⟨MD, rfl⟩ := ifx mD
  obtain ⟨MB, rfl⟩ := ifx mB
  have hw := sr_nw h
  obtain ⟨k, f, L', H', cb, e1, k1, k2, k3⟩ := x4_most (O := CO) (L := CL) (H := CH) (cb0 := CB) hw hs ht hst hN
  obtain ⟨k', L2, H2, O2, R2, d2, cb2, e2, q1, q2, q3⟩ := s5_most (L := ML) (H := MM) (O := MO) (R := MR) (d := MD) (cb := MB) hN hw (sr_pr h (N := N) (by omega)) (sr_cp h (N := N) (by omega)) hs ht hst
  have e : k = k' := most_one hw hs ht hst k1 q1 k2 k3 q2 q3
  rw [← e] at e2
  exact ⟨iI k, iF f, iF L', iF H', iF cb, iF L2, iF H2, iF O2, iF R2, iF d2, iF cb2, e1, e2⟩
theorem op_cost (h : SRel n m F T P C U W V) {s t : Nat} (hs : s < n) (ht : t < n) (hst : s ≠ t) {A : Nat} (hA : A ≤ 200) {N : Nat} (hN : 20000 ≤ N) (cO cL cH cD cB mL mM mO mR mD mB : Nat → Int32) :
    ∃ (r : Int32) (x1 x2 x3 x4 x5 y1 y2 y3 y4 y5 y6 : Nat → Int32), pX4_cost N (iI s) (iI t) (iI A) (iI n) (iI m) (iF F) (iF T) (iF C) (iF U) cO cL cH cD cB = some (r, x1, x2, x3, x4, x5) ∧ pX5_cost N (iI n) (iI m) (iI s) (iI t) (iI A) (iF F) (iF T) (iF W) (iF V) (iF P) mL mM mO mR mD mB = some (r, 0, y1, y2, y3, y4, y5, y6) := by
  obtain ⟨CO, rfl⟩ := ifx cO
  obtain ⟨CL, rfl⟩ := ifx cL
  obtain ⟨CH, rfl⟩ := ifx cH
  obtain ⟨CD, rfl⟩ := ifx cD
  obtain ⟨CB, rfl⟩ := ifx cB
  obtain ⟨ML, rfl⟩ := ifx mL
  obtain ⟨MM, rfl⟩ := ifx mM
  obtain ⟨MO, rfl⟩ := ifx mO
  obtain ⟨MR, rfl⟩ := ifx mR
  obtain ⟨MD, rfl⟩ := ifx mD
  obtain ⟨MB, rfl⟩ := ifx mB
  have hw := sr_nw h
  obtain ⟨c, f, L', H', d, cb, e1, k1⟩ := x4_cost (O := CO) (L := CL) (H := CH) (d0 := CD) (cb0 := CB) hw hs ht hst hA hN
  obtain ⟨c', L2, H2, O2, R2, d2, cb2, e2, -, q1⟩ := s5_costOpen (L := ML) (H := MM) (O := MO) (R := MR) (d := MD) (cb := MB) hN hw (sr_pr h (N := N) (by omega)) (sr_cp h (N := N) (by omega)) hs ht hst (A := (A : Int)) (by omega)
  have e : c = c' := cost_one k1 q1
  rw [← e] at e2
  refine ⟨iI c, iF f, iF L', iF H', iF d, iF cb, iF L2, iF H2, iF O2, iF R2, iF d2, iF cb2, e1, ?_⟩
  unfold pX5_cost
  rw [e2, bs7]
theorem op_circles (h : SRel n m F T P C U W V) {s t : Nat} (hs : s < n) (ht : t < n) (hst : s ≠ t) {A : Nat} (hA : A ≤ 200) {N : Nat} (hN : 20000 ≤ N) (uT uD uB mL mM mO mR mD mB : Nat → Int32) :
    ∃ (r : Int32) (x1 x2 x3 y1 y2 y3 y4 y5 y6 : Nat → Int32), pX4_costByCircles N (iI s) (iI t) (iI A) (iI n) (iI m) (iF F) (iF T) (iF C) (iF U) uT uD uB = some (r, x1, x2, x3) ∧ pX5_costByCircles N (iI n) (iI m) (iI s) (iI t) (iI A) (iF F) (iF T) (iF W) (iF V) (iF P) mL mM mO mR mD mB = some (r, 0, y1, y2, y3, y4, y5, y6) := by
  obtain ⟨UT, rfl⟩ := ifx uT
  obtain ⟨UD, rfl⟩ := ifx uD
  obtain ⟨UB, rfl⟩ := ifx uB
  obtain ⟨ML, rfl⟩ := ifx mL
  obtain ⟨MM, rfl⟩ := ifx mM
  obtain ⟨MO, rfl⟩ := ifx mO
  obtain ⟨MR, rfl⟩ := ifx mR
  obtain ⟨MD, rfl⟩ := ifx mD
  obtain ⟨MB, rfl⟩ := ifx mB
  have hw := sr_nw h
  obtain ⟨c, τ, d, cb, e1, k1⟩ := x4_circles (T0 := UT) (D0 := UD) (B0 := UB) hw hs ht hst hA hN
  obtain ⟨c', L2, H2, O2, R2, d2, cb2, e2, -, q1⟩ := s5_costOpen (L := ML) (H := MM) (O := MO) (R := MR) (d := MD) (cb := MB) hN hw (sr_pr h (N := N) (by omega)) (sr_cp h (N := N) (by omega)) hs ht hst (A := (A : Int)) (by omega)
  have e : c = c' := cost_one k1 q1
  rw [← e] at e2
  refine ⟨iI c, iF τ, iF d, iF cb, iF L2, iF H2, iF O2, iF R2, iF d2, iF cb2, e1, ?_⟩
  unfold pX5_costByCircles
  rw [e2, bs7]
theorem op_more (h : SRel n m F T P C U W V) {s t : Nat} (hs : s < n) (ht : t < n) (hst : s ≠ t) {A : Nat} (hA : A ≤ 200) {N : Nat} (hN : 20000 ≤ N) (cO cL cH cD cB mL mM mO mR mD mB : Nat → Int32) (p0 : Int32) :
    (pX4_more N (iI s) (iI t) (iI A) (iI n) (iI m) (iF F) (iF T) (iF C) (iF U) cO cL cH cD cB p0 = some (.inl 1) ∧ pX5_more N (iI n) (iI m) (iI s) (iI t) (iI A) (iF F) (iF T) (iF W) (iF V) (iF P) mL mM mO mR mD mB p0 = some (0, 1, mL, mM, mO, mR, mD, mB)) ∨
    ∃ (r : Int32) (x1 x2 x3 x4 x5 y1 y2 y3 y4 y5 y6 : Nat → Int32), pX4_more N (iI s) (iI t) (iI A) (iI n) (iI m) (iF F) (iF T) (iF C) (iF U) cO cL cH cD cB p0 = some (.inr (r, x1, x2, x3, x4, x5)) ∧ pX5_more N (iI n) (iI m) (iI s) (iI t) (iI A) (iF F) (iF T) (iF W) (iF V) (iF P) mL mM mO mR mD mB p0 = some (r, 0, y1, y2, y3, y4, y5, y6) := by
  obtain ⟨x0, rfl, l0, u0⟩ := i32 p0
  have hn := h.2.1
  have hm := h.2.2.1
  by_cases c0 : 0 ≤ x0 ∧ x0 < n
  · right
    obtain ⟨a, rfl⟩ : ∃ a : Nat, x0 = a := ⟨x0.toNat, by omega⟩
    obtain ⟨CO, rfl⟩ := ifx cO
    obtain ⟨CL, rfl⟩ := ifx cL
    obtain ⟨CH, rfl⟩ := ifx cH
    obtain ⟨CD, rfl⟩ := ifx cD
    obtain ⟨CB, rfl⟩ := ifx cB
    obtain ⟨ML, rfl⟩ := ifx mL
    obtain ⟨MM, rfl⟩ := ifx mM
    obtain ⟨MO, rfl⟩ := ifx mO
    obtain ⟨MR, rfl⟩ := ifx mR
    obtain ⟨MD, rfl⟩ := ifx mD
    obtain ⟨MB, rfl⟩ := ifx mB
    have hw := sr_nw h
    have ha : a < n := by omega
    obtain ⟨c, f, L', H', d, cb, e1, -, -, k1⟩ := x4_more (O := CO) (L := CL) (H := CH) (d0 := CD) (cb0 := CB) hw hs ht hst hA ha hN
    obtain ⟨c', L2, H2, O2, R2, d2, cb2, e2, -, -, q1⟩ := s5_more (L := ML) (H := MM) (O := MO) (R := MR) (d := MD) (cb := MB) hN hw (sr_pr h (N := N) (by omega)) (sr_cp h (N := N) (by omega)) hs ht hst (A := (A : Int)) (by omega) ha
    have e : c = c' := moreSays_one k1 q1
    rw [← e] at e2
    exact ⟨iI c, iF f, iF L', iF H', iF d, iF cb, iF L2, iF H2, iF O2, iF R2, iF d2, iF cb2, e1, e2⟩
  · left
    unfold pX4_more pX5_more
    rw [q_refNode hn l0 u0, s5_isNode hn l0 u0, if_neg c0, bx_l, bind_some, decide_eq_false c0, b0_f, gw1, bs2, b0_f]
    exact ⟨rfl, rfl⟩
theorem op_flow (h : SRel n m F T P C U W V) {s t : Nat} (hs : s < n) (ht : t < n) (hst : s ≠ t) {A : Nat} (hA : A ≤ 200) {N : Nat} (hN : 20000 ≤ N) (cO cL cH cD cB mL mM mO mR mD mB : Nat → Int32) (p0 : Int32) :
    (pX4_flow N (iI s) (iI t) (iI A) (iI n) (iI m) (iF F) (iF T) (iF C) (iF U) cO cL cH cD cB p0 = some (.inl 1) ∧ pX5_flow N (iI n) (iI m) (iI s) (iI t) (iI A) (iF F) (iF T) (iF W) (iF V) (iF P) mL mM mO mR mD mB p0 = some (0, 1, mL, mM, mO, mR, mD, mB)) ∨
    ∃ (r : Int32) (x1 x2 x3 x4 x5 y1 y2 y3 y4 y5 y6 : Nat → Int32), pX4_flow N (iI s) (iI t) (iI A) (iI n) (iI m) (iF F) (iF T) (iF C) (iF U) cO cL cH cD cB p0 = some (.inr (r, x1, x2, x3, x4, x5)) ∧ pX5_flow N (iI n) (iI m) (iI s) (iI t) (iI A) (iF F) (iF T) (iF W) (iF V) (iF P) mL mM mO mR mD mB p0 = some (r, 0, y1, y2, y3, y4, y5, y6) := by
  obtain ⟨x0, rfl, l0, u0⟩ := i32 p0
  have hn := h.2.1
  have hm := h.2.2.1
  by_cases c0 : 0 ≤ x0 ∧ x0 < m
  · right
    obtain ⟨a, rfl⟩ : ∃ a : Nat, x0 = a := ⟨x0.toNat, by omega⟩
    obtain ⟨CO, rfl⟩ := ifx cO
    obtain ⟨CL, rfl⟩ := ifx cL
    obtain ⟨CH, rfl⟩ := ifx cH
    obtain ⟨CD, rfl⟩ := ifx cD
    obtain ⟨CB, rfl⟩ := ifx cB
    obtain ⟨ML, rfl⟩ := ifx mL
    obtain ⟨MM, rfl⟩ := ifx mM
    obtain ⟨MO, rfl⟩ := ifx mO
    obtain ⟨MR, rfl⟩ := ifx mR
    obtain ⟨MD, rfl⟩ := ifx mD
    obtain ⟨MB, rfl⟩ := ifx mB
    have hw := sr_nw h
    have ha : a < m := by omega
    obtain ⟨c, f, L', H', d, cb, e1, -, -, k1⟩ := x4_flow (O := CO) (L := CL) (H := CH) (d0 := CD) (cb0 := CB) hw hs ht hst hA ha hN
    obtain ⟨c', L2, H2, O2, R2, d2, cb2, e2, -, -, q1⟩ := s5_flow (L := ML) (H := MM) (O := MO) (R := MR) (d := MD) (cb := MB) hN hw (sr_pr h (N := N) (by omega)) (sr_cp h (N := N) (by omega)) hs ht hst (A := (A : Int)) (by omega) ha
    have e : c = c' := flowSays_one k1 q1
    rw [← e] at e2
    exact ⟨iI c, iF f, iF L', iF H', iF d, iF cb, iF L2, iF H2, iF O2, iF R2, iF d2, iF cb2, e1, e2⟩
  · left
    unfold pX4_flow pX5_flow
    rw [q_refArc hm l0 u0, s5_isArc hm l0 u0, if_neg c0, bx_l, bind_some, decide_eq_false c0, b0_f, gw1, bs2, b0_f]
    exact ⟨rfl, rfl⟩
theorem op_leastOn (h : SRel n m F T P C U W V) {s t : Nat} (hs : s < n) (ht : t < n) (hst : s ≠ t) {A : Nat} (hA : A ≤ 200) {N : Nat} (hN : 20000 ≤ N) (cO cL cH cD cB mL mM mO mR mD mB : Nat → Int32) (p0 : Int32) :
    (pX4_leastOn N (iI s) (iI t) (iI A) (iI n) (iI m) (iF F) (iF T) (iF C) (iF U) cO cL cH cD cB p0 = some (.inl 1) ∧ pX5_leastOn N (iI n) (iI m) (iI s) (iI t) (iI A) (iF F) (iF T) (iF W) (iF V) (iF P) mL mM mO mR mD mB p0 = some (0, 1, mL, mM, mO, mR, mD, mB)) ∨
    ∃ (r : Int32) (x1 x2 x3 x4 x5 y1 y2 y3 y4 y5 y6 : Nat → Int32), pX4_leastOn N (iI s) (iI t) (iI A) (iI n) (iI m) (iF F) (iF T) (iF C) (iF U) cO cL cH cD cB p0 = some (.inr (r, x1, x2, x3, x4, x5)) ∧ pX5_leastOn N (iI n) (iI m) (iI s) (iI t) (iI A) (iF F) (iF T) (iF W) (iF V) (iF P) mL mM mO mR mD mB p0 = some (r, 0, y1, y2, y3, y4, y5, y6) := by
  obtain ⟨x0, rfl, l0, u0⟩ := i32 p0
  have hn := h.2.1
  have hm := h.2.2.1
  by_cases c0 : 0 ≤ x0 ∧ x0 < m
  · right
    obtain ⟨a, rfl⟩ : ∃ a : Nat, x0 = a := ⟨x0.toNat, by omega⟩
    obtain ⟨CO, rfl⟩ := ifx cO
    obtain ⟨CL, rfl⟩ := ifx cL
    obtain ⟨CH, rfl⟩ := ifx cH
    obtain ⟨CD, rfl⟩ := ifx cD
    obtain ⟨CB, rfl⟩ := ifx cB
    obtain ⟨ML, rfl⟩ := ifx mL
    obtain ⟨MM, rfl⟩ := ifx mM
    obtain ⟨MO, rfl⟩ := ifx mO
    obtain ⟨MR, rfl⟩ := ifx mR
    obtain ⟨MD, rfl⟩ := ifx mD
    obtain ⟨MB, rfl⟩ := ifx mB
    have hw := sr_nw h
    have ha : a < m := by omega
    obtain ⟨c, f, L', H', d, cb, e1, -, -, k1⟩ := x4_leastOn (O := CO) (L := CL) (H := CH) (d0 := CD) (cb0 := CB) hw hs ht hst hA ha hN
    obtain ⟨c', L2, H2, O2, R2, d2, cb2, e2, -, -, q1⟩ := s5_leastOn (L := ML) (H := MM) (O := MO) (R := MR) (d := MD) (cb := MB) hN hw (sr_pr h (N := N) (by omega)) (sr_cp h (N := N) (by omega)) hs ht hst (A := (A : Int)) (by omega) ha
    have e : c = c' := leastSays_one (Or.inl rfl) k1 q1
    rw [← e] at e2
    exact ⟨iI c, iF f, iF L', iF H', iF d, iF cb, iF L2, iF H2, iF O2, iF R2, iF d2, iF cb2, e1, e2⟩
  · left
    unfold pX4_leastOn pX5_leastOn
    rw [q_refArc hm l0 u0, s5_isArc hm l0 u0, if_neg c0, bx_l, bind_some, decide_eq_false c0, b0_f, gw1, bs2, b0_f]
    exact ⟨rfl, rfl⟩
theorem op_mostOn (h : SRel n m F T P C U W V) {s t : Nat} (hs : s < n) (ht : t < n) (hst : s ≠ t) {A : Nat} (hA : A ≤ 200) {N : Nat} (hN : 20000 ≤ N) (cO cL cH cD cB mL mM mO mR mD mB : Nat → Int32) (p0 : Int32) :
    (pX4_mostOn N (iI s) (iI t) (iI A) (iI n) (iI m) (iF F) (iF T) (iF C) (iF U) cO cL cH cD cB p0 = some (.inl 1) ∧ pX5_mostOn N (iI n) (iI m) (iI s) (iI t) (iI A) (iF F) (iF T) (iF W) (iF V) (iF P) mL mM mO mR mD mB p0 = some (0, 1, mL, mM, mO, mR, mD, mB)) ∨
    ∃ (r : Int32) (x1 x2 x3 x4 x5 y1 y2 y3 y4 y5 y6 : Nat → Int32), pX4_mostOn N (iI s) (iI t) (iI A) (iI n) (iI m) (iF F) (iF T) (iF C) (iF U) cO cL cH cD cB p0 = some (.inr (r, x1, x2, x3, x4, x5)) ∧ pX5_mostOn N (iI n) (iI m) (iI s) (iI t) (iI A) (iF F) (iF T) (iF W) (iF V) (iF P) mL mM mO mR mD mB p0 = some (r, 0, y1, y2, y3, y4, y5, y6) := by
  obtain ⟨x0, rfl, l0, u0⟩ := i32 p0
  have hn := h.2.1
  have hm := h.2.2.1
  by_cases c0 : 0 ≤ x0 ∧ x0 < m
  · right
    obtain ⟨a, rfl⟩ : ∃ a : Nat, x0 = a := ⟨x0.toNat, by omega⟩
    obtain ⟨CO, rfl⟩ := ifx cO
    obtain ⟨CL, rfl⟩ := ifx cL
    obtain ⟨CH, rfl⟩ := ifx cH
    obtain ⟨CD, rfl⟩ := ifx cD
    obtain ⟨CB, rfl⟩ := ifx cB
    obtain ⟨ML, rfl⟩ := ifx mL
    obtain ⟨MM, rfl⟩ := ifx mM
    obtain ⟨MO, rfl⟩ := ifx mO
    obtain ⟨MR, rfl⟩ := ifx mR
    obtain ⟨MD, rfl⟩ := ifx mD
    obtain ⟨MB, rfl⟩ := ifx mB
    have hw := sr_nw h
    have ha : a < m := by omega
    obtain ⟨c, f, L', H', d, cb, e1, -, -, k1⟩ := x4_mostOn (O := CO) (L := CL) (H := CH) (d0 := CD) (cb0 := CB) hw hs ht hst hA ha hN
    obtain ⟨c', L2, H2, O2, R2, d2, cb2, e2, -, -, q1⟩ := s5_mostOn (L := ML) (H := MM) (O := MO) (R := MR) (d := MD) (cb := MB) hN hw (sr_pr h (N := N) (by omega)) (sr_cp h (N := N) (by omega)) hs ht hst (A := (A : Int)) (by omega) ha
    have e : c = c' := leastSays_one (Or.inr rfl) k1 q1
    rw [← e] at e2
    exact ⟨iI c, iF f, iF L', iF H', iF d, iF cb, iF L2, iF H2, iF O2, iF R2, iF d2, iF cb2, e1, e2⟩
  · left
    unfold pX4_mostOn pX5_mostOn
    rw [q_refArc hm l0 u0, s5_isArc hm l0 u0, if_neg c0, bx_l, bind_some, decide_eq_false c0, b0_f, gw1, bs2, b0_f]
    exact ⟨rfl, rfl⟩
theorem op_driven (h : SRel n m F T P C U W V) {s t : Nat} (hs : s < n) (ht : t < n) {A : Nat} (hA : A ≤ 200) {N : Nat} (hN : 20000 ≤ N) (dT dW mD mK : Nat → Int32) :
    ∃ (r fo pa la : Int32) (x1 x2 y1 y2 : Nat → Int32), pX4_driven N (iI s) (iI t) (iI A) (iI n) (iI m) (iF F) (iF T) (iF C) (iF U) dT dW = some (r, fo, pa, la, x1, x2) ∧ pX5_driven N (iI n) (iI m) (iI s) (iI t) (iI A) (iF F) (iF T) (iF W) (iF V) (iF P) mD mK = some (r, 0, fo, pa, la, y1, y2) := by
  obtain ⟨DT, rfl⟩ := ifx dT
  obtain ⟨DW, rfl⟩ := ifx dW
  obtain ⟨MD, rfl⟩ := ifx mD
  obtain ⟨MK, rfl⟩ := ifx mK
  have hw := sr_nw h
  obtain ⟨x, Pa, La, K1, Wx, K2, D, e1, e2, -, -⟩ := dr_all hw (sr_pr h (N := N) (by omega)) (sr_cp h (N := N) (by omega)) hs ht hA hN DT DW MD MK
  unfold pX4_driven pX5_driven
  rw [e1, e2, bs5, bs5]
  by_cases c : iI (A : Int) ≤ iI (x : Int)
  · rw [if_pos c, if_pos c]
    exact ⟨_, _, _, _, _, _, _, _, rfl, rfl⟩
  · rw [if_neg c, if_neg c]
    exact ⟨_, _, _, _, _, _, _, _, rfl, rfl⟩
theorem op_lastPaid (h : SRel n m F T P C U W V) {s t : Nat} (hs : s < n) (ht : t < n) {A : Nat} (hA : A ≤ 200) {N : Nat} (hN : 20000 ≤ N) (dT dW mD mK : Nat → Int32) :
    ∃ (r fo pa la : Int32) (x1 x2 y1 y2 : Nat → Int32), pX4_lastPaid N (iI s) (iI t) (iI A) (iI n) (iI m) (iF F) (iF T) (iF C) (iF U) dT dW = some (r, fo, pa, la, x1, x2) ∧ pX5_lastPaid N (iI n) (iI m) (iI s) (iI t) (iI A) (iF F) (iF T) (iF W) (iF V) (iF P) mD mK = some (r, 0, fo, pa, la, y1, y2) := by
  obtain ⟨DT, rfl⟩ := ifx dT
  obtain ⟨DW, rfl⟩ := ifx dW
  obtain ⟨MD, rfl⟩ := ifx mD
  obtain ⟨MK, rfl⟩ := ifx mK
  have hw := sr_nw h
  obtain ⟨x, Pa, La, K1, Wx, K2, D, e1, e2, -, -⟩ := dr_all hw (sr_pr h (N := N) (by omega)) (sr_cp h (N := N) (by omega)) hs ht hA hN DT DW MD MK
  unfold pX4_lastPaid pX5_lastPaid
  rw [e1, e2, bs5, bs5]
  exact ⟨_, _, _, _, _, _, _, _, rfl, rfl⟩
theorem op_drivenOn (h : SRel n m F T P C U W V) {s t : Nat} (hs : s < n) (ht : t < n) {A : Nat} (hA : A ≤ 200) {N : Nat} (hN : 20000 ≤ N) (mWa mPa mLa : Int32) (dT dW mD mK : Nat → Int32) (p0 : Int32) :
    (pX4_drivenOn N (iI s) (iI t) (iI A) (iI n) (iI m) (iF F) (iF T) (iF C) (iF U) dT dW p0 = some (.inl 1) ∧ pX5_drivenOn N (iI n) (iI m) (iI s) (iI t) (iI A) mWa mPa mLa (iF F) (iF T) (iF W) (iF V) (iF P) mD mK p0 = some (0, 1, mWa, mPa, mLa, mD, mK)) ∨
    ∃ (r fo pa la : Int32) (x1 x2 y1 y2 : Nat → Int32), pX4_drivenOn N (iI s) (iI t) (iI A) (iI n) (iI m) (iF F) (iF T) (iF C) (iF U) dT dW p0 = some (.inr (r, fo, pa, la, x1, x2)) ∧ pX5_drivenOn N (iI n) (iI m) (iI s) (iI t) (iI A) mWa mPa mLa (iF F) (iF T) (iF W) (iF V) (iF P) mD mK p0 = some (r, 0, fo, pa, la, y1, y2) := by
  obtain ⟨x0, rfl, l0, u0⟩ := i32 p0
  have hm := h.2.2.1
  unfold pX4_drivenOn pX5_drivenOn
  rw [q_refArc hm l0 u0, s5_isArc hm l0 u0, bind_some]
  by_cases c0 : 0 ≤ x0 ∧ x0 < m
  · right
    obtain ⟨a, rfl⟩ : ∃ a : Nat, x0 = a := ⟨x0.toNat, by omega⟩
    obtain ⟨DT, rfl⟩ := ifx dT
    obtain ⟨DW, rfl⟩ := ifx dW
    obtain ⟨MD, rfl⟩ := ifx mD
    obtain ⟨MK, rfl⟩ := ifx mK
    have hw := sr_nw h
    have ha : a < m := by omega
    obtain ⟨x, Pa, La, K1, Wx, K2, D, e1, e2, -, hk⟩ := dr_all hw (sr_pr h (N := N) (by omega)) (sr_cp h (N := N) (by omega)) hs ht hA hN DT DW MD MK
    rw [if_pos c0, bx_r, decide_eq_true c0, b0_t, gw0, bs2, b0_t, e1, e2, bs5, bs5, rd_n (by omega) (by omega), bind_some, rgt_s, rd_n (by omega) (by omega), bind_some, hk a ha]
    exact ⟨_, _, _, _, _, _, _, _, rfl, rfl⟩
  · left
    rw [if_neg c0, bx_l, decide_eq_false c0, b0_f, gw1, bs2, b0_f]
    exact ⟨rfl, rfl⟩
end OPS2
