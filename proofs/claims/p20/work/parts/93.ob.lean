/-! rows of my own: an object of the class as one thing -/
abbrev wo (cyI cyZ : ClassId) (a : Nat → Nat) (x : Nat → Int32) (f : Nat → Nat → Int32) : va_W := wX4 cyI cyZ (a 0) (a 1) (a 2) (a 3) (a 4) (a 5) (a 6) (a 7) (a 8) (a 9) (a 10) (a 11) (a 12) (a 13) (a 14) (a 15) (a 16) (a 17) (a 18) (a 19) (x 0) (x 1) (x 2) (x 3) (x 4) (x 5) (x 6) (x 7) (f 0) (f 1) (f 2) (f 3) (f 4) (f 5) (f 6) (f 7) (f 8) (f 9) (f 10) (f 11) (f 12) (f 13) (f 14)
abbrev tyI (cyI cyZ : ClassId) : List (ClassId × FieldType) := [(cyI, .int), (cyZ, .boolean)]
def tf (l : List (Nat → Int32)) (i : Nat) : Nat → Int32 := l.getD i (fun _ => 0)
def tx (l : List Int32) (i : Nat) : Int32 := l.getD i 0
/-- the state of an object: two nodes, the demand of a new object, m arcs, and what its network holds -/
def Net (m : Nat) (F T P C U : Nat → Int) (x : Nat → Int32) (f : Nat → Nat → Int32) : Prop := (∃ W V : Nat → Int, SRel 2 m F T P C U W V) ∧ x 0 = iI ((0 : Nat) : Int) ∧ x 1 = iI ((1 : Nat) : Int) ∧ x 2 = iI ((0 : Nat) : Int) ∧ x 3 = iI ((2 : Nat) : Int) ∧ x 4 = iI (m : Int) ∧ f 0 = iF F ∧ f 1 = iF T ∧ f 2 = iF P ∧ f 3 = iF C ∧ f 4 = iF U
def NN (m : Nat) (x : Nat → Int32) (f : Nat → Nat → Int32) : Prop := ∃ F T P C U : Nat → Int, Net m F T P C U x f
def OM (l : Launch) (D : va_G) (cyI cyZ : ClassId) (a : Nat → Nat) (y : MethodName) (wsY : List Cond) (rm : Room) (As : List Value) (N0 Nt : (Nat → Int32) → (Nat → Nat → Int32) → Prop) (Rp : Int32 → Prop) : Prop := ∀ x f, N0 x f → ∃ x1 f1 r1, Nt x1 f1 ∧ Rp r1 ∧ ∀ sz, Met l y wsY rm (va_Pc (.ref (a 0) :: As) (zPre D (wo cyI cyZ a x f) (tyI cyI cyZ) sz)) (zQi D (wo cyI cyZ a x1 f1) (tyI cyI cyZ) r1 (va_A (wo cyI cyZ a x f) sz)) 0 0 (va_A (wo cyI cyZ a x f) sz)
theorem refNode2 {i : Nat} (hi : i < 2) : pX4_refuseOtherThanNode (iI ((2 : Nat) : Int)) (iI (i : Int)) = some (.inr ()) := by
  rw [q_refNode (n := 2) (by decide) (by omega) (by omega), if_pos ⟨by omega, by omega⟩]
section OBJ
variable {l : Launch} {dC : Nat → ClassId} {dI : Nat → Nat → Nat} {cyI cyZ : ClassId} {a : Nat → Nat} {m : Nat} {F T P C U : Nat → Int}
theorem om_nodes : OM l (dC, dI) cyI cyZ a yX4_nodes wsX4_nodes { frames := 0, cells := 0, slots := 0, locals := 0 } [] (Net m F T P C U) (Net m F T P C U) (fun r => r = iI ((2 : Nat) : Int)) := by
  rintro x f ⟨⟨W, V, h⟩, e0, e1, e2, e3, e4, f0, f1, f2, f3, f4⟩
  exact ⟨x, f, x 3, ⟨⟨W, V, h⟩, e0, e1, e2, e3, e4, f0, f1, f2, f3, f4⟩, e3, fun sz => c_X4_nodes l dC dI cyI cyZ (a 0) (a 1) (a 2) (a 3) (a 4) (a 5) (a 6) (a 7) (a 8) (a 9) (a 10) (a 11) (a 12) (a 13) (a 14) (a 15) (a 16) (a 17) (a 18) (a 19) sz (x 0) (x 1) (x 2) (x 3) (x 4) (x 5) (x 6) (x 7) (f 0) (f 1) (f 2) (f 3) (f 4) (f 5) (f 6) (f 7) (f 8) (f 9) (f 10) (f 11) (f 12) (f 13) (f 14) (x 3) rfl⟩
theorem om_arcs : OM l (dC, dI) cyI cyZ a yX4_arcs wsX4_arcs { frames := 0, cells := 0, slots := 0, locals := 0 } [] (Net m F T P C U) (Net m F T P C U) (fun r => r = iI (m : Int)) := by
  rintro x f ⟨⟨W, V, h⟩, e0, e1, e2, e3, e4, f0, f1, f2, f3, f4⟩
  exact ⟨x, f, x 4, ⟨⟨W, V, h⟩, e0, e1, e2, e3, e4, f0, f1, f2, f3, f4⟩, e4, fun sz => c_X4_arcs l dC dI cyI cyZ (a 0) (a 1) (a 2) (a 3) (a 4) (a 5) (a 6) (a 7) (a 8) (a 9) (a 10) (a 11) (a 12) (a 13) (a 14) (a 15) (a 16) (a 17) (a 18) (a 19) sz (x 0) (x 1) (x 2) (x 3) (x 4) (x 5) (x 6) (x 7) (f 0) (f 1) (f 2) (f 3) (f 4) (f 5) (f 6) (f 7) (f 8) (f 9) (f 10) (f 11) (f 12) (f 13) (f 14) (x 4) rfl⟩
theorem om_most : OM l (dC, dI) cyI cyZ a yX4_most wsX4_most { frames := 6, cells := 0, slots := 0, locals := 143 } [] (Net m F T P C U) (Net m F T P C U) (fun _ => True) := by
  rintro x f ⟨⟨W, V, h⟩, e0, e1, e2, e3, e4, f0, f1, f2, f3, f4⟩
  obtain ⟨r, x1, x2, x3, x4, _, _, _, _, _, _, hc, -⟩ := op_most h (s := 0) (t := 1) (by decide) (by decide) (by decide) (N := 20000) (Nat.le_refl _) (f 5) (f 6) (f 7) (f 9) (f 5) (f 5) (f 5) (f 5) (f 5) (f 5)
  have hc1 : pX4_most 20000 (x 0) (x 1) (x 3) (x 4) (f 0) (f 1) (f 3) (f 5) (f 6) (f 7) (f 9) = some (r, x1, x2, x3, x4) := by
    rw [e0, e1, e3, e4, f0, f1, f3]
    exact hc
  exact ⟨x, (tf [f 0, f 1, f 2, f 3, f 4, x1, x2, x3, f 8, x4, f 10, f 11, f 12, f 13, f 14]), r, ⟨⟨W, V, h⟩, e0, e1, e2, e3, e4, f0, f1, f2, f3, f4⟩, trivial, fun sz => c_X4_most l dC dI cyI cyZ (a 0) (a 1) (a 2) (a 3) (a 4) (a 5) (a 6) (a 7) (a 8) (a 9) (a 10) (a 11) (a 12) (a 13) (a 14) (a 15) (a 16) (a 17) (a 18) (a 19) sz (x 0) (x 1) (x 2) (x 3) (x 4) (x 5) (x 6) (x 7) (f 0) (f 1) (f 2) (f 3) (f 4) (f 5) (f 6) (f 7) (f 8) (f 9) (f 10) (f 11) (f 12) (f 13) (f 14) 20000 (r, x1, x2, x3, x4) hc1⟩
theorem om_cost : OM l (dC, dI) cyI cyZ a yX4_cost wsX4_cost { frames := 6, cells := 0, slots := 0, locals := 136 } [] (Net m F T P C U) (Net m F T P C U) (fun _ => True) := by
  rintro x f ⟨⟨W, V, h⟩, e0, e1, e2, e3, e4, f0, f1, f2, f3, f4⟩
  obtain ⟨r, x1, x2, x3, x4, x5, _, _, _, _, _, _, hc, -⟩ := op_cost h (s := 0) (t := 1) (by decide) (by decide) (by decide) (A := 0) (by decide) (N := 20000) (Nat.le_refl _) (f 5) (f 6) (f 7) (f 8) (f 9) (f 5) (f 5) (f 5) (f 5) (f 5) (f 5)
  have hc1 : pX4_cost 20000 (x 0) (x 1) (x 2) (x 3) (x 4) (f 0) (f 1) (f 3) (f 4) (f 5) (f 6) (f 7) (f 8) (f 9) = some (r, x1, x2, x3, x4, x5) := by
    rw [e0, e1, e2, e3, e4, f0, f1, f3, f4]
    exact hc
  exact ⟨x, (tf [f 0, f 1, f 2, f 3, f 4, x1, x2, x3, x4, x5, f 10, f 11, f 12, f 13, f 14]), r, ⟨⟨W, V, h⟩, e0, e1, e2, e3, e4, f0, f1, f2, f3, f4⟩, trivial, fun sz => c_X4_cost l dC dI cyI cyZ (a 0) (a 1) (a 2) (a 3) (a 4) (a 5) (a 6) (a 7) (a 8) (a 9) (a 10) (a 11) (a 12) (a 13) (a 14) (a 15) (a 16) (a 17) (a 18) (a 19) sz (x 0) (x 1) (x 2) (x 3) (x 4) (x 5) (x 6) (x 7) (f 0) (f 1) (f 2) (f 3) (f 4) (f 5) (f 6) (f 7) (f 8) (f 9) (f 10) (f 11) (f 12) (f 13) (f 14) 20000 (r, x1, x2, x3, x4, x5) hc1⟩
theorem om_costByCircles : OM l (dC, dI) cyI cyZ a yX4_costByCircles wsX4_costByCircles { frames := 5, cells := 0, slots := 0, locals := 120 } [] (Net m F T P C U) (Net m F T P C U) (fun _ => True) := by
  rintro x f ⟨⟨W, V, h⟩, e0, e1, e2, e3, e4, f0, f1, f2, f3, f4⟩
  obtain ⟨r, x1, x2, x3, _, _, _, _, _, _, hc, -⟩ := op_circles h (s := 0) (t := 1) (by decide) (by decide) (by decide) (A := 0) (by decide) (N := 20000) (Nat.le_refl _) (f 10) (f 11) (f 12) (f 5) (f 5) (f 5) (f 5) (f 5) (f 5)
  have hc1 : pX4_costByCircles 20000 (x 0) (x 1) (x 2) (x 3) (x 4) (f 0) (f 1) (f 3) (f 4) (f 10) (f 11) (f 12) = some (r, x1, x2, x3) := by
    rw [e0, e1, e2, e3, e4, f0, f1, f3, f4]
    exact hc
  exact ⟨x, (tf [f 0, f 1, f 2, f 3, f 4, f 5, f 6, f 7, f 8, f 9, x1, x2, x3, f 13, f 14]), r, ⟨⟨W, V, h⟩, e0, e1, e2, e3, e4, f0, f1, f2, f3, f4⟩, trivial, fun sz => c_X4_costByCircles l dC dI cyI cyZ (a 0) (a 1) (a 2) (a 3) (a 4) (a 5) (a 6) (a 7) (a 8) (a 9) (a 10) (a 11) (a 12) (a 13) (a 14) (a 15) (a 16) (a 17) (a 18) (a 19) sz (x 0) (x 1) (x 2) (x 3) (x 4) (x 5) (x 6) (x 7) (f 0) (f 1) (f 2) (f 3) (f 4) (f 5) (f 6) (f 7) (f 8) (f 9) (f 10) (f 11) (f 12) (f 13) (f 14) 20000 (r, x1, x2, x3) hc1⟩
theorem om_driven : OM l (dC, dI) cyI cyZ a yX4_driven wsX4_driven { frames := 6, cells := 0, slots := 0, locals := 136 } [] (Net m F T P C U) (Net m F T P C U) (fun _ => True) := by
  rintro x f ⟨⟨W, V, h⟩, e0, e1, e2, e3, e4, f0, f1, f2, f3, f4⟩
  obtain ⟨r, fo, pa, la, x1, x2, _, _, hc, -⟩ := op_driven h (s := 0) (t := 1) (by decide) (by decide) (A := 0) (by decide) (N := 20000) (Nat.le_refl _) (f 13) (f 14) (f 5) (f 5)
  have hc1 : pX4_driven 20000 (x 0) (x 1) (x 2) (x 3) (x 4) (f 0) (f 1) (f 3) (f 4) (f 13) (f 14) = some (r, fo, pa, la, x1, x2) := by
    rw [e0, e1, e2, e3, e4, f0, f1, f3, f4]
    exact hc
  exact ⟨(tx [x 0, x 1, x 2, x 3, x 4, fo, pa, la]), (tf [f 0, f 1, f 2, f 3, f 4, f 5, f 6, f 7, f 8, f 9, f 10, f 11, f 12, x1, x2]), r, ⟨⟨W, V, h⟩, e0, e1, e2, e3, e4, f0, f1, f2, f3, f4⟩, trivial, fun sz => c_X4_driven l dC dI cyI cyZ (a 0) (a 1) (a 2) (a 3) (a 4) (a 5) (a 6) (a 7) (a 8) (a 9) (a 10) (a 11) (a 12) (a 13) (a 14) (a 15) (a 16) (a 17) (a 18) (a 19) sz (x 0) (x 1) (x 2) (x 3) (x 4) (x 5) (x 6) (x 7) (f 0) (f 1) (f 2) (f 3) (f 4) (f 5) (f 6) (f 7) (f 8) (f 9) (f 10) (f 11) (f 12) (f 13) (f 14) 20000 (r, fo, pa, la, x1, x2) hc1⟩
theorem om_lastPaid : OM l (dC, dI) cyI cyZ a yX4_lastPaid wsX4_lastPaid { frames := 6, cells := 0, slots := 0, locals := 136 } [] (Net m F T P C U) (Net m F T P C U) (fun _ => True) := by
  rintro x f ⟨⟨W, V, h⟩, e0, e1, e2, e3, e4, f0, f1, f2, f3, f4⟩
  obtain ⟨r, fo, pa, la, x1, x2, _, _, hc, -⟩ := op_lastPaid h (s := 0) (t := 1) (by decide) (by decide) (A := 0) (by decide) (N := 20000) (Nat.le_refl _) (f 13) (f 14) (f 5) (f 5)
  have hc1 : pX4_lastPaid 20000 (x 0) (x 1) (x 2) (x 3) (x 4) (f 0) (f 1) (f 3) (f 4) (f 13) (f 14) = some (r, fo, pa, la, x1, x2) := by
    rw [e0, e1, e2, e3, e4, f0, f1, f3, f4]
    exact hc
  exact ⟨(tx [x 0, x 1, x 2, x 3, x 4, fo, pa, la]), (tf [f 0, f 1, f 2, f 3, f 4, f 5, f 6, f 7, f 8, f 9, f 10, f 11, f 12, x1, x2]), r, ⟨⟨W, V, h⟩, e0, e1, e2, e3, e4, f0, f1, f2, f3, f4⟩, trivial, fun sz => c_X4_lastPaid l dC dI cyI cyZ (a 0) (a 1) (a 2) (a 3) (a 4) (a 5) (a 6) (a 7) (a 8) (a 9) (a 10) (a 11) (a 12) (a 13) (a 14) (a 15) (a 16) (a 17) (a 18) (a 19) sz (x 0) (x 1) (x 2) (x 3) (x 4) (x 5) (x 6) (x 7) (f 0) (f 1) (f 2) (f 3) (f 4) (f 5) (f 6) (f 7) (f 8) (f 9) (f 10) (f 11) (f 12) (f 13) (f 14) 20000 (r, fo, pa, la, x1, x2) hc1⟩
theorem om_flow {i : Nat} (hi : i < m) : OM l (dC, dI) cyI cyZ a yX4_flow wsX4_flow { frames := 6, cells := 0, slots := 0, locals := 143 } [.int (iI (i : Int))] (Net m F T P C U) (Net m F T P C U) (fun _ => True) := by
  rintro x f ⟨⟨W, V, h⟩, e0, e1, e2, e3, e4, f0, f1, f2, f3, f4⟩
  rcases op_flow h (s := 0) (t := 1) (by decide) (by decide) (by decide) (A := 0) (by decide) (N := 20000) (Nat.le_refl _) (f 5) (f 6) (f 7) (f 8) (f 9) (f 5) (f 5) (f 5) (f 5) (f 5) (f 5) (iI (i : Int)) with ⟨hc, -⟩ | ⟨r, x1, x2, x3, x4, x5, _, _, _, _, _, _, hc, -⟩
  · exfalso
    unfold pX4_flow at hc
    rw [refArc h.2.2.1 hi, bx_r] at hc
    exact rgtl hc
  · have hc1 : pX4_flow 20000 (x 0) (x 1) (x 2) (x 3) (x 4) (f 0) (f 1) (f 3) (f 4) (f 5) (f 6) (f 7) (f 8) (f 9) (iI (i : Int)) = some (.inr (r, x1, x2, x3, x4, x5)) := by
      rw [e0, e1, e2, e3, e4, f0, f1, f3, f4]
      exact hc
    exact ⟨x, (tf [f 0, f 1, f 2, f 3, f 4, x1, x2, x3, x4, x5, f 10, f 11, f 12, f 13, f 14]), r, ⟨⟨W, V, h⟩, e0, e1, e2, e3, e4, f0, f1, f2, f3, f4⟩, trivial, fun sz => c_X4_flow l dC dI cyI cyZ (a 0) (a 1) (a 2) (a 3) (a 4) (a 5) (a 6) (a 7) (a 8) (a 9) (a 10) (a 11) (a 12) (a 13) (a 14) (a 15) (a 16) (a 17) (a 18) (a 19) sz (x 0) (x 1) (x 2) (x 3) (x 4) (x 5) (x 6) (x 7) (f 0) (f 1) (f 2) (f 3) (f 4) (f 5) (f 6) (f 7) (f 8) (f 9) (f 10) (f 11) (f 12) (f 13) (f 14) (iI (i : Int)) 20000 (r, x1, x2, x3, x4, x5) hc1⟩
theorem om_leastOn {i : Nat} (hi : i < m) : OM l (dC, dI) cyI cyZ a yX4_leastOn wsX4_leastOn { frames := 6, cells := 0, slots := 0, locals := 143 } [.int (iI (i : Int))] (Net m F T P C U) (Net m F T P C U) (fun _ => True) := by
  rintro x f ⟨⟨W, V, h⟩, e0, e1, e2, e3, e4, f0, f1, f2, f3, f4⟩
  rcases op_leastOn h (s := 0) (t := 1) (by decide) (by decide) (by decide) (A := 0) (by decide) (N := 20000) (Nat.le_refl _) (f 5) (f 6) (f 7) (f 8) (f 9) (f 5) (f 5) (f 5) (f 5) (f 5) (f 5) (iI (i : Int)) with ⟨hc, -⟩ | ⟨r, x1, x2, x3, x4, x5, _, _, _, _, _, _, hc, -⟩
  · exfalso
    unfold pX4_leastOn at hc
    rw [refArc h.2.2.1 hi, bx_r] at hc
    exact rgtl hc
  · have hc1 : pX4_leastOn 20000 (x 0) (x 1) (x 2) (x 3) (x 4) (f 0) (f 1) (f 3) (f 4) (f 5) (f 6) (f 7) (f 8) (f 9) (iI (i : Int)) = some (.inr (r, x1, x2, x3, x4, x5)) := by
      rw [e0, e1, e2, e3, e4, f0, f1, f3, f4]
      exact hc
    exact ⟨x, (tf [f 0, f 1, f 2, f 3, f 4, x1, x2, x3, x4, x5, f 10, f 11, f 12, f 13, f 14]), r, ⟨⟨W, V, h⟩, e0, e1, e2, e3, e4, f0, f1, f2, f3, f4⟩, trivial, fun sz => c_X4_leastOn l dC dI cyI cyZ (a 0) (a 1) (a 2) (a 3) (a 4) (a 5) (a 6) (a 7) (a 8) (a 9) (a 10) (a 11) (a 12) (a 13) (a 14) (a 15) (a 16) (a 17) (a 18) (a 19) sz (x 0) (x 1) (x 2) (x 3) (x 4) (x 5) (x 6) (x 7) (f 0) (f 1) (f 2) (f 3) (f 4) (f 5) (f 6) (f 7) (f 8) (f 9) (f 10) (f 11) (f 12) (f 13) (f 14) (iI (i : Int)) 20000 (r, x1, x2, x3, x4, x5) hc1⟩
theorem om_mostOn {i : Nat} (hi : i < m) : OM l (dC, dI) cyI cyZ a yX4_mostOn wsX4_mostOn { frames := 6, cells := 0, slots := 0, locals := 143 } [.int (iI (i : Int))] (Net m F T P C U) (Net m F T P C U) (fun _ => True) := by
  rintro x f ⟨⟨W, V, h⟩, e0, e1, e2, e3, e4, f0, f1, f2, f3, f4⟩
  rcases op_mostOn h (s := 0) (t := 1) (by decide) (by decide) (by decide) (A := 0) (by decide) (N := 20000) (Nat.le_refl _) (f 5) (f 6) (f 7) (f 8) (f 9) (f 5) (f 5) (f 5) (f 5) (f 5) (f 5) (iI (i : Int)) with ⟨hc, -⟩ | ⟨r, x1, x2, x3, x4, x5, _, _, _, _, _, _, hc, -⟩
  · exfalso
    unfold pX4_mostOn at hc
    rw [refArc h.2.2.1 hi, bx_r] at hc
    exact rgtl hc
  · have hc1 : pX4_mostOn 20000 (x 0) (x 1) (x 2) (x 3) (x 4) (f 0) (f 1) (f 3) (f 4) (f 5) (f 6) (f 7) (f 8) (f 9) (iI (i : Int)) = some (.inr (r, x1, x2, x3, x4, x5)) := by
      rw [e0, e1, e2, e3, e4, f0, f1, f3, f4]
      exact hc
    exact ⟨x, (tf [f 0, f 1, f 2, f 3, f 4, x1, x2, x3, x4, x5, f 10, f 11, f 12, f 13, f 14]), r, ⟨⟨W, V, h⟩, e0, e1, e2, e3, e4, f0, f1, f2, f3, f4⟩, trivial, fun sz => c_X4_mostOn l dC dI cyI cyZ (a 0) (a 1) (a 2) (a 3) (a 4) (a 5) (a 6) (a 7) (a 8) (a 9) (a 10) (a 11) (a 12) (a 13) (a 14) (a 15) (a 16) (a 17) (a 18) (a 19) sz (x 0) (x 1) (x 2) (x 3) (x 4) (x 5) (x 6) (x 7) (f 0) (f 1) (f 2) (f 3) (f 4) (f 5) (f 6) (f 7) (f 8) (f 9) (f 10) (f 11) (f 12) (f 13) (f 14) (iI (i : Int)) 20000 (r, x1, x2, x3, x4, x5) hc1⟩
theorem om_more {i : Nat} (hi : i < 2) : OM l (dC, dI) cyI cyZ a yX4_more wsX4_more { frames := 6, cells := 0, slots := 0, locals := 136 } [.int (iI (i : Int))] (Net m F T P C U) (Net m F T P C U) (fun _ => True) := by
  rintro x f ⟨⟨W, V, h⟩, e0, e1, e2, e3, e4, f0, f1, f2, f3, f4⟩
  rcases op_more h (s := 0) (t := 1) (by decide) (by decide) (by decide) (A := 0) (by decide) (N := 20000) (Nat.le_refl _) (f 5) (f 6) (f 7) (f 8) (f 9) (f 5) (f 5) (f 5) (f 5) (f 5) (f 5) (iI (i : Int)) with ⟨hc, -⟩ | ⟨r, x1, x2, x3, x4, x5, _, _, _, _, _, _, hc, -⟩
  · exfalso
    unfold pX4_more at hc
    rw [refNode2 hi, bx_r] at hc
    exact rgtl hc
  · have hc1 : pX4_more 20000 (x 0) (x 1) (x 2) (x 3) (x 4) (f 0) (f 1) (f 3) (f 4) (f 5) (f 6) (f 7) (f 8) (f 9) (iI (i : Int)) = some (.inr (r, x1, x2, x3, x4, x5)) := by
      rw [e0, e1, e2, e3, e4, f0, f1, f3, f4]
      exact hc
    exact ⟨x, (tf [f 0, f 1, f 2, f 3, f 4, x1, x2, x3, x4, x5, f 10, f 11, f 12, f 13, f 14]), r, ⟨⟨W, V, h⟩, e0, e1, e2, e3, e4, f0, f1, f2, f3, f4⟩, trivial, fun sz => c_X4_more l dC dI cyI cyZ (a 0) (a 1) (a 2) (a 3) (a 4) (a 5) (a 6) (a 7) (a 8) (a 9) (a 10) (a 11) (a 12) (a 13) (a 14) (a 15) (a 16) (a 17) (a 18) (a 19) sz (x 0) (x 1) (x 2) (x 3) (x 4) (x 5) (x 6) (x 7) (f 0) (f 1) (f 2) (f 3) (f 4) (f 5) (f 6) (f 7) (f 8) (f 9) (f 10) (f 11) (f 12) (f 13) (f 14) (iI (i : Int)) 20000 (r, x1, x2, x3, x4, x5) hc1⟩
theorem om_drivenOn {i : Nat} (hi : i < m) : OM l (dC, dI) cyI cyZ a yX4_drivenOn wsX4_drivenOn { frames := 6, cells := 0, slots := 0, locals := 136 } [.int (iI (i : Int))] (Net m F T P C U) (Net m F T P C U) (fun _ => True) := by
  rintro x f ⟨⟨W, V, h⟩, e0, e1, e2, e3, e4, f0, f1, f2, f3, f4⟩
  rcases op_drivenOn h (s := 0) (t := 1) (by decide) (by decide) (A := 0) (by decide) (N := 20000) (Nat.le_refl _) (x 5) (x 6) (x 7) (f 13) (f 14) (f 5) (f 5) (iI (i : Int)) with ⟨hc, -⟩ | ⟨r, fo, pa, la, x1, x2, _, _, hc, -⟩
  · exfalso
    unfold pX4_drivenOn at hc
    rw [refArc h.2.2.1 hi, bx_r] at hc
    exact rgtl hc
  · have hc1 : pX4_drivenOn 20000 (x 0) (x 1) (x 2) (x 3) (x 4) (f 0) (f 1) (f 3) (f 4) (f 13) (f 14) (iI (i : Int)) = some (.inr (r, fo, pa, la, x1, x2)) := by
      rw [e0, e1, e2, e3, e4, f0, f1, f3, f4]
      exact hc
    exact ⟨(tx [x 0, x 1, x 2, x 3, x 4, fo, pa, la]), (tf [f 0, f 1, f 2, f 3, f 4, f 5, f 6, f 7, f 8, f 9, f 10, f 11, f 12, x1, x2]), r, ⟨⟨W, V, h⟩, e0, e1, e2, e3, e4, f0, f1, f2, f3, f4⟩, trivial, fun sz => c_X4_drivenOn l dC dI cyI cyZ (a 0) (a 1) (a 2) (a 3) (a 4) (a 5) (a 6) (a 7) (a 8) (a 9) (a 10) (a 11) (a 12) (a 13) (a 14) (a 15) (a 16) (a 17) (a 18) (a 19) sz (x 0) (x 1) (x 2) (x 3) (x 4) (x 5) (x 6) (x 7) (f 0) (f 1) (f 2) (f 3) (f 4) (f 5) (f 6) (f 7) (f 8) (f 9) (f 10) (f 11) (f 12) (f 13) (f 14) (iI (i : Int)) 20000 (r, fo, pa, la, x1, x2) hc1⟩
theorem cap_is {W V : Nat → Int} (h : SRel 2 m F T P C U W V) {i : Nat} (hi : i < m) : pX4_capacity (iI (m : Int)) (iF C) (iI (i : Int)) = some (.inr (iI (C i))) := by
  have hm := h.2.2.1
  unfold pX4_capacity
  rw [refArc hm hi, bx_r, rd_n (by omega) (by omega), bind_some, rgt_s]
theorem price_in {W V : Nat → Int} (h : SRel 2 m F T P C U W V) {i u : Nat} (hi : i < m) (h1 : 1 ≤ u) (h2 : (u : Int) ≤ C i) : ∃ r : Int32, pX4_price (iI (m : Int)) (iF C) (iF U) (iI (i : Int)) (iI (u : Int)) = some (.inr r) := by
  have hm := h.2.2.1
  have hb := c_bd (h.2.2.2.1 i hi)
  unfold pX4_price
  rw [refArc hm hi, bx_r, zl1, lt_n (by omega) (by omega) (by omega), rd_n (by omega) (by omega), bind_some, le_y (by omega) (by omega) (by omega), s_unitPrice (by omega) (by omega) (by omega) (by omega), bind_some, rgt_s]
  exact ⟨_, rfl⟩
theorem price_out {W V : Nat → Int} (h : SRel 2 m F T P C U W V) {i : Nat} {u : Int} (hi : i < m) (hu : u < 1 ∨ C i < u) (h0 : -2147483648 ≤ u) (h9 : u < 2147483648) : pX4_price (iI (m : Int)) (iF C) (iF U) (iI (i : Int)) (iI u) = some (.inl 1) := by
  have hm := h.2.2.1
  have hb := c_bd (h.2.2.2.1 i hi)
  unfold pX4_price
  rw [refArc hm hi, bx_r, zl1]
  by_cases c2 : u < 1
  · rw [lt_y c2 (by omega) (by omega)]
  · rw [lt_n (by omega) (by omega) (by omega), rd_n (by omega) (by omega), bind_some, le_n (by omega) (by omega) (by omega)]
theorem om_capacity {i : Nat} (hi : i < m) : OM l (dC, dI) cyI cyZ a yX4_capacity wsX4_capacity { frames := 1, cells := 0, slots := 0, locals := 21 } [.int (iI (i : Int))] (Net m F T P C U) (Net m F T P C U) (fun r => r = iI (C i)) := by
  rintro x f ⟨⟨W, V, h⟩, e0, e1, e2, e3, e4, f0, f1, f2, f3, f4⟩
  have hc1 : pX4_capacity (x 4) (f 3) (iI (i : Int)) = some (.inr (iI (C i))) := by
    rw [e4, f3]
    exact cap_is h hi
  exact ⟨x, f, iI (C i), ⟨⟨W, V, h⟩, e0, e1, e2, e3, e4, f0, f1, f2, f3, f4⟩, rfl, fun sz => c_X4_capacity l dC dI cyI cyZ (a 0) (a 1) (a 2) (a 3) (a 4) (a 5) (a 6) (a 7) (a 8) (a 9) (a 10) (a 11) (a 12) (a 13) (a 14) (a 15) (a 16) (a 17) (a 18) (a 19) sz (x 0) (x 1) (x 2) (x 3) (x 4) (x 5) (x 6) (x 7) (f 0) (f 1) (f 2) (f 3) (f 4) (f 5) (f 6) (f 7) (f 8) (f 9) (f 10) (f 11) (f 12) (f 13) (f 14) (iI (i : Int)) (iI (C i)) hc1⟩
theorem om_price {i u : Nat} (hi : i < m) (h1 : 1 ≤ u) (h2 : (u : Int) ≤ C i) : OM l (dC, dI) cyI cyZ a yX4_price wsX4_price { frames := 1, cells := 0, slots := 0, locals := 22 } [.int (iI (i : Int)), .int (iI (u : Int))] (Net m F T P C U) (Net m F T P C U) (fun _ => True) := by
  rintro x f ⟨⟨W, V, h⟩, e0, e1, e2, e3, e4, f0, f1, f2, f3, f4⟩
  obtain ⟨r, hc⟩ := price_in h hi h1 h2
  have hc1 : pX4_price (x 4) (f 3) (f 4) (iI (i : Int)) (iI (u : Int)) = some (.inr r) := by
    rw [e4, f3, f4]
    exact hc
  exact ⟨x, f, r, ⟨⟨W, V, h⟩, e0, e1, e2, e3, e4, f0, f1, f2, f3, f4⟩, trivial, fun sz => c_X4_price l dC dI cyI cyZ (a 0) (a 1) (a 2) (a 3) (a 4) (a 5) (a 6) (a 7) (a 8) (a 9) (a 10) (a 11) (a 12) (a 13) (a 14) (a 15) (a 16) (a 17) (a 18) (a 19) sz (x 0) (x 1) (x 2) (x 3) (x 4) (x 5) (x 6) (x 7) (f 0) (f 1) (f 2) (f 3) (f 4) (f 5) (f 6) (f 7) (f 8) (f 9) (f 10) (f 11) (f 12) (f 13) (f 14) (iI (i : Int)) (iI (u : Int)) r hc1⟩
theorem arc_in {W V : Nat → Int} (h : SRel 2 m F T P C U W V) (cm : m < 12) : ∃ F' T' P' C' U' W' V' : Nat → Int, pX4_arc 20000 (iI ((2 : Nat) : Int)) (iI (m : Int)) (iF F) (iF T) (iF P) (iF C) (iF U) 0 1 2 8 = some (.inr (iI (m : Int), iI ((m + 1 : Nat) : Int), iF F', iF T', iF P', iF C', iF U')) ∧ SRel 2 (m + 1) F' T' P' C' U' W' V' := by
  have hm := h.2.2.1
  have hz := h.2.2.2.2 m (Nat.le_refl m) cm
  have hs := sr_arc h cm (x0 := 0) (x1 := 1) (x3 := 8) (w := 2) (by decide) (by decide) (by decide) (by decide) (by decide)
  refine ⟨up F m 0, up T m 1, up P m 1, up C m ((2 : Nat) : Int), filr U (15 * m) 2 8, up W (3 * m) ((2 : Nat) : Int), up V (3 * m) 8, ?_, hs⟩
  rw [show (0 : Int32) = iI (0 : Int) from rfl, show (1 : Int32) = iI (1 : Int) from rfl, show (2 : Int32) = iI ((2 : Nat) : Int) from rfl, show (8 : Int32) = iI (8 : Int) from rfl]
  unfold pX4_arc
  rw [q_refNode (n := 2) (by decide) (x := 0) (by decide) (by decide), if_pos (show (0 : Int) ≤ 0 ∧ (0 : Int) < ((2 : Nat) : Int) by decide), bx_r]
  rw [q_refNode (n := 2) (by decide) (x := 1) (by decide) (by decide), if_pos (show (0 : Int) ≤ 1 ∧ (1 : Int) < ((2 : Nat) : Int) by decide), bx_r]
  rw [if_neg (show ¬ (iI (0 : Int) = iI (1 : Int)) by decide)]
  rw [q_noWidth (x := ((2 : Nat) : Int)) (by decide) (by decide), bind_some, show (decide ¬ ((1 : Int) ≤ ((2 : Nat) : Int) ∧ ((2 : Nat) : Int) ≤ 5)) = false by decide, b0_f]
  rw [if_neg (show ¬ (iI (8 : Int) < 0) by decide), if_pos (show iI (8 : Int) ≤ 99 by decide)]
  rw [zl12, lt_y (by omega) (by omega) (by omega)]
  unfold pX2_addArc
  rw [zl12, lt_y (by omega) (by omega) (by omega), wr_n (by omega) (by omega), bind_some, wr_n (by omega) (by omega), bind_some, s2_addPiece cm (by omega) (by omega) (by omega) (by omega) (by omega), bs3, bs7, rgt_s, hz.1, hz.2, iI_s]
  rw [show (0 : Int) + 1 = 1 from rfl, show (0 : Int) + ((2 : Nat) : Int) = ((2 : Nat) : Int) by omega, show 15 * m + (0 : Int).toNat = 15 * m from rfl]
theorem arc_out {W V : Nat → Int} (h : SRel 2 m F T P C U W V) (cm : m = 12) : pX4_arc 20000 (iI ((2 : Nat) : Int)) (iI (m : Int)) (iF F) (iF T) (iF P) (iF C) (iF U) 0 1 2 8 = some (.inl 3) := by
  subst cm
  rw [show (0 : Int32) = iI (0 : Int) from rfl, show (1 : Int32) = iI (1 : Int) from rfl, show (2 : Int32) = iI ((2 : Nat) : Int) from rfl, show (8 : Int32) = iI (8 : Int) from rfl]
  unfold pX4_arc
  rw [q_refNode (n := 2) (by decide) (x := 0) (by decide) (by decide), if_pos (show (0 : Int) ≤ 0 ∧ (0 : Int) < ((2 : Nat) : Int) by decide), bx_r]
  rw [q_refNode (n := 2) (by decide) (x := 1) (by decide) (by decide), if_pos (show (0 : Int) ≤ 1 ∧ (1 : Int) < ((2 : Nat) : Int) by decide), bx_r]
  rw [if_neg (show ¬ (iI (0 : Int) = iI (1 : Int)) by decide)]
  rw [q_noWidth (x := ((2 : Nat) : Int)) (by decide) (by decide), bind_some, show (decide ¬ ((1 : Int) ≤ ((2 : Nat) : Int) ∧ ((2 : Nat) : Int) ≤ 5)) = false by decide, b0_f]
  rw [if_neg (show ¬ (iI (8 : Int) < 0) by decide), if_pos (show iI (8 : Int) ≤ 99 by decide), if_neg (show ¬ (iI ((12 : Nat) : Int) < 12) by decide)]
theorem om_arc (cm : m < 12) : OM l (dC, dI) cyI cyZ a yX4_arc wsX4_arc { frames := 2, cells := 0, slots := 0, locals := 49 } [.int 0, .int 1, .int 2, .int 8] (NN m) (NN (m + 1)) (fun _ => True) := by
  rintro x f ⟨F, T, P, C, U, ⟨W, V, h⟩, e0, e1, e2, e3, e4, f0, f1, f2, f3, f4⟩
  obtain ⟨F', T', P', C', U', W', V', hc, hs⟩ := arc_in h cm
  have hc1 : pX4_arc 20000 (x 3) (x 4) (f 0) (f 1) (f 2) (f 3) (f 4) 0 1 2 8 = some (.inr (iI (m : Int), iI ((m + 1 : Nat) : Int), iF F', iF T', iF P', iF C', iF U')) := by
    rw [e3, e4, f0, f1, f2, f3, f4]
    exact hc
  exact ⟨(tx [x 0, x 1, x 2, x 3, iI ((m + 1 : Nat) : Int), x 5, x 6, x 7]), (tf [iF F', iF T', iF P', iF C', iF U', f 5, f 6, f 7, f 8, f 9, f 10, f 11, f 12, f 13, f 14]), iI (m : Int), ⟨F', T', P', C', U', ⟨W', V', hs⟩, e0, e1, e2, e3, rfl, rfl, rfl, rfl, rfl, rfl⟩, trivial, fun sz => c_X4_arc l dC dI cyI cyZ (a 0) (a 1) (a 2) (a 3) (a 4) (a 5) (a 6) (a 7) (a 8) (a 9) (a 10) (a 11) (a 12) (a 13) (a 14) (a 15) (a 16) (a 17) (a 18) (a 19) sz (x 0) (x 1) (x 2) (x 3) (x 4) (x 5) (x 6) (x 7) (f 0) (f 1) (f 2) (f 3) (f 4) (f 5) (f 6) (f 7) (f 8) (f 9) (f 10) (f 11) (f 12) (f 13) (f 14) 0 1 2 8 20000 (iI (m : Int), iI ((m + 1 : Nat) : Int), iF F', iF T', iF P', iF C', iF U') hc1⟩
end OBJ
