set_option maxHeartbeats 4000000 in
set_option maxRecDepth 100000 in
theorem c_X3_nodeBefore (l : Launch) (dC : Nat → ClassId) (dI : Nat → Nat → Nat) (cyI cyZ : ClassId) (uc nw aF aT aP aC aU aUT aUD aUB : Nat) (sz : Nat) (nN nA : Int32) (nF nT nP nC nU uT uD uB : Nat → Int32) (p0 : Int32) (res : Int32) (h : pX3_nodeBefore nF nT uT uB p0 = some res) : Met l yX3_nodeBefore wsX3_nodeBefore { frames := 0, cells := 0, slots := 0, locals := 0 } (va_Pc [.ref uc, .int p0] (zPre (dC, dI) (wX3 cyI cyZ uc nw aF aT aP aC aU aUT aUD aUB nN nA nF nT nP nC nU uT uD uB) [(cyI, .int), (cyZ, .boolean)] sz)) (zQi (dC, dI) (wX3 cyI cyZ uc nw aF aT aP aC aU aUT aUD aUB nN nA nF nT nP nC nU uT uD uB) [(cyI, .int), (cyZ, .boolean)] (res) (va_A (wX3 cyI cyZ uc nw aF aT aP aC aU aUT aUD aUB nN nA nF nT nP nC nU uT uD uB) sz)) 0 0 (va_A (wX3 cyI cyZ uc nw aF aT aP aC aU aUT aUD aUB nN nA nF nT nP nC nU uT uD uB) sz) := by
  refine q_ofWi (cc := cX3_nodeBefore) (maxL := 4) (rt := (some .int)) (by decide) rfl (Nat.le_of_ble_eq_true rfl) ?_
  intro p e s m args below meth c ls A Q H locs hQ hx hb hr hts hown hlocks hml hA hK hP hD hS hl
  have hl : lv_has ls 4 [(0, .ref uc), (1, .int p0)] := hl
  have k0 := hts (.fieldLink RX3 19 "ConvexConduit$UnitCircles" "cameBy" "[I") (by decide +kernel)
  have k1 : ∀ w ∈ u_ws RX3 TX3 4, w ∈ wsX3_nodeBefore := by decide +kernel
  have k2 := hts (.fieldLink RX3 9 "ConvexConduit$UnitCircles" "taken" "[Z") (by decide +kernel)
  have k3 := hts (.fieldLink RX3 22 "ConvexConduit$UnitCircles" "network" "LConvexConduit$Network;") (by decide +kernel)
  have k4 := hts (.fieldLink RX3 69 "ConvexConduit$Network" "from" "[I") (by decide +kernel)
  have k5 : ∀ w ∈ u_ws RX2 TX2 7, w ∈ wsX3_nodeBefore := by decide +kernel
  have k6 := hts (.fieldLink RX3 66 "ConvexConduit$Network" "to" "[I") (by decide +kernel)
  unfold pX3_nodeBefore at h
  refine lv_aload_n hx hb dX3_nodeBefore_0 rfl (lv_at hl 0 rfl) ?_
  refine va_get (D := (dC, dI)) (ci := 3) (v := .ref aUB) (C := RX3) (T := TX3) (N := 4) hx hb hts k1 hown hK hP 0 rfl rfl 3 (by decide) k0 (fun _ h9 => h9) rfl dX3_nodeBefore_1 ?_
  refine lv_iload_n hx hb dX3_nodeBefore_4 rfl (lv_at hl 1 rfl) ?_
  obtain ⟨t1, e9, h⟩ := bd h
  refine q_iald hx hb hK hP 9 0 rfl rfl e9 dX3_nodeBefore_5 ?_
  refine lv_istore_n (lv' := [(2, .int t1), (0, .ref uc), (1, .int p0)]) hx hb dX3_nodeBefore_6 rfl hl (by decide) rfl (fun ls hl => ?_)
  refine lv_iload_n hx hb dX3_nodeBefore_7 rfl (lv_at hl 0 rfl) ?_
  refine lv_iconst (v := -1) hx hb dX3_nodeBefore_8 (by decide) ?_
  refine lv_icmp_ne (tgt := 14) hx hb dX3_nodeBefore_9 (by decide) (fun c9 => ?_) (fun c9 => ?_)
  · have h := ineg c9 h
    refine lv_iload_n hx hb dX3_nodeBefore_14 rfl (lv_at hl 0 rfl) ?_
    refine lv_bipush (v := 15) hx hb dX3_nodeBefore_15 (by decide) ?_
    refine lv_idiv hx hb dX3_nodeBefore_17 (by decide) ?_
    refine lv_istore_n (lv' := [(3, .int (t1 / 15)), (2, .int t1), (0, .ref uc), (1, .int p0)]) hx hb dX3_nodeBefore_18 rfl hl (by decide) rfl (fun ls hl => ?_)
    refine lv_aload_n hx hb dX3_nodeBefore_19 rfl (lv_at hl 2 rfl) ?_
    refine va_get (D := (dC, dI)) (ci := 3) (v := .ref aUT) (C := RX3) (T := TX3) (N := 4) hx hb hts k1 hown hK hP 0 rfl rfl 1 (by decide) k2 (fun _ h9 => h9) rfl dX3_nodeBefore_20 ?_
    refine lv_iload_n hx hb dX3_nodeBefore_23 rfl (lv_at hl 1 rfl) ?_
    obtain ⟨t2, e9, h⟩ := bd h
    refine q_zald hx hb hK hP 7 1 rfl rfl e9 dX3_nodeBefore_24 ?_
    refine lv_if_eq (tgt := 40) hx hb dX3_nodeBefore_25 (by decide) (fun c9 => ?_) (fun c9 => ?_)
    · have h := ipos c9 h
      refine lv_aload_n hx hb dX3_nodeBefore_40 rfl (lv_at hl 2 rfl) ?_
      refine va_get (D := (dC, dI)) (ci := 3) (v := .ref nw) (C := RX3) (T := TX3) (N := 4) hx hb hts k1 hown hK hP 0 rfl rfl 0 (by decide) k3 (fun _ h9 => h9) rfl dX3_nodeBefore_41 ?_
      refine va_get (D := (dC, dI)) (ci := 2) (v := .ref aF) (C := RX2) (T := TX2) (N := 7) hx hb hts k5 hown hK hP 1 rfl rfl 2 (by decide) k4 (fun _ h9 => h9) rfl dX3_nodeBefore_44 ?_
      refine lv_iload_n hx hb dX3_nodeBefore_47 rfl (lv_at hl 0 rfl) ?_
      obtain ⟨t3, e9, h⟩ := bd h
      refine q_iald hx hb hK hP 2 0 rfl rfl e9 dX3_nodeBefore_48 ?_
      cases h
      exact q_iret hQ hx hb hr hlocks hP hK hD hS dX3_nodeBefore_49
    · have h := ineg c9 h
      refine lv_aload_n hx hb dX3_nodeBefore_28 rfl (lv_at hl 2 rfl) ?_
      refine va_get (D := (dC, dI)) (ci := 3) (v := .ref nw) (C := RX3) (T := TX3) (N := 4) hx hb hts k1 hown hK hP 0 rfl rfl 0 (by decide) k3 (fun _ h9 => h9) rfl dX3_nodeBefore_29 ?_
      refine va_get (D := (dC, dI)) (ci := 2) (v := .ref aT) (C := RX2) (T := TX2) (N := 7) hx hb hts k5 hown hK hP 1 rfl rfl 3 (by decide) k6 (fun _ h9 => h9) rfl dX3_nodeBefore_32 ?_
      refine lv_iload_n hx hb dX3_nodeBefore_35 rfl (lv_at hl 0 rfl) ?_
      obtain ⟨t4, e9, h⟩ := bd h
      refine q_iald hx hb hK hP 3 0 rfl rfl e9 dX3_nodeBefore_36 ?_
      refine lv_goto (tgt := 49) hx hb dX3_nodeBefore_37 (by decide) ?_
      cases h
      exact q_iret hQ hx hb hr hlocks hP hK hD hS dX3_nodeBefore_49
  · have h := ipos c9 h
    refine lv_iconst (v := -1) hx hb dX3_nodeBefore_12 (by decide) ?_
    cases h
    exact q_iret hQ hx hb hr hlocks hP hK hD hS dX3_nodeBefore_13
set_option maxHeartbeats 4000000 in
set_option maxRecDepth 100000 in
theorem c_X3_priceOfTaken (l : Launch) (dC : Nat → ClassId) (dI : Nat → Nat → Nat) (cyI cyZ : ClassId) (uc nw aF aT aP aC aU aUT aUD aUB : Nat) (sz : Nat) (nN nA : Int32) (nF nT nP nC nU uT uD uB : Nat → Int32) (N : Nat) (res : Int32) (h : pX3_priceOfTaken N nA nC nU uT = some res) : Met l yX3_priceOfTaken wsX3_priceOfTaken { frames := 1, cells := 0, slots := 0, locals := 22 } (va_Pc [.ref uc] (zPre (dC, dI) (wX3 cyI cyZ uc nw aF aT aP aC aU aUT aUD aUB nN nA nF nT nP nC nU uT uD uB) [(cyI, .int), (cyZ, .boolean)] sz)) (zQi (dC, dI) (wX3 cyI cyZ uc nw aF aT aP aC aU aUT aUD aUB nN nA nF nT nP nC nU uT uD uB) [(cyI, .int), (cyZ, .boolean)] (res) (va_A (wX3 cyI cyZ uc nw aF aT aP aC aU aUT aUD aUB nN nA nF nT nP nC nU uT uD uB) sz)) 0 0 (va_A (wX3 cyI cyZ uc nw aF aT aP aC aU aUT aUD aUB nN nA nF nT nP nC nU uT uD uB) sz) := by
  refine q_ofWi (cc := cX3_priceOfTaken) (maxL := 4) (rt := (some .int)) (by decide) rfl (Nat.le_of_ble_eq_true rfl) ?_
  intro p e s m args below meth c ls A Q H locs hQ hx hb hr hts hown hlocks hml hA hK hP hD hS hl
  have hl : lv_has ls 4 [(0, .ref uc)] := hl
  have k0 := hts (.fieldLink RX3 22 "ConvexConduit$UnitCircles" "network" "LConvexConduit$Network;") (by decide +kernel)
  have k1 : ∀ w ∈ u_ws RX3 TX3 4, w ∈ wsX3_priceOfTaken := by decide +kernel
  have k2 := hts (.fieldLink RX3 60 "ConvexConduit$Network" "arcs" "I") (by decide +kernel)
  have k3 : ∀ w ∈ u_ws RX2 TX2 7, w ∈ wsX3_priceOfTaken := by decide +kernel
  have k4 := hts (.fieldLink RX3 63 "ConvexConduit$Network" "capacity" "[I") (by decide +kernel)
  have k5 := hts (.fieldLink RX3 9 "ConvexConduit$UnitCircles" "taken" "[Z") (by decide +kernel)
  unfold pX3_priceOfTaken at h
  refine lv_iconst (v := 0) hx hb dX3_priceOfTaken_0 (by decide) ?_
  refine lv_istore_n (lv' := [(1, .int 0), (0, .ref uc)]) hx hb dX3_priceOfTaken_1 rfl hl (by decide) rfl (fun ls hl => ?_)
  refine lv_iconst (v := 0) hx hb dX3_priceOfTaken_2 (by decide) ?_
  refine lv_istore_n (lv' := [(2, .int 0), (1, .int 0), (0, .ref uc)]) hx hb dX3_priceOfTaken_3 rfl hl (by decide) rfl (fun ls hl => ?_)
  obtain ⟨x1_10, x2_11, e0, h⟩ := bd2 h
  have hT0 : ∀ (H : Heap) (locs : List Loc), va_P (dC, dI) vwCl (wX3 cyI cyZ uc nw aF aT aP aC aU aUT aUD aUB nN nA nF nT nP nC nU uT uD uB) H → va_D A (wX3 cyI cyZ uc nw aF aT aP aC aU aUT aUD aUB nN nA nF nT nP nC nU uT uD uB) → va_S A s.heap H locs → ∀ ls : Array Slot, lv_has ls 4 [(0, .ref uc), (1, .int x1_10), (2, .int x2_11)] → W p l e { frames := 1, cells := 0, slots := 0, locals := 22 } s m args below meth c H locs 0 0 Q (F0 m 70 ls []) := by
    intro H locs hP hD hS ls hl
    refine lv_iload_n hx hb dX3_priceOfTaken_70 rfl (lv_at hl 1 rfl) ?_
    cases h
    exact q_iret hQ hx hb hr hlocks hP hK hD hS dX3_priceOfTaken_71
  have hL0 : ∀ (n9 : Nat) (x1_1 : Int32) (x2_2 : Int32), lp (un2 (pX3_priceOfTaken_l4 N nA nC nU uT)) n9 ((x1_1, x2_2)) = some ((x1_10, x2_11)) → ∀ (H : Heap) (locs : List Loc), va_P (dC, dI) vwCl (wX3 cyI cyZ uc nw aF aT aP aC aU aUT aUD aUB nN nA nF nT nP nC nU uT uD uB) H → va_D A (wX3 cyI cyZ uc nw aF aT aP aC aU aUT aUD aUB nN nA nF nT nP nC nU uT uD uB) → va_S A s.heap H locs → ∀ ls : Array Slot, lv_has ls 4 [(0, .ref uc), (1, .int x1_1), (2, .int x2_2)] → W p l e { frames := 1, cells := 0, slots := 0, locals := 22 } s m args below meth c H locs 0 0 Q (F0 m 4 ls []) := by
    intro n9
    induction n9 with
    | zero =>
      intro x1_1 x2_2 h
      exact lp0 h
    | succ n9 ih0 =>
      intro x1_1 x2_2 h H locs hP hD hS ls hl
      obtain ⟨o9, g, h⟩ := lps h
      replace g : pX3_priceOfTaken_l4 N nA nC nU uT x1_1 x2_2 = some o9 := g
      unfold pX3_priceOfTaken_l4 at g
      refine lv_iload_n hx hb dX3_priceOfTaken_4 rfl (lv_at hl 2 rfl) ?_
      refine lv_aload_n hx hb dX3_priceOfTaken_5 rfl (lv_at hl 0 rfl) ?_
      refine va_get (D := (dC, dI)) (ci := 3) (v := .ref nw) (C := RX3) (T := TX3) (N := 4) hx hb hts k1 hown hK hP 0 rfl rfl 0 (by decide) k0 (fun _ h9 => h9) rfl dX3_priceOfTaken_6 ?_
      refine va_get (D := (dC, dI)) (ci := 2) (v := .int nA) (C := RX2) (T := TX2) (N := 7) hx hb hts k3 hown hK hP 1 rfl rfl 1 (by decide) k2 (fun _ h9 => h9) rfl dX3_priceOfTaken_9 ?_
      refine lv_icmp_ge (tgt := 70) hx hb dX3_priceOfTaken_12 (by decide) (fun c9 => ?_) (fun c9 => ?_)
      · have g := ipos c9 g
        cases g
        have h := lpx h
        cases h
        exact hT0 _ _ hP hD hS _ (lv_sub hl [0, 1, 2] rfl)
      · have g := ineg c9 g
        refine lv_iconst (v := 1) hx hb dX3_priceOfTaken_15 (by decide) ?_
        refine lv_istore_n (lv' := [(3, .int 1), (0, .ref uc), (1, .int x1_1), (2, .int x2_2)]) hx hb dX3_priceOfTaken_16 rfl hl (by decide) rfl (fun ls hl => ?_)
        obtain ⟨x1_8, x3_9, e1, g⟩ := bd2 g
        have hT1 : ∀ (H : Heap) (locs : List Loc), va_P (dC, dI) vwCl (wX3 cyI cyZ uc nw aF aT aP aC aU aUT aUD aUB nN nA nF nT nP nC nU uT uD uB) H → va_D A (wX3 cyI cyZ uc nw aF aT aP aC aU aUT aUD aUB nN nA nF nT nP nC nU uT uD uB) → va_S A s.heap H locs → ∀ ls : Array Slot, lv_has ls 4 [(0, .ref uc), (1, .int x1_8), (2, .int x2_2), (3, .int x3_9)] → W p l e { frames := 1, cells := 0, slots := 0, locals := 22 } s m args below meth c H locs 0 0 Q (F0 m 64 ls []) := by
          intro H locs hP hD hS ls hl
          refine lv_iinc (v := x2_2 + 1) (lv' := [(2, .int (x2_2 + 1)), (0, .ref uc), (1, .int x1_8), (3, .int x3_9)]) hx hb dX3_priceOfTaken_64 hl (k := 2) rfl (by rfl) (by decide) rfl (fun ls hl => ?_)
          refine lv_goto (tgt := 4) hx hb dX3_priceOfTaken_67 (by decide) ?_
          cases g
          exact ih0 _ _ h _ _ hP hD hS _ (lv_sub hl [1, 2, 0] rfl)
        have hL1 : ∀ (n9 : Nat) (x1_3 : Int32) (x3_4 : Int32), lp (un2 (pX3_priceOfTaken_l17 nC nU uT x2_2)) n9 ((x1_3, x3_4)) = some ((x1_8, x3_9)) → ∀ (H : Heap) (locs : List Loc), va_P (dC, dI) vwCl (wX3 cyI cyZ uc nw aF aT aP aC aU aUT aUD aUB nN nA nF nT nP nC nU uT uD uB) H → va_D A (wX3 cyI cyZ uc nw aF aT aP aC aU aUT aUD aUB nN nA nF nT nP nC nU uT uD uB) → va_S A s.heap H locs → ∀ ls : Array Slot, lv_has ls 4 [(0, .ref uc), (1, .int x1_3), (2, .int x2_2), (3, .int x3_4)] → W p l e { frames := 1, cells := 0, slots := 0, locals := 22 } s m args below meth c H locs 0 0 Q (F0 m 17 ls []) := by
          intro n9
          induction n9 with
          | zero =>
            intro x1_3 x3_4 h
            exact lp0 h
          | succ n9 ih1 =>
            intro x1_3 x3_4 h H locs hP hD hS ls hl
            obtain ⟨o9, g, h⟩ := lps h
            replace g : pX3_priceOfTaken_l17 nC nU uT x2_2 x1_3 x3_4 = some o9 := g
            unfold pX3_priceOfTaken_l17 at g
            refine lv_iload_n hx hb dX3_priceOfTaken_17 rfl (lv_at hl 3 rfl) ?_
            refine lv_aload_n hx hb dX3_priceOfTaken_18 rfl (lv_at hl 0 rfl) ?_
            refine va_get (D := (dC, dI)) (ci := 3) (v := .ref nw) (C := RX3) (T := TX3) (N := 4) hx hb hts k1 hown hK hP 0 rfl rfl 0 (by decide) k0 (fun _ h9 => h9) rfl dX3_priceOfTaken_19 ?_
            refine va_get (D := (dC, dI)) (ci := 2) (v := .ref aC) (C := RX2) (T := TX2) (N := 7) hx hb hts k3 hown hK hP 1 rfl rfl 5 (by decide) k4 (fun _ h9 => h9) rfl dX3_priceOfTaken_22 ?_
            refine lv_iload_n hx hb dX3_priceOfTaken_25 rfl (lv_at hl 2 rfl) ?_
            obtain ⟨t5, e9, g⟩ := bd g
            refine q_iald hx hb hK hP 5 0 rfl rfl e9 dX3_priceOfTaken_26 ?_
            refine lv_icmp_gt (tgt := 64) hx hb dX3_priceOfTaken_27 (by decide) (fun c9 => ?_) (fun c9 => ?_)
            · have g := ipos c9 g
              cases g
              have h := lpx h
              cases h
              exact hT1 _ _ hP hD hS _ (lv_sub hl [0, 1, 2, 3] rfl)
            · have g := ineg c9 g
              refine lv_aload_n hx hb dX3_priceOfTaken_30 rfl (lv_at hl 0 rfl) ?_
              refine va_get (D := (dC, dI)) (ci := 3) (v := .ref aUT) (C := RX3) (T := TX3) (N := 4) hx hb hts k1 hown hK hP 0 rfl rfl 1 (by decide) k5 (fun _ h9 => h9) rfl dX3_priceOfTaken_31 ?_
              refine lv_iload_n hx hb dX3_priceOfTaken_34 rfl (lv_at hl 2 rfl) ?_
              refine lv_bipush (v := 15) hx hb dX3_priceOfTaken_35 (by decide) ?_
              refine lv_imul hx hb dX3_priceOfTaken_37 ?_
              refine lv_iload_n hx hb dX3_priceOfTaken_38 rfl (lv_at hl 3 rfl) ?_
              refine lv_iadd hx hb dX3_priceOfTaken_39 ?_
              refine lv_iconst (v := 1) hx hb dX3_priceOfTaken_40 (by decide) ?_
              refine lv_isub hx hb dX3_priceOfTaken_41 ?_
              obtain ⟨t6, e9, g⟩ := bd g
              refine q_zald hx hb hK hP 7 1 rfl rfl e9 dX3_priceOfTaken_42 ?_
              refine lv_if_eq (tgt := 58) hx hb dX3_priceOfTaken_43 (by decide) (fun c9 => ?_) (fun c9 => ?_)
              · have g := ipos c9 g
                refine lv_iinc (v := x3_4 + 1) (lv' := [(3, .int (x3_4 + 1)), (0, .ref uc), (1, .int x1_3), (2, .int x2_2)]) hx hb dX3_priceOfTaken_58 hl (k := 3) rfl (by rfl) (by decide) rfl (fun ls hl => ?_)
                refine lv_goto (tgt := 17) hx hb dX3_priceOfTaken_61 (by decide) ?_
                cases g
                exact ih1 _ _ h _ _ hP hD hS _ (lv_sub hl [1, 2, 3, 0] rfl)
              · have g := ineg c9 g
                refine lv_iload_n hx hb dX3_priceOfTaken_46 rfl (lv_at hl 1 rfl) ?_
                refine lv_aload_n hx hb dX3_priceOfTaken_47 rfl (lv_at hl 0 rfl) ?_
                refine va_get (D := (dC, dI)) (ci := 3) (v := .ref nw) (C := RX3) (T := TX3) (N := 4) hx hb hts k1 hown hK hP 0 rfl rfl 0 (by decide) k0 (fun _ h9 => h9) rfl dX3_priceOfTaken_48 ?_
                refine lv_iload_n hx hb dX3_priceOfTaken_51 rfl (lv_at hl 2 rfl) ?_
                refine lv_iload_n hx hb dX3_priceOfTaken_52 rfl (lv_at hl 3 rfl) ?_
                obtain ⟨r7, e9, g⟩ := bd g
                refine q_callVi (ret := r7) (As := [.int x2_2, .int x3_4]) (w1 := wX2 cyI nw aF aT aP aC aU nN nA nF nT nP nC nU) (ws2 := wX3 cyI cyZ uc nw aF aT aP aC aU aUT aUD aUB nN nA nF nT nP nC nU uT uD uB) ⟨hx, hb, hml, hown, hts⟩ (c_X2_unitPrice l dC dI cyI nw aF aT aP aC aU H.size nN nA nF nT nP nC nU x2_2 x3_4 _ e9) (cwV 2 hts gX3_priceOfTaken_X2_unitPrice rfl rfl rfl (by decide +kernel) ⟨Nat.le_of_ble_eq_true rfl, Nat.le_of_ble_eq_true rfl⟩) hK hP hD hS hA [1, 2, 3, 4, 5, 6] [0, 7, 8, 9] [0, 4, 5, 6, 7, 8, 9, 1, 2, 3] [0] rfl rfl rfl rfl (by decide) rfl rfl rfl 2 0 rfl rfl rfl hl.1 (Nat.le_of_ble_eq_true rfl) (Nat.le_of_ble_eq_true rfl) (Nat.le_of_ble_eq_true rfl) rfl dX3_priceOfTaken_53 (fun H locs hP hD hS => ?_)
                refine lv_iadd hx hb dX3_priceOfTaken_56 ?_
                refine lv_istore_n (lv' := [(1, .int (x1_3 + r7)), (0, .ref uc), (2, .int x2_2), (3, .int x3_4)]) hx hb dX3_priceOfTaken_57 rfl hl (by decide) rfl (fun ls hl => ?_)
                refine lv_iinc (v := x3_4 + 1) (lv' := [(3, .int (x3_4 + 1)), (1, .int (x1_3 + r7)), (0, .ref uc), (2, .int x2_2)]) hx hb dX3_priceOfTaken_58 hl (k := 3) rfl (by rfl) (by decide) rfl (fun ls hl => ?_)
                refine lv_goto (tgt := 17) hx hb dX3_priceOfTaken_61 (by decide) ?_
                cases g
                exact ih1 _ _ h _ _ hP hD hS _ (lv_sub hl [2, 1, 3, 0] rfl)
        exact hL1 N _ _  e1 _ _ hP hD hS _ (lv_sub hl [1, 2, 3, 0] rfl)
  exact hL0 N _ _  e0 _ _ hP hD hS _ (lv_sub hl [2, 1, 0] rfl)
set_option maxHeartbeats 4000000 in
set_option maxRecDepth 100000 in
theorem c_X3_shortenAll (l : Launch) (dC : Nat → ClassId) (dI : Nat → Nat → Nat) (cyI cyZ : ClassId) (uc nw aF aT aP aC aU aUT aUD aUB : Nat) (sz : Nat) (nN nA : Int32) (nF nT nP nC nU uT uD uB : Nat → Int32) (p0 : Int32) (N : Nat) (res : Int32 × (Nat → Int32) × (Nat → Int32)) (h : pX3_shortenAll N nA nF nT nC nU uT uD uB p0 = some res) : Met l yX3_shortenAll wsX3_shortenAll { frames := 1, cells := 0, slots := 0, locals := 22 } (va_Pc [.ref uc, .int p0] (zPre (dC, dI) (wX3 cyI cyZ uc nw aF aT aP aC aU aUT aUD aUB nN nA nF nT nP nC nU uT uD uB) [(cyI, .int), (cyZ, .boolean)] sz)) (zQi (dC, dI) (wX3 cyI cyZ uc nw aF aT aP aC aU aUT aUD aUB nN nA nF nT nP nC nU uT res.2.1 res.2.2) [(cyI, .int), (cyZ, .boolean)] (res.1) (va_A (wX3 cyI cyZ uc nw aF aT aP aC aU aUT aUD aUB nN nA nF nT nP nC nU uT uD uB) sz)) 0 0 (va_A (wX3 cyI cyZ uc nw aF aT aP aC aU aUT aUD aUB nN nA nF nT nP nC nU uT uD uB) sz) := by
  refine q_ofWi (cc := cX3_shortenAll) (maxL := 10) (rt := (some .int)) (by decide) rfl (Nat.le_of_ble_eq_true rfl) ?_
  intro p e s m args below meth c ls A Q H locs hQ hx hb hr hts hown hlocks hml hA hK hP hD hS hl
  have hl : lv_has ls 10 [(0, .ref uc), (1, .int p0)] := hl
  have k0 := hts (.fieldLink RX3 22 "ConvexConduit$UnitCircles" "network" "LConvexConduit$Network;") (by decide +kernel)
  have k1 : ∀ w ∈ u_ws RX3 TX3 4, w ∈ wsX3_shortenAll := by decide +kernel
  have k2 := hts (.fieldLink RX3 60 "ConvexConduit$Network" "arcs" "I") (by decide +kernel)
  have k3 : ∀ w ∈ u_ws RX2 TX2 7, w ∈ wsX3_shortenAll := by decide +kernel
  have k4 := hts (.fieldLink RX3 63 "ConvexConduit$Network" "capacity" "[I") (by decide +kernel)
  have k5 := hts (.fieldLink RX3 9 "ConvexConduit$UnitCircles" "taken" "[Z") (by decide +kernel)
  have k6 := hts (.fieldLink RX3 69 "ConvexConduit$Network" "from" "[I") (by decide +kernel)
  have k7 := hts (.fieldLink RX3 66 "ConvexConduit$Network" "to" "[I") (by decide +kernel)
  have k8 := hts (.fieldLink RX3 15 "ConvexConduit$UnitCircles" "distance" "[I") (by decide +kernel)
  have k9 := hts (.constant RX3 43 (1000000)) (by decide +kernel)
  have k10 := hts (.fieldLink RX3 19 "ConvexConduit$UnitCircles" "cameBy" "[I") (by decide +kernel)
  unfold pX3_shortenAll at h
  refine lv_iconst (v := -1) hx hb dX3_shortenAll_0 (by decide) ?_
  refine lv_istore_n (lv' := [(2, .int ((-1))), (0, .ref uc), (1, .int p0)]) hx hb dX3_shortenAll_1 rfl hl (by decide) rfl (fun ls hl => ?_)
  refine lv_iconst (v := 0) hx hb dX3_shortenAll_2 (by decide) ?_
  refine lv_istore_n (lv' := [(3, .int 0), (2, .int ((-1))), (0, .ref uc), (1, .int p0)]) hx hb dX3_shortenAll_3 rfl hl (by decide) rfl (fun ls hl => ?_)
  obtain ⟨x2_107, x3_108, uD_109, uB_110, e0, h⟩ := bd4 h
  have hT0 : ∀ (H : Heap) (locs : List Loc), va_P (dC, dI) vwCl (wX3 cyI cyZ uc nw aF aT aP aC aU aUT aUD aUB nN nA nF nT nP nC nU uT uD_109 uB_110) H → va_D A (wX3 cyI cyZ uc nw aF aT aP aC aU aUT aUD aUB nN nA nF nT nP nC nU uT uD_109 uB_110) → va_S A s.heap H locs → ∀ ls : Array Slot, lv_has ls 10 [(0, .ref uc), (1, .int p0), (2, .int x2_107), (3, .int x3_108)] → W p l e { frames := 1, cells := 0, slots := 0, locals := 22 } s m args below meth c H locs 0 0 Q (F0 m 214 ls []) := by
    intro H locs hP hD hS ls hl
    refine lv_iload_n hx hb dX3_shortenAll_214 rfl (lv_at hl 2 rfl) ?_
    cases h
    exact q_iret hQ hx hb hr hlocks hP hK hD hS dX3_shortenAll_215
  have hL0 : ∀ (n9 : Nat) (x2_1 : Int32) (x3_2 : Int32) (uD_3 : Nat → Int32) (uB_4 : Nat → Int32), lp (un4 (pX3_shortenAll_l4 N nA nC nF nT nU p0 uT)) n9 ((x2_1, x3_2, uD_3, uB_4)) = some ((x2_107, x3_108, uD_109, uB_110)) → ∀ (H : Heap) (locs : List Loc), va_P (dC, dI) vwCl (wX3 cyI cyZ uc nw aF aT aP aC aU aUT aUD aUB nN nA nF nT nP nC nU uT uD_3 uB_4) H → va_D A (wX3 cyI cyZ uc nw aF aT aP aC aU aUT aUD aUB nN nA nF nT nP nC nU uT uD_3 uB_4) → va_S A s.heap H locs → ∀ ls : Array Slot, lv_has ls 10 [(0, .ref uc), (1, .int p0), (2, .int x2_1), (3, .int x3_2)] → W p l e { frames := 1, cells := 0, slots := 0, locals := 22 } s m args below meth c H locs 0 0 Q (F0 m 4 ls []) := by
    intro n9
    induction n9 with
    | zero =>
      intro x2_1 x3_2 uD_3 uB_4 h
      exact lp0 h
    | succ n9 ih0 =>
      intro x2_1 x3_2 uD_3 uB_4 h H locs hP hD hS ls hl
      obtain ⟨o9, g, h⟩ := lps h
      replace g : pX3_shortenAll_l4 N nA nC nF nT nU p0 uT x2_1 x3_2 uD_3 uB_4 = some o9 := g
      unfold pX3_shortenAll_l4 at g
      refine lv_iload_n hx hb dX3_shortenAll_4 rfl (lv_at hl 3 rfl) ?_
      refine lv_aload_n hx hb dX3_shortenAll_5 rfl (lv_at hl 0 rfl) ?_
      refine va_get (D := (dC, dI)) (ci := 3) (v := .ref nw) (C := RX3) (T := TX3) (N := 4) hx hb hts k1 hown hK hP 0 rfl rfl 0 (by decide) k0 (fun _ h9 => h9) rfl dX3_shortenAll_6 ?_
      refine va_get (D := (dC, dI)) (ci := 2) (v := .int nA) (C := RX2) (T := TX2) (N := 7) hx hb hts k3 hown hK hP 1 rfl rfl 1 (by decide) k2 (fun _ h9 => h9) rfl dX3_shortenAll_9 ?_
      refine lv_icmp_ge (tgt := 214) hx hb dX3_shortenAll_12 (by decide) (fun c9 => ?_) (fun c9 => ?_)
      · have g := ipos c9 g
        cases g
        have h := lpx h
        cases h
        exact hT0 _ _ hP hD hS _ (lv_sub hl [0, 1, 2, 3] rfl)
      · have g := ineg c9 g
        refine lv_iconst (v := 1) hx hb dX3_shortenAll_15 (by decide) ?_
        refine lv_istore (lv' := [(4, .int 1), (0, .ref uc), (1, .int p0), (2, .int x2_1), (3, .int x3_2)]) hx hb dX3_shortenAll_16 hl (by decide) rfl (fun ls hl => ?_)
        obtain ⟨x2_103, x4_104, uD_105, uB_106, e1, g⟩ := bd4 g
        have hT1 : ∀ (H : Heap) (locs : List Loc), va_P (dC, dI) vwCl (wX3 cyI cyZ uc nw aF aT aP aC aU aUT aUD aUB nN nA nF nT nP nC nU uT uD_105 uB_106) H → va_D A (wX3 cyI cyZ uc nw aF aT aP aC aU aUT aUD aUB nN nA nF nT nP nC nU uT uD_105 uB_106) → va_S A s.heap H locs → ∀ ls : Array Slot, lv_has ls 10 [(0, .ref uc), (1, .int p0), (2, .int x2_103), (3, .int x3_2), (4, .int x4_104)] → W p l e { frames := 1, cells := 0, slots := 0, locals := 22 } s m args below meth c H locs 0 0 Q (F0 m 208 ls []) := by
          intro H locs hP hD hS ls hl
          refine lv_iinc (v := x3_2 + 1) (lv' := [(3, .int (x3_2 + 1)), (0, .ref uc), (1, .int p0), (2, .int x2_103), (4, .int x4_104)]) hx hb dX3_shortenAll_208 hl (k := 3) rfl (by rfl) (by decide) rfl (fun ls hl => ?_)
          refine lv_goto (tgt := 4) hx hb dX3_shortenAll_211 (by decide) ?_
          cases g
          exact ih0 _ _ _ _ h _ _ hP hD hS _ (lv_sub hl [1, 2, 3, 0] rfl)
        have hL1 : ∀ (n9 : Nat) (x2_5 : Int32) (x4_6 : Int32) (uD_7 : Nat → Int32) (uB_8 : Nat → Int32), lp (un4 (pX3_shortenAll_l18 nC nF nT nU p0 uT x3_2)) n9 ((x2_5, x4_6, uD_7, uB_8)) = some ((x2_103, x4_104, uD_105, uB_106)) → ∀ (H : Heap) (locs : List Loc), va_P (dC, dI) vwCl (wX3 cyI cyZ uc nw aF aT aP aC aU aUT aUD aUB nN nA nF nT nP nC nU uT uD_7 uB_8) H → va_D A (wX3 cyI cyZ uc nw aF aT aP aC aU aUT aUD aUB nN nA nF nT nP nC nU uT uD_7 uB_8) → va_S A s.heap H locs → ∀ ls : Array Slot, lv_has ls 10 [(0, .ref uc), (1, .int p0), (2, .int x2_5), (3, .int x3_2), (4, .int x4_6)] → W p l e { frames := 1, cells := 0, slots := 0, locals := 22 } s m args below meth c H locs 0 0 Q (F0 m 18 ls []) := by
          intro n9
          induction n9 with
          | zero =>
            intro x2_5 x4_6 uD_7 uB_8 h
            exact lp0 h
          | succ n9 ih1 =>
            intro x2_5 x4_6 uD_7 uB_8 h H locs hP hD hS ls hl
            obtain ⟨o9, g, h⟩ := lps h
            replace g : pX3_shortenAll_l18 nC nF nT nU p0 uT x3_2 x2_5 x4_6 uD_7 uB_8 = some o9 := g
            unfold pX3_shortenAll_l18 at g
            refine lv_iload hx hb dX3_shortenAll_18 (lv_at hl 4 rfl) ?_
            refine lv_aload_n hx hb dX3_shortenAll_20 rfl (lv_at hl 0 rfl) ?_
            refine va_get (D := (dC, dI)) (ci := 3) (v := .ref nw) (C := RX3) (T := TX3) (N := 4) hx hb hts k1 hown hK hP 0 rfl rfl 0 (by decide) k0 (fun _ h9 => h9) rfl dX3_shortenAll_21 ?_
            refine va_get (D := (dC, dI)) (ci := 2) (v := .ref aC) (C := RX2) (T := TX2) (N := 7) hx hb hts k3 hown hK hP 1 rfl rfl 5 (by decide) k4 (fun _ h9 => h9) rfl dX3_shortenAll_24 ?_
            refine lv_iload_n hx hb dX3_shortenAll_27 rfl (lv_at hl 3 rfl) ?_
            obtain ⟨t9, e9, g⟩ := bd g
            refine q_iald hx hb hK hP 5 0 rfl rfl e9 dX3_shortenAll_28 ?_
            refine lv_icmp_gt (tgt := 208) hx hb dX3_shortenAll_29 (by decide) (fun c9 => ?_) (fun c9 => ?_)
            · have g := ipos c9 g
              cases g
              have h := lpx h
              cases h
              exact hT1 _ _ hP hD hS _ (lv_sub hl [0, 1, 2, 3, 4] rfl)
            · have g := ineg c9 g
              refine lv_iload_n hx hb dX3_shortenAll_32 rfl (lv_at hl 3 rfl) ?_
              refine lv_bipush (v := 15) hx hb dX3_shortenAll_33 (by decide) ?_
              refine lv_imul hx hb dX3_shortenAll_35 ?_
              refine lv_iload hx hb dX3_shortenAll_36 (lv_at hl 4 rfl) ?_
              refine lv_iadd hx hb dX3_shortenAll_38 ?_
              refine lv_iconst (v := 1) hx hb dX3_shortenAll_39 (by decide) ?_
              refine lv_isub hx hb dX3_shortenAll_40 ?_
              refine lv_istore (lv' := [(5, .int (((x3_2 * 15) + x4_6) - 1)), (0, .ref uc), (1, .int p0), (2, .int x2_5), (3, .int x3_2), (4, .int x4_6)]) hx hb dX3_shortenAll_41 hl (by decide) rfl (fun ls hl => ?_)
              refine lv_aload_n hx hb dX3_shortenAll_43 rfl (lv_at hl 1 rfl) ?_
              refine va_get (D := (dC, dI)) (ci := 3) (v := .ref aUT) (C := RX3) (T := TX3) (N := 4) hx hb hts k1 hown hK hP 0 rfl rfl 1 (by decide) k5 (fun _ h9 => h9) rfl dX3_shortenAll_44 ?_
              refine lv_iload hx hb dX3_shortenAll_47 (lv_at hl 0 rfl) ?_
              obtain ⟨t10, e9, g⟩ := bd g
              refine q_zald hx hb hK hP 7 1 rfl rfl e9 dX3_shortenAll_49 ?_
              refine lv_if_eq (tgt := 65) hx hb dX3_shortenAll_50 (by decide) (fun c9 => ?_) (fun c9 => ?_)
              · have g := ipos c9 g
                refine lv_aload_n hx hb dX3_shortenAll_65 rfl (lv_at hl 1 rfl) ?_
                refine va_get (D := (dC, dI)) (ci := 3) (v := .ref nw) (C := RX3) (T := TX3) (N := 4) hx hb hts k1 hown hK hP 0 rfl rfl 0 (by decide) k0 (fun _ h9 => h9) rfl dX3_shortenAll_66 ?_
                refine va_get (D := (dC, dI)) (ci := 2) (v := .ref aF) (C := RX2) (T := TX2) (N := 7) hx hb hts k3 hown hK hP 1 rfl rfl 2 (by decide) k6 (fun _ h9 => h9) rfl dX3_shortenAll_69 ?_
                refine lv_iload_n hx hb dX3_shortenAll_72 rfl (lv_at hl 4 rfl) ?_
                obtain ⟨t11, e9, g⟩ := bd g
                refine q_iald hx hb hK hP 2 0 rfl rfl e9 dX3_shortenAll_73 ?_
                refine lv_istore (lv' := [(6, .int t11), (5, .int (((x3_2 * 15) + x4_6) - 1)), (0, .ref uc), (1, .int p0), (2, .int x2_5), (3, .int x3_2), (4, .int x4_6)]) hx hb dX3_shortenAll_74 hl (by decide) rfl (fun ls hl => ?_)
                refine lv_aload_n hx hb dX3_shortenAll_76 rfl (lv_at hl 2 rfl) ?_
                refine va_get (D := (dC, dI)) (ci := 3) (v := .ref aUT) (C := RX3) (T := TX3) (N := 4) hx hb hts k1 hown hK hP 0 rfl rfl 1 (by decide) k5 (fun _ h9 => h9) rfl dX3_shortenAll_77 ?_
                refine lv_iload hx hb dX3_shortenAll_80 (lv_at hl 1 rfl) ?_
                obtain ⟨t12, e9, g⟩ := bd g
                refine q_zald hx hb hK hP 7 1 rfl rfl e9 dX3_shortenAll_82 ?_
                refine lv_if_eq (tgt := 98) hx hb dX3_shortenAll_83 (by decide) (fun c9 => ?_) (fun c9 => ?_)
                · have g := ipos c9 g
                  refine lv_aload_n hx hb dX3_shortenAll_98 rfl (lv_at hl 2 rfl) ?_
                  refine va_get (D := (dC, dI)) (ci := 3) (v := .ref nw) (C := RX3) (T := TX3) (N := 4) hx hb hts k1 hown hK hP 0 rfl rfl 0 (by decide) k0 (fun _ h9 => h9) rfl dX3_shortenAll_99 ?_
                  refine va_get (D := (dC, dI)) (ci := 2) (v := .ref aT) (C := RX2) (T := TX2) (N := 7) hx hb hts k3 hown hK hP 1 rfl rfl 3 (by decide) k7 (fun _ h9 => h9) rfl dX3_shortenAll_102 ?_
                  refine lv_iload_n hx hb dX3_shortenAll_105 rfl (lv_at hl 5 rfl) ?_
                  obtain ⟨t13, e9, g⟩ := bd g
                  refine q_iald hx hb hK hP 3 0 rfl rfl e9 dX3_shortenAll_106 ?_
                  refine lv_istore (lv' := [(7, .int t13), (6, .int t11), (5, .int (((x3_2 * 15) + x4_6) - 1)), (0, .ref uc), (1, .int p0), (2, .int x2_5), (3, .int x3_2), (4, .int x4_6)]) hx hb dX3_shortenAll_107 hl (by decide) rfl (fun ls hl => ?_)
                  refine lv_iload_n hx hb dX3_shortenAll_109 rfl (lv_at hl 4 rfl) ?_
                  refine lv_if_eq (tgt := 126) hx hb dX3_shortenAll_110 (by decide) (fun c9 => ?_) (fun c9 => ?_)
                  · have g := ipos c9 g
                    refine lv_iconst (v := 0) hx hb dX3_shortenAll_126 (by decide) ?_
                    refine lv_istore (lv' := [(8, .int 0), (7, .int t13), (6, .int t11), (5, .int (((x3_2 * 15) + x4_6) - 1)), (0, .ref uc), (1, .int p0), (2, .int x2_5), (3, .int x3_2), (4, .int x4_6)]) hx hb dX3_shortenAll_127 hl (by decide) rfl (fun ls hl => ?_)
                    refine lv_aload_n hx hb dX3_shortenAll_129 rfl (lv_at hl 4 rfl) ?_
                    refine va_get (D := (dC, dI)) (ci := 3) (v := .ref aUD) (C := RX3) (T := TX3) (N := 4) hx hb hts k1 hown hK hP 0 rfl rfl 2 (by decide) k8 (fun _ h9 => h9) rfl dX3_shortenAll_130 ?_
                    refine lv_iload hx hb dX3_shortenAll_133 (lv_at hl 2 rfl) ?_
                    obtain ⟨t14, e9, g⟩ := bd g
                    refine q_iald hx hb hK hP 8 0 rfl rfl e9 dX3_shortenAll_135 ?_
                    refine lv_aload_n hx hb dX3_shortenAll_136 rfl (lv_at hl 4 rfl) ?_
                    refine va_get (D := (dC, dI)) (ci := 3) (v := .ref aUT) (C := RX3) (T := TX3) (N := 4) hx hb hts k1 hown hK hP 0 rfl rfl 1 (by decide) k5 (fun _ h9 => h9) rfl dX3_shortenAll_137 ?_
                    refine lv_iload hx hb dX3_shortenAll_140 (lv_at hl 3 rfl) ?_
                    obtain ⟨t15, e9, g⟩ := bd g
                    refine q_zald hx hb hK hP 7 1 rfl rfl e9 dX3_shortenAll_142 ?_
                    refine lv_if_eq (tgt := 152) hx hb dX3_shortenAll_143 (by decide) (fun c9 => ?_) (fun c9 => ?_)
                    · have g := ipos c9 g
                      refine lv_iload hx hb dX3_shortenAll_152 (lv_at hl 0 rfl) ?_
                      refine lv_iadd hx hb dX3_shortenAll_154 ?_
                      refine lv_istore (lv' := [(9, .int (t14 + 0)), (8, .int 0), (7, .int t13), (6, .int t11), (5, .int (((x3_2 * 15) + x4_6) - 1)), (0, .ref uc), (1, .int p0), (2, .int x2_5), (3, .int x3_2), (4, .int x4_6)]) hx hb dX3_shortenAll_155 hl (by decide) rfl (fun ls hl => ?_)
                      refine lv_aload_n hx hb dX3_shortenAll_157 rfl (lv_at hl 5 rfl) ?_
                      refine va_get (D := (dC, dI)) (ci := 3) (v := .ref aUD) (C := RX3) (T := TX3) (N := 4) hx hb hts k1 hown hK hP 0 rfl rfl 2 (by decide) k8 (fun _ h9 => h9) rfl dX3_shortenAll_158 ?_
                      refine lv_iload hx hb dX3_shortenAll_161 (lv_at hl 3 rfl) ?_
                      obtain ⟨t16, e9, g⟩ := bd g
                      refine q_iald hx hb hK hP 8 0 rfl rfl e9 dX3_shortenAll_163 ?_
                      refine lv_ldc (own := RX3) (v := 1000000) hx hb hown k9 dX3_shortenAll_164 ?_
                      refine lv_icmp_ge (tgt := 202) hx hb dX3_shortenAll_166 (by decide) (fun c9 => ?_) (fun c9 => ?_)
                      · have g := ipos c9 g
                        refine lv_iinc (v := x4_6 + 1) (lv' := [(4, .int (x4_6 + 1)), (9, .int (t14 + 0)), (8, .int 0), (7, .int t13), (6, .int t11), (5, .int (((x3_2 * 15) + x4_6) - 1)), (0, .ref uc), (1, .int p0), (2, .int x2_5), (3, .int x3_2)]) hx hb dX3_shortenAll_202 hl (k := 9) rfl (by rfl) (by decide) rfl (fun ls hl => ?_)
                        refine lv_goto (tgt := 18) hx hb dX3_shortenAll_205 (by decide) ?_
                        cases g
                        exact ih1 _ _ _ _ h _ _ hP hD hS _ (lv_sub hl [6, 7, 8, 9, 0] rfl)
                      · have g := ineg c9 g
                        refine lv_iload hx hb dX3_shortenAll_169 (lv_at hl 0 rfl) ?_
                        refine lv_aload_n hx hb dX3_shortenAll_171 rfl (lv_at hl 5 rfl) ?_
                        refine va_get (D := (dC, dI)) (ci := 3) (v := .ref aUD) (C := RX3) (T := TX3) (N := 4) hx hb hts k1 hown hK hP 0 rfl rfl 2 (by decide) k8 (fun _ h9 => h9) rfl dX3_shortenAll_172 ?_
                        refine lv_iload hx hb dX3_shortenAll_175 (lv_at hl 2 rfl) ?_
                        obtain ⟨t17, e9, g⟩ := bd g
                        refine q_iald hx hb hK hP 8 0 rfl rfl e9 dX3_shortenAll_177 ?_
                        refine lv_icmp_ge (tgt := 202) hx hb dX3_shortenAll_178 (by decide) (fun c9 => ?_) (fun c9 => ?_)
                        · have g := ipos c9 g
                          refine lv_iinc (v := x4_6 + 1) (lv' := [(4, .int (x4_6 + 1)), (9, .int (t14 + 0)), (8, .int 0), (7, .int t13), (6, .int t11), (5, .int (((x3_2 * 15) + x4_6) - 1)), (0, .ref uc), (1, .int p0), (2, .int x2_5), (3, .int x3_2)]) hx hb dX3_shortenAll_202 hl (k := 9) rfl (by rfl) (by decide) rfl (fun ls hl => ?_)
                          refine lv_goto (tgt := 18) hx hb dX3_shortenAll_205 (by decide) ?_
                          cases g
                          exact ih1 _ _ _ _ h _ _ hP hD hS _ (lv_sub hl [6, 7, 8, 9, 0] rfl)
                        · have g := ineg c9 g
                          refine lv_aload_n hx hb dX3_shortenAll_181 rfl (lv_at hl 5 rfl) ?_
                          refine va_get (D := (dC, dI)) (ci := 3) (v := .ref aUD) (C := RX3) (T := TX3) (N := 4) hx hb hts k1 hown hK hP 0 rfl rfl 2 (by decide) k8 (fun _ h9 => h9) rfl dX3_shortenAll_182 ?_
                          refine lv_iload hx hb dX3_shortenAll_185 (lv_at hl 2 rfl) ?_
                          refine lv_iload hx hb dX3_shortenAll_187 (lv_at hl 0 rfl) ?_
                          obtain ⟨uD_18, e9, g⟩ := bd g
                          refine q_iast (ws2 := wX3 cyI cyZ uc nw aF aT aP aC aU aUT aUD aUB nN nA nF nT nP nC nU uT uD_18 uB_8) hx hb hK hP hD hS 8 0 rfl rfl e9 dX3_shortenAll_189 rfl (fun H locs hP hD hS => ?_)
                          refine lv_aload_n hx hb dX3_shortenAll_190 rfl (lv_at hl 5 rfl) ?_
                          refine va_get (D := (dC, dI)) (ci := 3) (v := .ref aUB) (C := RX3) (T := TX3) (N := 4) hx hb hts k1 hown hK hP 0 rfl rfl 3 (by decide) k10 (fun _ h9 => h9) rfl dX3_shortenAll_191 ?_
                          refine lv_iload hx hb dX3_shortenAll_194 (lv_at hl 2 rfl) ?_
                          refine lv_iload hx hb dX3_shortenAll_196 (lv_at hl 4 rfl) ?_
                          obtain ⟨uB_19, e9, g⟩ := bd g
                          refine q_iast (ws2 := wX3 cyI cyZ uc nw aF aT aP aC aU aUT aUD aUB nN nA nF nT nP nC nU uT uD_18 uB_19) hx hb hK hP hD hS 9 0 rfl rfl e9 dX3_shortenAll_198 rfl (fun H locs hP hD hS => ?_)
                          refine lv_iload hx hb dX3_shortenAll_199 (lv_at hl 2 rfl) ?_
                          refine lv_istore_n (lv' := [(2, .int t13), (9, .int (t14 + 0)), (8, .int 0), (7, .int t13), (6, .int t11), (5, .int (((x3_2 * 15) + x4_6) - 1)), (0, .ref uc), (1, .int p0), (3, .int x3_2), (4, .int x4_6)]) hx hb dX3_shortenAll_201 rfl hl (by decide) rfl (fun ls hl => ?_)
                          refine lv_iinc (v := x4_6 + 1) (lv' := [(4, .int (x4_6 + 1)), (2, .int t13), (9, .int (t14 + 0)), (8, .int 0), (7, .int t13), (6, .int t11), (5, .int (((x3_2 * 15) + x4_6) - 1)), (0, .ref uc), (1, .int p0), (3, .int x3_2)]) hx hb dX3_shortenAll_202 hl (k := 9) rfl (by rfl) (by decide) rfl (fun ls hl => ?_)
                          refine lv_goto (tgt := 18) hx hb dX3_shortenAll_205 (by decide) ?_
                          cases g
                          exact ih1 _ _ _ _ h _ _ hP hD hS _ (lv_sub hl [7, 8, 1, 9, 0] rfl)
                    · have g := ineg c9 g
                      refine lv_iload hx hb dX3_shortenAll_146 (lv_at hl 0 rfl) ?_
                      refine lv_ineg hx hb dX3_shortenAll_148 ?_
                      refine lv_goto (tgt := 154) hx hb dX3_shortenAll_149 (by decide) ?_
                      refine lv_iadd hx hb dX3_shortenAll_154 ?_
                      refine lv_istore (lv' := [(9, .int (t14 + (-0))), (8, .int 0), (7, .int t13), (6, .int t11), (5, .int (((x3_2 * 15) + x4_6) - 1)), (0, .ref uc), (1, .int p0), (2, .int x2_5), (3, .int x3_2), (4, .int x4_6)]) hx hb dX3_shortenAll_155 hl (by decide) rfl (fun ls hl => ?_)
                      refine lv_aload_n hx hb dX3_shortenAll_157 rfl (lv_at hl 5 rfl) ?_
                      refine va_get (D := (dC, dI)) (ci := 3) (v := .ref aUD) (C := RX3) (T := TX3) (N := 4) hx hb hts k1 hown hK hP 0 rfl rfl 2 (by decide) k8 (fun _ h9 => h9) rfl dX3_shortenAll_158 ?_
                      refine lv_iload hx hb dX3_shortenAll_161 (lv_at hl 3 rfl) ?_
                      obtain ⟨t20, e9, g⟩ := bd g
                      refine q_iald hx hb hK hP 8 0 rfl rfl e9 dX3_shortenAll_163 ?_
                      refine lv_ldc (own := RX3) (v := 1000000) hx hb hown k9 dX3_shortenAll_164 ?_
                      refine lv_icmp_ge (tgt := 202) hx hb dX3_shortenAll_166 (by decide) (fun c9 => ?_) (fun c9 => ?_)
                      · have g := ipos c9 g
                        refine lv_iinc (v := x4_6 + 1) (lv' := [(4, .int (x4_6 + 1)), (9, .int (t14 + (-0))), (8, .int 0), (7, .int t13), (6, .int t11), (5, .int (((x3_2 * 15) + x4_6) - 1)), (0, .ref uc), (1, .int p0), (2, .int x2_5), (3, .int x3_2)]) hx hb dX3_shortenAll_202 hl (k := 9) rfl (by rfl) (by decide) rfl (fun ls hl => ?_)
                        refine lv_goto (tgt := 18) hx hb dX3_shortenAll_205 (by decide) ?_
                        cases g
                        exact ih1 _ _ _ _ h _ _ hP hD hS _ (lv_sub hl [6, 7, 8, 9, 0] rfl)
                      · have g := ineg c9 g
                        refine lv_iload hx hb dX3_shortenAll_169 (lv_at hl 0 rfl) ?_
                        refine lv_aload_n hx hb dX3_shortenAll_171 rfl (lv_at hl 5 rfl) ?_
                        refine va_get (D := (dC, dI)) (ci := 3) (v := .ref aUD) (C := RX3) (T := TX3) (N := 4) hx hb hts k1 hown hK hP 0 rfl rfl 2 (by decide) k8 (fun _ h9 => h9) rfl dX3_shortenAll_172 ?_
                        refine lv_iload hx hb dX3_shortenAll_175 (lv_at hl 2 rfl) ?_
                        obtain ⟨t21, e9, g⟩ := bd g
                        refine q_iald hx hb hK hP 8 0 rfl rfl e9 dX3_shortenAll_177 ?_
                        refine lv_icmp_ge (tgt := 202) hx hb dX3_shortenAll_178 (by decide) (fun c9 => ?_) (fun c9 => ?_)
                        · have g := ipos c9 g
                          refine lv_iinc (v := x4_6 + 1) (lv' := [(4, .int (x4_6 + 1)), (9, .int (t14 + (-0))), (8, .int 0), (7, .int t13), (6, .int t11), (5, .int (((x3_2 * 15) + x4_6) - 1)), (0, .ref uc), (1, .int p0), (2, .int x2_5), (3, .int x3_2)]) hx hb dX3_shortenAll_202 hl (k := 9) rfl (by rfl) (by decide) rfl (fun ls hl => ?_)
                          refine lv_goto (tgt := 18) hx hb dX3_shortenAll_205 (by decide) ?_
                          cases g
                          exact ih1 _ _ _ _ h _ _ hP hD hS _ (lv_sub hl [6, 7, 8, 9, 0] rfl)
                        · have g := ineg c9 g
                          refine lv_aload_n hx hb dX3_shortenAll_181 rfl (lv_at hl 5 rfl) ?_
                          refine va_get (D := (dC, dI)) (ci := 3) (v := .ref aUD) (C := RX3) (T := TX3) (N := 4) hx hb hts k1 hown hK hP 0 rfl rfl 2 (by decide) k8 (fun _ h9 => h9) rfl dX3_shortenAll_182 ?_
                          refine lv_iload hx hb dX3_shortenAll_185 (lv_at hl 2 rfl) ?_
                          refine lv_iload hx hb dX3_shortenAll_187 (lv_at hl 0 rfl) ?_
                          obtain ⟨uD_22, e9, g⟩ := bd g
                          refine q_iast (ws2 := wX3 cyI cyZ uc nw aF aT aP aC aU aUT aUD aUB nN nA nF nT nP nC nU uT uD_22 uB_8) hx hb hK hP hD hS 8 0 rfl rfl e9 dX3_shortenAll_189 rfl (fun H locs hP hD hS => ?_)
                          refine lv_aload_n hx hb dX3_shortenAll_190 rfl (lv_at hl 5 rfl) ?_
                          refine va_get (D := (dC, dI)) (ci := 3) (v := .ref aUB) (C := RX3) (T := TX3) (N := 4) hx hb hts k1 hown hK hP 0 rfl rfl 3 (by decide) k10 (fun _ h9 => h9) rfl dX3_shortenAll_191 ?_
                          refine lv_iload hx hb dX3_shortenAll_194 (lv_at hl 2 rfl) ?_
                          refine lv_iload hx hb dX3_shortenAll_196 (lv_at hl 4 rfl) ?_
                          obtain ⟨uB_23, e9, g⟩ := bd g
                          refine q_iast (ws2 := wX3 cyI cyZ uc nw aF aT aP aC aU aUT aUD aUB nN nA nF nT nP nC nU uT uD_22 uB_23) hx hb hK hP hD hS 9 0 rfl rfl e9 dX3_shortenAll_198 rfl (fun H locs hP hD hS => ?_)
                          refine lv_iload hx hb dX3_shortenAll_199 (lv_at hl 2 rfl) ?_
                          refine lv_istore_n (lv' := [(2, .int t13), (9, .int (t14 + (-0))), (8, .int 0), (7, .int t13), (6, .int t11), (5, .int (((x3_2 * 15) + x4_6) - 1)), (0, .ref uc), (1, .int p0), (3, .int x3_2), (4, .int x4_6)]) hx hb dX3_shortenAll_201 rfl hl (by decide) rfl (fun ls hl => ?_)
                          refine lv_iinc (v := x4_6 + 1) (lv' := [(4, .int (x4_6 + 1)), (2, .int t13), (9, .int (t14 + (-0))), (8, .int 0), (7, .int t13), (6, .int t11), (5, .int (((x3_2 * 15) + x4_6) - 1)), (0, .ref uc), (1, .int p0), (3, .int x3_2)]) hx hb dX3_shortenAll_202 hl (k := 9) rfl (by rfl) (by decide) rfl (fun ls hl => ?_)
                          refine lv_goto (tgt := 18) hx hb dX3_shortenAll_205 (by decide) ?_
                          cases g
                          exact ih1 _ _ _ _ h _ _ hP hD hS _ (lv_sub hl [7, 8, 1, 9, 0] rfl)
                  · have g := ineg c9 g
                    refine lv_aload_n hx hb dX3_shortenAll_113 rfl (lv_at hl 3 rfl) ?_
                    refine va_get (D := (dC, dI)) (ci := 3) (v := .ref nw) (C := RX3) (T := TX3) (N := 4) hx hb hts k1 hown hK hP 0 rfl rfl 0 (by decide) k0 (fun _ h9 => h9) rfl dX3_shortenAll_114 ?_
                    refine lv_iload_n hx hb dX3_shortenAll_117 rfl (lv_at hl 6 rfl) ?_
                    refine lv_iload hx hb dX3_shortenAll_118 (lv_at hl 7 rfl) ?_
                    obtain ⟨r24, e9, g⟩ := bd g
                    refine q_callVi (ret := r24) (As := [.int x3_2, .int x4_6]) (w1 := wX2 cyI nw aF aT aP aC aU nN nA nF nT nP nC nU) (ws2 := wX3 cyI cyZ uc nw aF aT aP aC aU aUT aUD aUB nN nA nF nT nP nC nU uT uD_7 uB_8) ⟨hx, hb, hml, hown, hts⟩ (c_X2_unitPrice l dC dI cyI nw aF aT aP aC aU H.size nN nA nF nT nP nC nU x3_2 x4_6 _ e9) (cwV 2 hts gX3_shortenAll_X2_unitPrice rfl rfl rfl (by decide +kernel) ⟨Nat.le_of_ble_eq_true rfl, Nat.le_of_ble_eq_true rfl⟩) hK hP hD hS hA [1, 2, 3, 4, 5, 6] [0, 7, 8, 9] [0, 4, 5, 6, 7, 8, 9, 1, 2, 3] [0] rfl rfl rfl rfl (by decide) rfl rfl rfl 2 0 rfl rfl rfl hl.1 (Nat.le_of_ble_eq_true rfl) (Nat.le_of_ble_eq_true rfl) (Nat.le_of_ble_eq_true rfl) rfl dX3_shortenAll_120 (fun H locs hP hD hS => ?_)
                    refine lv_goto (tgt := 127) hx hb dX3_shortenAll_123 (by decide) ?_
                    refine lv_istore (lv' := [(8, .int r24), (7, .int t13), (6, .int t11), (5, .int (((x3_2 * 15) + x4_6) - 1)), (0, .ref uc), (1, .int p0), (2, .int x2_5), (3, .int x3_2), (4, .int x4_6)]) hx hb dX3_shortenAll_127 hl (by decide) rfl (fun ls hl => ?_)
                    refine lv_aload_n hx hb dX3_shortenAll_129 rfl (lv_at hl 4 rfl) ?_
                    refine va_get (D := (dC, dI)) (ci := 3) (v := .ref aUD) (C := RX3) (T := TX3) (N := 4) hx hb hts k1 hown hK hP 0 rfl rfl 2 (by decide) k8 (fun _ h9 => h9) rfl dX3_shortenAll_130 ?_
                    refine lv_iload hx hb dX3_shortenAll_133 (lv_at hl 2 rfl) ?_
                    obtain ⟨t25, e9, g⟩ := bd g
                    refine q_iald hx hb hK hP 8 0 rfl rfl e9 dX3_shortenAll_135 ?_
                    refine lv_aload_n hx hb dX3_shortenAll_136 rfl (lv_at hl 4 rfl) ?_
                    refine va_get (D := (dC, dI)) (ci := 3) (v := .ref aUT) (C := RX3) (T := TX3) (N := 4) hx hb hts k1 hown hK hP 0 rfl rfl 1 (by decide) k5 (fun _ h9 => h9) rfl dX3_shortenAll_137 ?_
                    refine lv_iload hx hb dX3_shortenAll_140 (lv_at hl 3 rfl) ?_
                    obtain ⟨t26, e9, g⟩ := bd g
                    refine q_zald hx hb hK hP 7 1 rfl rfl e9 dX3_shortenAll_142 ?_
                    refine lv_if_eq (tgt := 152) hx hb dX3_shortenAll_143 (by decide) (fun c9 => ?_) (fun c9 => ?_)
                    · have g := ipos c9 g
                      refine lv_iload hx hb dX3_shortenAll_152 (lv_at hl 0 rfl) ?_
                      refine lv_iadd hx hb dX3_shortenAll_154 ?_
                      refine lv_istore (lv' := [(9, .int (t25 + r24)), (8, .int r24), (7, .int t13), (6, .int t11), (5, .int (((x3_2 * 15) + x4_6) - 1)), (0, .ref uc), (1, .int p0), (2, .int x2_5), (3, .int x3_2), (4, .int x4_6)]) hx hb dX3_shortenAll_155 hl (by decide) rfl (fun ls hl => ?_)
                      refine lv_aload_n hx hb dX3_shortenAll_157 rfl (lv_at hl 5 rfl) ?_
                      refine va_get (D := (dC, dI)) (ci := 3) (v := .ref aUD) (C := RX3) (T := TX3) (N := 4) hx hb hts k1 hown hK hP 0 rfl rfl 2 (by decide) k8 (fun _ h9 => h9) rfl dX3_shortenAll_158 ?_
                      refine lv_iload hx hb dX3_shortenAll_161 (lv_at hl 3 rfl) ?_
                      obtain ⟨t27, e9, g⟩ := bd g
                      refine q_iald hx hb hK hP 8 0 rfl rfl e9 dX3_shortenAll_163 ?_
                      refine lv_ldc (own := RX3) (v := 1000000) hx hb hown k9 dX3_shortenAll_164 ?_
                      refine lv_icmp_ge (tgt := 202) hx hb dX3_shortenAll_166 (by decide) (fun c9 => ?_) (fun c9 => ?_)
                      · have g := ipos c9 g
                        refine lv_iinc (v := x4_6 + 1) (lv' := [(4, .int (x4_6 + 1)), (9, .int (t25 + r24)), (8, .int r24), (7, .int t13), (6, .int t11), (5, .int (((x3_2 * 15) + x4_6) - 1)), (0, .ref uc), (1, .int p0), (2, .int x2_5), (3, .int x3_2)]) hx hb dX3_shortenAll_202 hl (k := 9) rfl (by rfl) (by decide) rfl (fun ls hl => ?_)
                        refine lv_goto (tgt := 18) hx hb dX3_shortenAll_205 (by decide) ?_
                        cases g
                        exact ih1 _ _ _ _ h _ _ hP hD hS _ (lv_sub hl [6, 7, 8, 9, 0] rfl)
                      · have g := ineg c9 g
                        refine lv_iload hx hb dX3_shortenAll_169 (lv_at hl 0 rfl) ?_
                        refine lv_aload_n hx hb dX3_shortenAll_171 rfl (lv_at hl 5 rfl) ?_
                        refine va_get (D := (dC, dI)) (ci := 3) (v := .ref aUD) (C := RX3) (T := TX3) (N := 4) hx hb hts k1 hown hK hP 0 rfl rfl 2 (by decide) k8 (fun _ h9 => h9) rfl dX3_shortenAll_172 ?_
                        refine lv_iload hx hb dX3_shortenAll_175 (lv_at hl 2 rfl) ?_
                        obtain ⟨t28, e9, g⟩ := bd g
                        refine q_iald hx hb hK hP 8 0 rfl rfl e9 dX3_shortenAll_177 ?_
                        refine lv_icmp_ge (tgt := 202) hx hb dX3_shortenAll_178 (by decide) (fun c9 => ?_) (fun c9 => ?_)
                        · have g := ipos c9 g
                          refine lv_iinc (v := x4_6 + 1) (lv' := [(4, .int (x4_6 + 1)), (9, .int (t25 + r24)), (8, .int r24), (7, .int t13), (6, .int t11), (5, .int (((x3_2 * 15) + x4_6) - 1)), (0, .ref uc), (1, .int p0), (2, .int x2_5), (3, .int x3_2)]) hx hb dX3_shortenAll_202 hl (k := 9) rfl (by rfl) (by decide) rfl (fun ls hl => ?_)
                          refine lv_goto (tgt := 18) hx hb dX3_shortenAll_205 (by decide) ?_
                          cases g
                          exact ih1 _ _ _ _ h _ _ hP hD hS _ (lv_sub hl [6, 7, 8, 9, 0] rfl)
                        · have g := ineg c9 g
                          refine lv_aload_n hx hb dX3_shortenAll_181 rfl (lv_at hl 5 rfl) ?_
                          refine va_get (D := (dC, dI)) (ci := 3) (v := .ref aUD) (C := RX3) (T := TX3) (N := 4) hx hb hts k1 hown hK hP 0 rfl rfl 2 (by decide) k8 (fun _ h9 => h9) rfl dX3_shortenAll_182 ?_
                          refine lv_iload hx hb dX3_shortenAll_185 (lv_at hl 2 rfl) ?_
                          refine lv_iload hx hb dX3_shortenAll_187 (lv_at hl 0 rfl) ?_
                          obtain ⟨uD_29, e9, g⟩ := bd g
                          refine q_iast (ws2 := wX3 cyI cyZ uc nw aF aT aP aC aU aUT aUD aUB nN nA nF nT nP nC nU uT uD_29 uB_8) hx hb hK hP hD hS 8 0 rfl rfl e9 dX3_shortenAll_189 rfl (fun H locs hP hD hS => ?_)
                          refine lv_aload_n hx hb dX3_shortenAll_190 rfl (lv_at hl 5 rfl) ?_
                          refine va_get (D := (dC, dI)) (ci := 3) (v := .ref aUB) (C := RX3) (T := TX3) (N := 4) hx hb hts k1 hown hK hP 0 rfl rfl 3 (by decide) k10 (fun _ h9 => h9) rfl dX3_shortenAll_191 ?_
                          refine lv_iload hx hb dX3_shortenAll_194 (lv_at hl 2 rfl) ?_
                          refine lv_iload hx hb dX3_shortenAll_196 (lv_at hl 4 rfl) ?_
                          obtain ⟨uB_30, e9, g⟩ := bd g
                          refine q_iast (ws2 := wX3 cyI cyZ uc nw aF aT aP aC aU aUT aUD aUB nN nA nF nT nP nC nU uT uD_29 uB_30) hx hb hK hP hD hS 9 0 rfl rfl e9 dX3_shortenAll_198 rfl (fun H locs hP hD hS => ?_)
                          refine lv_iload hx hb dX3_shortenAll_199 (lv_at hl 2 rfl) ?_
                          refine lv_istore_n (lv' := [(2, .int t13), (9, .int (t25 + r24)), (8, .int r24), (7, .int t13), (6, .int t11), (5, .int (((x3_2 * 15) + x4_6) - 1)), (0, .ref uc), (1, .int p0), (3, .int x3_2), (4, .int x4_6)]) hx hb dX3_shortenAll_201 rfl hl (by decide) rfl (fun ls hl => ?_)
                          refine lv_iinc (v := x4_6 + 1) (lv' := [(4, .int (x4_6 + 1)), (2, .int t13), (9, .int (t25 + r24)), (8, .int r24), (7, .int t13), (6, .int t11), (5, .int (((x3_2 * 15) + x4_6) - 1)), (0, .ref uc), (1, .int p0), (3, .int x3_2)]) hx hb dX3_shortenAll_202 hl (k := 9) rfl (by rfl) (by decide) rfl (fun ls hl => ?_)
                          refine lv_goto (tgt := 18) hx hb dX3_shortenAll_205 (by decide) ?_
                          cases g
                          exact ih1 _ _ _ _ h _ _ hP hD hS _ (lv_sub hl [7, 8, 1, 9, 0] rfl)
                    · have g := ineg c9 g
                      refine lv_iload hx hb dX3_shortenAll_146 (lv_at hl 0 rfl) ?_
                      refine lv_ineg hx hb dX3_shortenAll_148 ?_
                      refine lv_goto (tgt := 154) hx hb dX3_shortenAll_149 (by decide) ?_
                      refine lv_iadd hx hb dX3_shortenAll_154 ?_
                      refine lv_istore (lv' := [(9, .int (t25 + (-r24))), (8, .int r24), (7, .int t13), (6, .int t11), (5, .int (((x3_2 * 15) + x4_6) - 1)), (0, .ref uc), (1, .int p0), (2, .int x2_5), (3, .int x3_2), (4, .int x4_6)]) hx hb dX3_shortenAll_155 hl (by decide) rfl (fun ls hl => ?_)
                      refine lv_aload_n hx hb dX3_shortenAll_157 rfl (lv_at hl 5 rfl) ?_
                      refine va_get (D := (dC, dI)) (ci := 3) (v := .ref aUD) (C := RX3) (T := TX3) (N := 4) hx hb hts k1 hown hK hP 0 rfl rfl 2 (by decide) k8 (fun _ h9 => h9) rfl dX3_shortenAll_158 ?_
                      refine lv_iload hx hb dX3_shortenAll_161 (lv_at hl 3 rfl) ?_
                      obtain ⟨t31, e9, g⟩ := bd g
                      refine q_iald hx hb hK hP 8 0 rfl rfl e9 dX3_shortenAll_163 ?_
                      refine lv_ldc (own := RX3) (v := 1000000) hx hb hown k9 dX3_shortenAll_164 ?_
                      refine lv_icmp_ge (tgt := 202) hx hb dX3_shortenAll_166 (by decide) (fun c9 => ?_) (fun c9 => ?_)
                      · have g := ipos c9 g
                        refine lv_iinc (v := x4_6 + 1) (lv' := [(4, .int (x4_6 + 1)), (9, .int (t25 + (-r24))), (8, .int r24), (7, .int t13), (6, .int t11), (5, .int (((x3_2 * 15) + x4_6) - 1)), (0, .ref uc), (1, .int p0), (2, .int x2_5), (3, .int x3_2)]) hx hb dX3_shortenAll_202 hl (k := 9) rfl (by rfl) (by decide) rfl (fun ls hl => ?_)
                        refine lv_goto (tgt := 18) hx hb dX3_shortenAll_205 (by decide) ?_
                        cases g
                        exact ih1 _ _ _ _ h _ _ hP hD hS _ (lv_sub hl [6, 7, 8, 9, 0] rfl)
                      · have g := ineg c9 g
                        refine lv_iload hx hb dX3_shortenAll_169 (lv_at hl 0 rfl) ?_
                        refine lv_aload_n hx hb dX3_shortenAll_171 rfl (lv_at hl 5 rfl) ?_
                        refine va_get (D := (dC, dI)) (ci := 3) (v := .ref aUD) (C := RX3) (T := TX3) (N := 4) hx hb hts k1 hown hK hP 0 rfl rfl 2 (by decide) k8 (fun _ h9 => h9) rfl dX3_shortenAll_172 ?_
                        refine lv_iload hx hb dX3_shortenAll_175 (lv_at hl 2 rfl) ?_
                        obtain ⟨t32, e9, g⟩ := bd g
                        refine q_iald hx hb hK hP 8 0 rfl rfl e9 dX3_shortenAll_177 ?_
                        refine lv_icmp_ge (tgt := 202) hx hb dX3_shortenAll_178 (by decide) (fun c9 => ?_) (fun c9 => ?_)
                        · have g := ipos c9 g
                          refine lv_iinc (v := x4_6 + 1) (lv' := [(4, .int (x4_6 + 1)), (9, .int (t25 + (-r24))), (8, .int r24), (7, .int t13), (6, .int t11), (5, .int (((x3_2 * 15) + x4_6) - 1)), (0, .ref uc), (1, .int p0), (2, .int x2_5), (3, .int x3_2)]) hx hb dX3_shortenAll_202 hl (k := 9) rfl (by rfl) (by decide) rfl (fun ls hl => ?_)
                          refine lv_goto (tgt := 18) hx hb dX3_shortenAll_205 (by decide) ?_
                          cases g
                          exact ih1 _ _ _ _ h _ _ hP hD hS _ (lv_sub hl [6, 7, 8, 9, 0] rfl)
                        · have g := ineg c9 g
                          refine lv_aload_n hx hb dX3_shortenAll_181 rfl (lv_at hl 5 rfl) ?_
                          refine va_get (D := (dC, dI)) (ci := 3) (v := .ref aUD) (C := RX3) (T := TX3) (N := 4) hx hb hts k1 hown hK hP 0 rfl rfl 2 (by decide) k8 (fun _ h9 => h9) rfl dX3_shortenAll_182 ?_
                          refine lv_iload hx hb dX3_shortenAll_185 (lv_at hl 2 rfl) ?_
                          refine lv_iload hx hb dX3_shortenAll_187 (lv_at hl 0 rfl) ?_
                          obtain ⟨uD_33, e9, g⟩ := bd g
                          refine q_iast (ws2 := wX3 cyI cyZ uc nw aF aT aP aC aU aUT aUD aUB nN nA nF nT nP nC nU uT uD_33 uB_8) hx hb hK hP hD hS 8 0 rfl rfl e9 dX3_shortenAll_189 rfl (fun H locs hP hD hS => ?_)
                          refine lv_aload_n hx hb dX3_shortenAll_190 rfl (lv_at hl 5 rfl) ?_
                          refine va_get (D := (dC, dI)) (ci := 3) (v := .ref aUB) (C := RX3) (T := TX3) (N := 4) hx hb hts k1 hown hK hP 0 rfl rfl 3 (by decide) k10 (fun _ h9 => h9) rfl dX3_shortenAll_191 ?_
                          refine lv_iload hx hb dX3_shortenAll_194 (lv_at hl 2 rfl) ?_
                          refine lv_iload hx hb dX3_shortenAll_196 (lv_at hl 4 rfl) ?_
                          obtain ⟨uB_34, e9, g⟩ := bd g
                          refine q_iast (ws2 := wX3 cyI cyZ uc nw aF aT aP aC aU aUT aUD aUB nN nA nF nT nP nC nU uT uD_33 uB_34) hx hb hK hP hD hS 9 0 rfl rfl e9 dX3_shortenAll_198 rfl (fun H locs hP hD hS => ?_)
                          refine lv_iload hx hb dX3_shortenAll_199 (lv_at hl 2 rfl) ?_
                          refine lv_istore_n (lv' := [(2, .int t13), (9, .int (t25 + (-r24))), (8, .int r24), (7, .int t13), (6, .int t11), (5, .int (((x3_2 * 15) + x4_6) - 1)), (0, .ref uc), (1, .int p0), (3, .int x3_2), (4, .int x4_6)]) hx hb dX3_shortenAll_201 rfl hl (by decide) rfl (fun ls hl => ?_)
                          refine lv_iinc (v := x4_6 + 1) (lv' := [(4, .int (x4_6 + 1)), (2, .int t13), (9, .int (t25 + (-r24))), (8, .int r24), (7, .int t13), (6, .int t11), (5, .int (((x3_2 * 15) + x4_6) - 1)), (0, .ref uc), (1, .int p0), (3, .int x3_2)]) hx hb dX3_shortenAll_202 hl (k := 9) rfl (by rfl) (by decide) rfl (fun ls hl => ?_)
                          refine lv_goto (tgt := 18) hx hb dX3_shortenAll_205 (by decide) ?_
                          cases g
                          exact ih1 _ _ _ _ h _ _ hP hD hS _ (lv_sub hl [7, 8, 1, 9, 0] rfl)
                · have g := ineg c9 g
                  refine lv_aload_n hx hb dX3_shortenAll_86 rfl (lv_at hl 2 rfl) ?_
                  refine va_get (D := (dC, dI)) (ci := 3) (v := .ref nw) (C := RX3) (T := TX3) (N := 4) hx hb hts k1 hown hK hP 0 rfl rfl 0 (by decide) k0 (fun _ h9 => h9) rfl dX3_shortenAll_87 ?_
                  refine va_get (D := (dC, dI)) (ci := 2) (v := .ref aF) (C := RX2) (T := TX2) (N := 7) hx hb hts k3 hown hK hP 1 rfl rfl 2 (by decide) k6 (fun _ h9 => h9) rfl dX3_shortenAll_90 ?_
                  refine lv_iload_n hx hb dX3_shortenAll_93 rfl (lv_at hl 5 rfl) ?_
                  obtain ⟨t35, e9, g⟩ := bd g
                  refine q_iald hx hb hK hP 2 0 rfl rfl e9 dX3_shortenAll_94 ?_
                  refine lv_goto (tgt := 107) hx hb dX3_shortenAll_95 (by decide) ?_
                  refine lv_istore (lv' := [(7, .int t35), (6, .int t11), (5, .int (((x3_2 * 15) + x4_6) - 1)), (0, .ref uc), (1, .int p0), (2, .int x2_5), (3, .int x3_2), (4, .int x4_6)]) hx hb dX3_shortenAll_107 hl (by decide) rfl (fun ls hl => ?_)
                  refine lv_iload_n hx hb dX3_shortenAll_109 rfl (lv_at hl 4 rfl) ?_
                  refine lv_if_eq (tgt := 126) hx hb dX3_shortenAll_110 (by decide) (fun c9 => ?_) (fun c9 => ?_)
                  · have g := ipos c9 g
                    refine lv_iconst (v := 0) hx hb dX3_shortenAll_126 (by decide) ?_
                    refine lv_istore (lv' := [(8, .int 0), (7, .int t35), (6, .int t11), (5, .int (((x3_2 * 15) + x4_6) - 1)), (0, .ref uc), (1, .int p0), (2, .int x2_5), (3, .int x3_2), (4, .int x4_6)]) hx hb dX3_shortenAll_127 hl (by decide) rfl (fun ls hl => ?_)
                    refine lv_aload_n hx hb dX3_shortenAll_129 rfl (lv_at hl 4 rfl) ?_
                    refine va_get (D := (dC, dI)) (ci := 3) (v := .ref aUD) (C := RX3) (T := TX3) (N := 4) hx hb hts k1 hown hK hP 0 rfl rfl 2 (by decide) k8 (fun _ h9 => h9) rfl dX3_shortenAll_130 ?_
                    refine lv_iload hx hb dX3_shortenAll_133 (lv_at hl 2 rfl) ?_
                    obtain ⟨t36, e9, g⟩ := bd g
                    refine q_iald hx hb hK hP 8 0 rfl rfl e9 dX3_shortenAll_135 ?_
                    refine lv_aload_n hx hb dX3_shortenAll_136 rfl (lv_at hl 4 rfl) ?_
                    refine va_get (D := (dC, dI)) (ci := 3) (v := .ref aUT) (C := RX3) (T := TX3) (N := 4) hx hb hts k1 hown hK hP 0 rfl rfl 1 (by decide) k5 (fun _ h9 => h9) rfl dX3_shortenAll_137 ?_
                    refine lv_iload hx hb dX3_shortenAll_140 (lv_at hl 3 rfl) ?_
                    obtain ⟨t37, e9, g⟩ := bd g
                    refine q_zald hx hb hK hP 7 1 rfl rfl e9 dX3_shortenAll_142 ?_
                    refine lv_if_eq (tgt := 152) hx hb dX3_shortenAll_143 (by decide) (fun c9 => ?_) (fun c9 => ?_)
                    · have g := ipos c9 g
                      refine lv_iload hx hb dX3_shortenAll_152 (lv_at hl 0 rfl) ?_
                      refine lv_iadd hx hb dX3_shortenAll_154 ?_
                      refine lv_istore (lv' := [(9, .int (t36 + 0)), (8, .int 0), (7, .int t35), (6, .int t11), (5, .int (((x3_2 * 15) + x4_6) - 1)), (0, .ref uc), (1, .int p0), (2, .int x2_5), (3, .int x3_2), (4, .int x4_6)]) hx hb dX3_shortenAll_155 hl (by decide) rfl (fun ls hl => ?_)
                      refine lv_aload_n hx hb dX3_shortenAll_157 rfl (lv_at hl 5 rfl) ?_
                      refine va_get (D := (dC, dI)) (ci := 3) (v := .ref aUD) (C := RX3) (T := TX3) (N := 4) hx hb hts k1 hown hK hP 0 rfl rfl 2 (by decide) k8 (fun _ h9 => h9) rfl dX3_shortenAll_158 ?_
                      refine lv_iload hx hb dX3_shortenAll_161 (lv_at hl 3 rfl) ?_
                      obtain ⟨t38, e9, g⟩ := bd g
                      refine q_iald hx hb hK hP 8 0 rfl rfl e9 dX3_shortenAll_163 ?_
                      refine lv_ldc (own := RX3) (v := 1000000) hx hb hown k9 dX3_shortenAll_164 ?_
                      refine lv_icmp_ge (tgt := 202) hx hb dX3_shortenAll_166 (by decide) (fun c9 => ?_) (fun c9 => ?_)
                      · have g := ipos c9 g
                        refine lv_iinc (v := x4_6 + 1) (lv' := [(4, .int (x4_6 + 1)), (9, .int (t36 + 0)), (8, .int 0), (7, .int t35), (6, .int t11), (5, .int (((x3_2 * 15) + x4_6) - 1)), (0, .ref uc), (1, .int p0), (2, .int x2_5), (3, .int x3_2)]) hx hb dX3_shortenAll_202 hl (k := 9) rfl (by rfl) (by decide) rfl (fun ls hl => ?_)
                        refine lv_goto (tgt := 18) hx hb dX3_shortenAll_205 (by decide) ?_
                        cases g
                        exact ih1 _ _ _ _ h _ _ hP hD hS _ (lv_sub hl [6, 7, 8, 9, 0] rfl)
                      · have g := ineg c9 g
                        refine lv_iload hx hb dX3_shortenAll_169 (lv_at hl 0 rfl) ?_
                        refine lv_aload_n hx hb dX3_shortenAll_171 rfl (lv_at hl 5 rfl) ?_
                        refine va_get (D := (dC, dI)) (ci := 3) (v := .ref aUD) (C := RX3) (T := TX3) (N := 4) hx hb hts k1 hown hK hP 0 rfl rfl 2 (by decide) k8 (fun _ h9 => h9) rfl dX3_shortenAll_172 ?_
                        refine lv_iload hx hb dX3_shortenAll_175 (lv_at hl 2 rfl) ?_
                        obtain ⟨t39, e9, g⟩ := bd g
                        refine q_iald hx hb hK hP 8 0 rfl rfl e9 dX3_shortenAll_177 ?_
                        refine lv_icmp_ge (tgt := 202) hx hb dX3_shortenAll_178 (by decide) (fun c9 => ?_) (fun c9 => ?_)
                        · have g := ipos c9 g
                          refine lv_iinc (v := x4_6 + 1) (lv' := [(4, .int (x4_6 + 1)), (9, .int (t36 + 0)), (8, .int 0), (7, .int t35), (6, .int t11), (5, .int (((x3_2 * 15) + x4_6) - 1)), (0, .ref uc), (1, .int p0), (2, .int x2_5), (3, .int x3_2)]) hx hb dX3_shortenAll_202 hl (k := 9) rfl (by rfl) (by decide) rfl (fun ls hl => ?_)
                          refine lv_goto (tgt := 18) hx hb dX3_shortenAll_205 (by decide) ?_
                          cases g
                          exact ih1 _ _ _ _ h _ _ hP hD hS _ (lv_sub hl [6, 7, 8, 9, 0] rfl)
                        · have g := ineg c9 g
                          refine lv_aload_n hx hb dX3_shortenAll_181 rfl (lv_at hl 5 rfl) ?_
                          refine va_get (D := (dC, dI)) (ci := 3) (v := .ref aUD) (C := RX3) (T := TX3) (N := 4) hx hb hts k1 hown hK hP 0 rfl rfl 2 (by decide) k8 (fun _ h9 => h9) rfl dX3_shortenAll_182 ?_
                          refine lv_iload hx hb dX3_shortenAll_185 (lv_at hl 2 rfl) ?_
                          refine lv_iload hx hb dX3_shortenAll_187 (lv_at hl 0 rfl) ?_
                          obtain ⟨uD_40, e9, g⟩ := bd g
                          refine q_iast (ws2 := wX3 cyI cyZ uc nw aF aT aP aC aU aUT aUD aUB nN nA nF nT nP nC nU uT uD_40 uB_8) hx hb hK hP hD hS 8 0 rfl rfl e9 dX3_shortenAll_189 rfl (fun H locs hP hD hS => ?_)
                          refine lv_aload_n hx hb dX3_shortenAll_190 rfl (lv_at hl 5 rfl) ?_
                          refine va_get (D := (dC, dI)) (ci := 3) (v := .ref aUB) (C := RX3) (T := TX3) (N := 4) hx hb hts k1 hown hK hP 0 rfl rfl 3 (by decide) k10 (fun _ h9 => h9) rfl dX3_shortenAll_191 ?_
                          refine lv_iload hx hb dX3_shortenAll_194 (lv_at hl 2 rfl) ?_
                          refine lv_iload hx hb dX3_shortenAll_196 (lv_at hl 4 rfl) ?_
                          obtain ⟨uB_41, e9, g⟩ := bd g
                          refine q_iast (ws2 := wX3 cyI cyZ uc nw aF aT aP aC aU aUT aUD aUB nN nA nF nT nP nC nU uT uD_40 uB_41) hx hb hK hP hD hS 9 0 rfl rfl e9 dX3_shortenAll_198 rfl (fun H locs hP hD hS => ?_)
                          refine lv_iload hx hb dX3_shortenAll_199 (lv_at hl 2 rfl) ?_
                          refine lv_istore_n (lv' := [(2, .int t35), (9, .int (t36 + 0)), (8, .int 0), (7, .int t35), (6, .int t11), (5, .int (((x3_2 * 15) + x4_6) - 1)), (0, .ref uc), (1, .int p0), (3, .int x3_2), (4, .int x4_6)]) hx hb dX3_shortenAll_201 rfl hl (by decide) rfl (fun ls hl => ?_)
                          refine lv_iinc (v := x4_6 + 1) (lv' := [(4, .int (x4_6 + 1)), (2, .int t35), (9, .int (t36 + 0)), (8, .int 0), (7, .int t35), (6, .int t11), (5, .int (((x3_2 * 15) + x4_6) - 1)), (0, .ref uc), (1, .int p0), (3, .int x3_2)]) hx hb dX3_shortenAll_202 hl (k := 9) rfl (by rfl) (by decide) rfl (fun ls hl => ?_)
                          refine lv_goto (tgt := 18) hx hb dX3_shortenAll_205 (by decide) ?_
                          cases g
                          exact ih1 _ _ _ _ h _ _ hP hD hS _ (lv_sub hl [7, 8, 1, 9, 0] rfl)
                    · have g := ineg c9 g
                      refine lv_iload hx hb dX3_shortenAll_146 (lv_at hl 0 rfl) ?_
                      refine lv_ineg hx hb dX3_shortenAll_148 ?_
                      refine lv_goto (tgt := 154) hx hb dX3_shortenAll_149 (by decide) ?_
                      refine lv_iadd hx hb dX3_shortenAll_154 ?_
                      refine lv_istore (lv' := [(9, .int (t36 + (-0))), (8, .int 0), (7, .int t35), (6, .int t11), (5, .int (((x3_2 * 15) + x4_6) - 1)), (0, .ref uc), (1, .int p0), (2, .int x2_5), (3, .int x3_2), (4, .int x4_6)]) hx hb dX3_shortenAll_155 hl (by decide) rfl (fun ls hl => ?_)
                      refine lv_aload_n hx hb dX3_shortenAll_157 rfl (lv_at hl 5 rfl) ?_
                      refine va_get (D := (dC, dI)) (ci := 3) (v := .ref aUD) (C := RX3) (T := TX3) (N := 4) hx hb hts k1 hown hK hP 0 rfl rfl 2 (by decide) k8 (fun _ h9 => h9) rfl dX3_shortenAll_158 ?_
                      refine lv_iload hx hb dX3_shortenAll_161 (lv_at hl 3 rfl) ?_
                      obtain ⟨t42, e9, g⟩ := bd g
                      refine q_iald hx hb hK hP 8 0 rfl rfl e9 dX3_shortenAll_163 ?_
                      refine lv_ldc (own := RX3) (v := 1000000) hx hb hown k9 dX3_shortenAll_164 ?_
                      refine lv_icmp_ge (tgt := 202) hx hb dX3_shortenAll_166 (by decide) (fun c9 => ?_) (fun c9 => ?_)
                      · have g := ipos c9 g
                        refine lv_iinc (v := x4_6 + 1) (lv' := [(4, .int (x4_6 + 1)), (9, .int (t36 + (-0))), (8, .int 0), (7, .int t35), (6, .int t11), (5, .int (((x3_2 * 15) + x4_6) - 1)), (0, .ref uc), (1, .int p0), (2, .int x2_5), (3, .int x3_2)]) hx hb dX3_shortenAll_202 hl (k := 9) rfl (by rfl) (by decide) rfl (fun ls hl => ?_)
                        refine lv_goto (tgt := 18) hx hb dX3_shortenAll_205 (by decide) ?_
                        cases g
                        exact ih1 _ _ _ _ h _ _ hP hD hS _ (lv_sub hl [6, 7, 8, 9, 0] rfl)
                      · have g := ineg c9 g
                        refine lv_iload hx hb dX3_shortenAll_169 (lv_at hl 0 rfl) ?_
                        refine lv_aload_n hx hb dX3_shortenAll_171 rfl (lv_at hl 5 rfl) ?_
                        refine va_get (D := (dC, dI)) (ci := 3) (v := .ref aUD) (C := RX3) (T := TX3) (N := 4) hx hb hts k1 hown hK hP 0 rfl rfl 2 (by decide) k8 (fun _ h9 => h9) rfl dX3_shortenAll_172 ?_
                        refine lv_iload hx hb dX3_shortenAll_175 (lv_at hl 2 rfl) ?_
                        obtain ⟨t43, e9, g⟩ := bd g
                        refine q_iald hx hb hK hP 8 0 rfl rfl e9 dX3_shortenAll_177 ?_
                        refine lv_icmp_ge (tgt := 202) hx hb dX3_shortenAll_178 (by decide) (fun c9 => ?_) (fun c9 => ?_)
                        · have g := ipos c9 g
                          refine lv_iinc (v := x4_6 + 1) (lv' := [(4, .int (x4_6 + 1)), (9, .int (t36 + (-0))), (8, .int 0), (7, .int t35), (6, .int t11), (5, .int (((x3_2 * 15) + x4_6) - 1)), (0, .ref uc), (1, .int p0), (2, .int x2_5), (3, .int x3_2)]) hx hb dX3_shortenAll_202 hl (k := 9) rfl (by rfl) (by decide) rfl (fun ls hl => ?_)
                          refine lv_goto (tgt := 18) hx hb dX3_shortenAll_205 (by decide) ?_
                          cases g
                          exact ih1 _ _ _ _ h _ _ hP hD hS _ (lv_sub hl [6, 7, 8, 9, 0] rfl)
                        · have g := ineg c9 g
                          refine lv_aload_n hx hb dX3_shortenAll_181 rfl (lv_at hl 5 rfl) ?_
                          refine va_get (D := (dC, dI)) (ci := 3) (v := .ref aUD) (C := RX3) (T := TX3) (N := 4) hx hb hts k1 hown hK hP 0 rfl rfl 2 (by decide) k8 (fun _ h9 => h9) rfl dX3_shortenAll_182 ?_
                          refine lv_iload hx hb dX3_shortenAll_185 (lv_at hl 2 rfl) ?_
                          refine lv_iload hx hb dX3_shortenAll_187 (lv_at hl 0 rfl) ?_
                          obtain ⟨uD_44, e9, g⟩ := bd g
                          refine q_iast (ws2 := wX3 cyI cyZ uc nw aF aT aP aC aU aUT aUD aUB nN nA nF nT nP nC nU uT uD_44 uB_8) hx hb hK hP hD hS 8 0 rfl rfl e9 dX3_shortenAll_189 rfl (fun H locs hP hD hS => ?_)
                          refine lv_aload_n hx hb dX3_shortenAll_190 rfl (lv_at hl 5 rfl) ?_
                          refine va_get (D := (dC, dI)) (ci := 3) (v := .ref aUB) (C := RX3) (T := TX3) (N := 4) hx hb hts k1 hown hK hP 0 rfl rfl 3 (by decide) k10 (fun _ h9 => h9) rfl dX3_shortenAll_191 ?_
                          refine lv_iload hx hb dX3_shortenAll_194 (lv_at hl 2 rfl) ?_
                          refine lv_iload hx hb dX3_shortenAll_196 (lv_at hl 4 rfl) ?_
                          obtain ⟨uB_45, e9, g⟩ := bd g
                          refine q_iast (ws2 := wX3 cyI cyZ uc nw aF aT aP aC aU aUT aUD aUB nN nA nF nT nP nC nU uT uD_44 uB_45) hx hb hK hP hD hS 9 0 rfl rfl e9 dX3_shortenAll_198 rfl (fun H locs hP hD hS => ?_)
                          refine lv_iload hx hb dX3_shortenAll_199 (lv_at hl 2 rfl) ?_
                          refine lv_istore_n (lv' := [(2, .int t35), (9, .int (t36 + (-0))), (8, .int 0), (7, .int t35), (6, .int t11), (5, .int (((x3_2 * 15) + x4_6) - 1)), (0, .ref uc), (1, .int p0), (3, .int x3_2), (4, .int x4_6)]) hx hb dX3_shortenAll_201 rfl hl (by decide) rfl (fun ls hl => ?_)
                          refine lv_iinc (v := x4_6 + 1) (lv' := [(4, .int (x4_6 + 1)), (2, .int t35), (9, .int (t36 + (-0))), (8, .int 0), (7, .int t35), (6, .int t11), (5, .int (((x3_2 * 15) + x4_6) - 1)), (0, .ref uc), (1, .int p0), (3, .int x3_2)]) hx hb dX3_shortenAll_202 hl (k := 9) rfl (by rfl) (by decide) rfl (fun ls hl => ?_)
                          refine lv_goto (tgt := 18) hx hb dX3_shortenAll_205 (by decide) ?_
                          cases g
                          exact ih1 _ _ _ _ h _ _ hP hD hS _ (lv_sub hl [7, 8, 1, 9, 0] rfl)
                  · have g := ineg c9 g
                    refine lv_aload_n hx hb dX3_shortenAll_113 rfl (lv_at hl 3 rfl) ?_
                    refine va_get (D := (dC, dI)) (ci := 3) (v := .ref nw) (C := RX3) (T := TX3) (N := 4) hx hb hts k1 hown hK hP 0 rfl rfl 0 (by decide) k0 (fun _ h9 => h9) rfl dX3_shortenAll_114 ?_
                    refine lv_iload_n hx hb dX3_shortenAll_117 rfl (lv_at hl 6 rfl) ?_
                    refine lv_iload hx hb dX3_shortenAll_118 (lv_at hl 7 rfl) ?_
                    obtain ⟨r46, e9, g⟩ := bd g
                    refine q_callVi (ret := r46) (As := [.int x3_2, .int x4_6]) (w1 := wX2 cyI nw aF aT aP aC aU nN nA nF nT nP nC nU) (ws2 := wX3 cyI cyZ uc nw aF aT aP aC aU aUT aUD aUB nN nA nF nT nP nC nU uT uD_7 uB_8) ⟨hx, hb, hml, hown, hts⟩ (c_X2_unitPrice l dC dI cyI nw aF aT aP aC aU H.size nN nA nF nT nP nC nU x3_2 x4_6 _ e9) (cwV 2 hts gX3_shortenAll_X2_unitPrice rfl rfl rfl (by decide +kernel) ⟨Nat.le_of_ble_eq_true rfl, Nat.le_of_ble_eq_true rfl⟩) hK hP hD hS hA [1, 2, 3, 4, 5, 6] [0, 7, 8, 9] [0, 4, 5, 6, 7, 8, 9, 1, 2, 3] [0] rfl rfl rfl rfl (by decide) rfl rfl rfl 2 0 rfl rfl rfl hl.1 (Nat.le_of_ble_eq_true rfl) (Nat.le_of_ble_eq_true rfl) (Nat.le_of_ble_eq_true rfl) rfl dX3_shortenAll_120 (fun H locs hP hD hS => ?_)
                    refine lv_goto (tgt := 127) hx hb dX3_shortenAll_123 (by decide) ?_
                    refine lv_istore (lv' := [(8, .int r46), (7, .int t35), (6, .int t11), (5, .int (((x3_2 * 15) + x4_6) - 1)), (0, .ref uc), (1, .int p0), (2, .int x2_5), (3, .int x3_2), (4, .int x4_6)]) hx hb dX3_shortenAll_127 hl (by decide) rfl (fun ls hl => ?_)
                    refine lv_aload_n hx hb dX3_shortenAll_129 rfl (lv_at hl 4 rfl) ?_
                    refine va_get (D := (dC, dI)) (ci := 3) (v := .ref aUD) (C := RX3) (T := TX3) (N := 4) hx hb hts k1 hown hK hP 0 rfl rfl 2 (by decide) k8 (fun _ h9 => h9) rfl dX3_shortenAll_130 ?_
                    refine lv_iload hx hb dX3_shortenAll_133 (lv_at hl 2 rfl) ?_
                    obtain ⟨t47, e9, g⟩ := bd g
                    refine q_iald hx hb hK hP 8 0 rfl rfl e9 dX3_shortenAll_135 ?_
                    refine lv_aload_n hx hb dX3_shortenAll_136 rfl (lv_at hl 4 rfl) ?_
                    refine va_get (D := (dC, dI)) (ci := 3) (v := .ref aUT) (C := RX3) (T := TX3) (N := 4) hx hb hts k1 hown hK hP 0 rfl rfl 1 (by decide) k5 (fun _ h9 => h9) rfl dX3_shortenAll_137 ?_
                    refine lv_iload hx hb dX3_shortenAll_140 (lv_at hl 3 rfl) ?_
                    obtain ⟨t48, e9, g⟩ := bd g
                    refine q_zald hx hb hK hP 7 1 rfl rfl e9 dX3_shortenAll_142 ?_
                    refine lv_if_eq (tgt := 152) hx hb dX3_shortenAll_143 (by decide) (fun c9 => ?_) (fun c9 => ?_)
                    · have g := ipos c9 g
                      refine lv_iload hx hb dX3_shortenAll_152 (lv_at hl 0 rfl) ?_
                      refine lv_iadd hx hb dX3_shortenAll_154 ?_
                      refine lv_istore (lv' := [(9, .int (t47 + r46)), (8, .int r46), (7, .int t35), (6, .int t11), (5, .int (((x3_2 * 15) + x4_6) - 1)), (0, .ref uc), (1, .int p0), (2, .int x2_5), (3, .int x3_2), (4, .int x4_6)]) hx hb dX3_shortenAll_155 hl (by decide) rfl (fun ls hl => ?_)
                      refine lv_aload_n hx hb dX3_shortenAll_157 rfl (lv_at hl 5 rfl) ?_
                      refine va_get (D := (dC, dI)) (ci := 3) (v := .ref aUD) (C := RX3) (T := TX3) (N := 4) hx hb hts k1 hown hK hP 0 rfl rfl 2 (by decide) k8 (fun _ h9 => h9) rfl dX3_shortenAll_158 ?_
                      refine lv_iload hx hb dX3_shortenAll_161 (lv_at hl 3 rfl) ?_
                      obtain ⟨t49, e9, g⟩ := bd g
                      refine q_iald hx hb hK hP 8 0 rfl rfl e9 dX3_shortenAll_163 ?_
                      refine lv_ldc (own := RX3) (v := 1000000) hx hb hown k9 dX3_shortenAll_164 ?_
                      refine lv_icmp_ge (tgt := 202) hx hb dX3_shortenAll_166 (by decide) (fun c9 => ?_) (fun c9 => ?_)
                      · have g := ipos c9 g
                        refine lv_iinc (v := x4_6 + 1) (lv' := [(4, .int (x4_6 + 1)), (9, .int (t47 + r46)), (8, .int r46), (7, .int t35), (6, .int t11), (5, .int (((x3_2 * 15) + x4_6) - 1)), (0, .ref uc), (1, .int p0), (2, .int x2_5), (3, .int x3_2)]) hx hb dX3_shortenAll_202 hl (k := 9) rfl (by rfl) (by decide) rfl (fun ls hl => ?_)
                        refine lv_goto (tgt := 18) hx hb dX3_shortenAll_205 (by decide) ?_
                        cases g
                        exact ih1 _ _ _ _ h _ _ hP hD hS _ (lv_sub hl [6, 7, 8, 9, 0] rfl)
                      · have g := ineg c9 g
                        refine lv_iload hx hb dX3_shortenAll_169 (lv_at hl 0 rfl) ?_
                        refine lv_aload_n hx hb dX3_shortenAll_171 rfl (lv_at hl 5 rfl) ?_
                        refine va_get (D := (dC, dI)) (ci := 3) (v := .ref aUD) (C := RX3) (T := TX3) (N := 4) hx hb hts k1 hown hK hP 0 rfl rfl 2 (by decide) k8 (fun _ h9 => h9) rfl dX3_shortenAll_172 ?_
                        refine lv_iload hx hb dX3_shortenAll_175 (lv_at hl 2 rfl) ?_
                        obtain ⟨t50, e9, g⟩ := bd g
                        refine q_iald hx hb hK hP 8 0 rfl rfl e9 dX3_shortenAll_177 ?_
                        refine lv_icmp_ge (tgt := 202) hx hb dX3_shortenAll_178 (by decide) (fun c9 => ?_) (fun c9 => ?_)
                        · have g := ipos c9 g
                          refine lv_iinc (v := x4_6 + 1) (lv' := [(4, .int (x4_6 + 1)), (9, .int (t47 + r46)), (8, .int r46), (7, .int t35), (6, .int t11), (5, .int (((x3_2 * 15) + x4_6) - 1)), (0, .ref uc), (1, .int p0), (2, .int x2_5), (3, .int x3_2)]) hx hb dX3_shortenAll_202 hl (k := 9) rfl (by rfl) (by decide) rfl (fun ls hl => ?_)
                          refine lv_goto (tgt := 18) hx hb dX3_shortenAll_205 (by decide) ?_
                          cases g
                          exact ih1 _ _ _ _ h _ _ hP hD hS _ (lv_sub hl [6, 7, 8, 9, 0] rfl)
                        · have g := ineg c9 g
                          refine lv_aload_n hx hb dX3_shortenAll_181 rfl (lv_at hl 5 rfl) ?_
                          refine va_get (D := (dC, dI)) (ci := 3) (v := .ref aUD) (C := RX3) (T := TX3) (N := 4) hx hb hts k1 hown hK hP 0 rfl rfl 2 (by decide) k8 (fun _ h9 => h9) rfl dX3_shortenAll_182 ?_
                          refine lv_iload hx hb dX3_shortenAll_185 (lv_at hl 2 rfl) ?_
                          refine lv_iload hx hb dX3_shortenAll_187 (lv_at hl 0 rfl) ?_
                          obtain ⟨uD_51, e9, g⟩ := bd g
                          refine q_iast (ws2 := wX3 cyI cyZ uc nw aF aT aP aC aU aUT aUD aUB nN nA nF nT nP nC nU uT uD_51 uB_8) hx hb hK hP hD hS 8 0 rfl rfl e9 dX3_shortenAll_189 rfl (fun H locs hP hD hS => ?_)
                          refine lv_aload_n hx hb dX3_shortenAll_190 rfl (lv_at hl 5 rfl) ?_
                          refine va_get (D := (dC, dI)) (ci := 3) (v := .ref aUB) (C := RX3) (T := TX3) (N := 4) hx hb hts k1 hown hK hP 0 rfl rfl 3 (by decide) k10 (fun _ h9 => h9) rfl dX3_shortenAll_191 ?_
                          refine lv_iload hx hb dX3_shortenAll_194 (lv_at hl 2 rfl) ?_
                          refine lv_iload hx hb dX3_shortenAll_196 (lv_at hl 4 rfl) ?_
                          obtain ⟨uB_52, e9, g⟩ := bd g
                          refine q_iast (ws2 := wX3 cyI cyZ uc nw aF aT aP aC aU aUT aUD aUB nN nA nF nT nP nC nU uT uD_51 uB_52) hx hb hK hP hD hS 9 0 rfl rfl e9 dX3_shortenAll_198 rfl (fun H locs hP hD hS => ?_)
                          refine lv_iload hx hb dX3_shortenAll_199 (lv_at hl 2 rfl) ?_
                          refine lv_istore_n (lv' := [(2, .int t35), (9, .int (t47 + r46)), (8, .int r46), (7, .int t35), (6, .int t11), (5, .int (((x3_2 * 15) + x4_6) - 1)), (0, .ref uc), (1, .int p0), (3, .int x3_2), (4, .int x4_6)]) hx hb dX3_shortenAll_201 rfl hl (by decide) rfl (fun ls hl => ?_)
                          refine lv_iinc (v := x4_6 + 1) (lv' := [(4, .int (x4_6 + 1)), (2, .int t35), (9, .int (t47 + r46)), (8, .int r46), (7, .int t35), (6, .int t11), (5, .int (((x3_2 * 15) + x4_6) - 1)), (0, .ref uc), (1, .int p0), (3, .int x3_2)]) hx hb dX3_shortenAll_202 hl (k := 9) rfl (by rfl) (by decide) rfl (fun ls hl => ?_)
                          refine lv_goto (tgt := 18) hx hb dX3_shortenAll_205 (by decide) ?_
                          cases g
                          exact ih1 _ _ _ _ h _ _ hP hD hS _ (lv_sub hl [7, 8, 1, 9, 0] rfl)
                    · have g := ineg c9 g
                      refine lv_iload hx hb dX3_shortenAll_146 (lv_at hl 0 rfl) ?_
                      refine lv_ineg hx hb dX3_shortenAll_148 ?_
                      refine lv_goto (tgt := 154) hx hb dX3_shortenAll_149 (by decide) ?_
                      refine lv_iadd hx hb dX3_shortenAll_154 ?_
                      refine lv_istore (lv' := [(9, .int (t47 + (-r46))), (8, .int r46), (7, .int t35), (6, .int t11), (5, .int (((x3_2 * 15) + x4_6) - 1)), (0, .ref uc), (1, .int p0), (2, .int x2_5), (3, .int x3_2), (4, .int x4_6)]) hx hb dX3_shortenAll_155 hl (by decide) rfl (fun ls hl => ?_)
                      refine lv_aload_n hx hb dX3_shortenAll_157 rfl (lv_at hl 5 rfl) ?_
                      refine va_get (D := (dC, dI)) (ci := 3) (v := .ref aUD) (C := RX3) (T := TX3) (N := 4) hx hb hts k1 hown hK hP 0 rfl rfl 2 (by decide) k8 (fun _ h9 => h9) rfl dX3_shortenAll_158 ?_
                      refine lv_iload hx hb dX3_shortenAll_161 (lv_at hl 3 rfl) ?_
                      obtain ⟨t53, e9, g⟩ := bd g
                      refine q_iald hx hb hK hP 8 0 rfl rfl e9 dX3_shortenAll_163 ?_
                      refine lv_ldc (own := RX3) (v := 1000000) hx hb hown k9 dX3_shortenAll_164 ?_
                      refine lv_icmp_ge (tgt := 202) hx hb dX3_shortenAll_166 (by decide) (fun c9 => ?_) (fun c9 => ?_)
                      · have g := ipos c9 g
                        refine lv_iinc (v := x4_6 + 1) (lv' := [(4, .int (x4_6 + 1)), (9, .int (t47 + (-r46))), (8, .int r46), (7, .int t35), (6, .int t11), (5, .int (((x3_2 * 15) + x4_6) - 1)), (0, .ref uc), (1, .int p0), (2, .int x2_5), (3, .int x3_2)]) hx hb dX3_shortenAll_202 hl (k := 9) rfl (by rfl) (by decide) rfl (fun ls hl => ?_)
                        refine lv_goto (tgt := 18) hx hb dX3_shortenAll_205 (by decide) ?_
                        cases g
                        exact ih1 _ _ _ _ h _ _ hP hD hS _ (lv_sub hl [6, 7, 8, 9, 0] rfl)
                      · have g := ineg c9 g
                        refine lv_iload hx hb dX3_shortenAll_169 (lv_at hl 0 rfl) ?_
                        refine lv_aload_n hx hb dX3_shortenAll_171 rfl (lv_at hl 5 rfl) ?_
                        refine va_get (D := (dC, dI)) (ci := 3) (v := .ref aUD) (C := RX3) (T := TX3) (N := 4) hx hb hts k1 hown hK hP 0 rfl rfl 2 (by decide) k8 (fun _ h9 => h9) rfl dX3_shortenAll_172 ?_
                        refine lv_iload hx hb dX3_shortenAll_175 (lv_at hl 2 rfl) ?_
                        obtain ⟨t54, e9, g⟩ := bd g
                        refine q_iald hx hb hK hP 8 0 rfl rfl e9 dX3_shortenAll_177 ?_
                        refine lv_icmp_ge (tgt := 202) hx hb dX3_shortenAll_178 (by decide) (fun c9 => ?_) (fun c9 => ?_)
                        · have g := ipos c9 g
                          refine lv_iinc (v := x4_6 + 1) (lv' := [(4, .int (x4_6 + 1)), (9, .int (t47 + (-r46))), (8, .int r46), (7, .int t35), (6, .int t11), (5, .int (((x3_2 * 15) + x4_6) - 1)), (0, .ref uc), (1, .int p0), (2, .int x2_5), (3, .int x3_2)]) hx hb dX3_shortenAll_202 hl (k := 9) rfl (by rfl) (by decide) rfl (fun ls hl => ?_)
                          refine lv_goto (tgt := 18) hx hb dX3_shortenAll_205 (by decide) ?_
                          cases g
                          exact ih1 _ _ _ _ h _ _ hP hD hS _ (lv_sub hl [6, 7, 8, 9, 0] rfl)
                        · have g := ineg c9 g
                          refine lv_aload_n hx hb dX3_shortenAll_181 rfl (lv_at hl 5 rfl) ?_
                          refine va_get (D := (dC, dI)) (ci := 3) (v := .ref aUD) (C := RX3) (T := TX3) (N := 4) hx hb hts k1 hown hK hP 0 rfl rfl 2 (by decide) k8 (fun _ h9 => h9) rfl dX3_shortenAll_182 ?_
                          refine lv_iload hx hb dX3_shortenAll_185 (lv_at hl 2 rfl) ?_
                          refine lv_iload hx hb dX3_shortenAll_187 (lv_at hl 0 rfl) ?_
                          obtain ⟨uD_55, e9, g⟩ := bd g
                          refine q_iast (ws2 := wX3 cyI cyZ uc nw aF aT aP aC aU aUT aUD aUB nN nA nF nT nP nC nU uT uD_55 uB_8) hx hb hK hP hD hS 8 0 rfl rfl e9 dX3_shortenAll_189 rfl (fun H locs hP hD hS => ?_)
                          refine lv_aload_n hx hb dX3_shortenAll_190 rfl (lv_at hl 5 rfl) ?_
                          refine va_get (D := (dC, dI)) (ci := 3) (v := .ref aUB) (C := RX3) (T := TX3) (N := 4) hx hb hts k1 hown hK hP 0 rfl rfl 3 (by decide) k10 (fun _ h9 => h9) rfl dX3_shortenAll_191 ?_
                          refine lv_iload hx hb dX3_shortenAll_194 (lv_at hl 2 rfl) ?_
                          refine lv_iload hx hb dX3_shortenAll_196 (lv_at hl 4 rfl) ?_
                          obtain ⟨uB_56, e9, g⟩ := bd g
                          refine q_iast (ws2 := wX3 cyI cyZ uc nw aF aT aP aC aU aUT aUD aUB nN nA nF nT nP nC nU uT uD_55 uB_56) hx hb hK hP hD hS 9 0 rfl rfl e9 dX3_shortenAll_198 rfl (fun H locs hP hD hS => ?_)
                          refine lv_iload hx hb dX3_shortenAll_199 (lv_at hl 2 rfl) ?_
                          refine lv_istore_n (lv' := [(2, .int t35), (9, .int (t47 + (-r46))), (8, .int r46), (7, .int t35), (6, .int t11), (5, .int (((x3_2 * 15) + x4_6) - 1)), (0, .ref uc), (1, .int p0), (3, .int x3_2), (4, .int x4_6)]) hx hb dX3_shortenAll_201 rfl hl (by decide) rfl (fun ls hl => ?_)
                          refine lv_iinc (v := x4_6 + 1) (lv' := [(4, .int (x4_6 + 1)), (2, .int t35), (9, .int (t47 + (-r46))), (8, .int r46), (7, .int t35), (6, .int t11), (5, .int (((x3_2 * 15) + x4_6) - 1)), (0, .ref uc), (1, .int p0), (3, .int x3_2)]) hx hb dX3_shortenAll_202 hl (k := 9) rfl (by rfl) (by decide) rfl (fun ls hl => ?_)
                          refine lv_goto (tgt := 18) hx hb dX3_shortenAll_205 (by decide) ?_
                          cases g
                          exact ih1 _ _ _ _ h _ _ hP hD hS _ (lv_sub hl [7, 8, 1, 9, 0] rfl)
              · have g := ineg c9 g
                refine lv_aload_n hx hb dX3_shortenAll_53 rfl (lv_at hl 1 rfl) ?_
                refine va_get (D := (dC, dI)) (ci := 3) (v := .ref nw) (C := RX3) (T := TX3) (N := 4) hx hb hts k1 hown hK hP 0 rfl rfl 0 (by decide) k0 (fun _ h9 => h9) rfl dX3_shortenAll_54 ?_
                refine va_get (D := (dC, dI)) (ci := 2) (v := .ref aT) (C := RX2) (T := TX2) (N := 7) hx hb hts k3 hown hK hP 1 rfl rfl 3 (by decide) k7 (fun _ h9 => h9) rfl dX3_shortenAll_57 ?_
                refine lv_iload_n hx hb dX3_shortenAll_60 rfl (lv_at hl 4 rfl) ?_
                obtain ⟨t57, e9, g⟩ := bd g
                refine q_iald hx hb hK hP 3 0 rfl rfl e9 dX3_shortenAll_61 ?_
                refine lv_goto (tgt := 74) hx hb dX3_shortenAll_62 (by decide) ?_
                refine lv_istore (lv' := [(6, .int t57), (5, .int (((x3_2 * 15) + x4_6) - 1)), (0, .ref uc), (1, .int p0), (2, .int x2_5), (3, .int x3_2), (4, .int x4_6)]) hx hb dX3_shortenAll_74 hl (by decide) rfl (fun ls hl => ?_)
                refine lv_aload_n hx hb dX3_shortenAll_76 rfl (lv_at hl 2 rfl) ?_
                refine va_get (D := (dC, dI)) (ci := 3) (v := .ref aUT) (C := RX3) (T := TX3) (N := 4) hx hb hts k1 hown hK hP 0 rfl rfl 1 (by decide) k5 (fun _ h9 => h9) rfl dX3_shortenAll_77 ?_
                refine lv_iload hx hb dX3_shortenAll_80 (lv_at hl 1 rfl) ?_
                obtain ⟨t58, e9, g⟩ := bd g
                refine q_zald hx hb hK hP 7 1 rfl rfl e9 dX3_shortenAll_82 ?_
                refine lv_if_eq (tgt := 98) hx hb dX3_shortenAll_83 (by decide) (fun c9 => ?_) (fun c9 => ?_)
                · have g := ipos c9 g
                  refine lv_aload_n hx hb dX3_shortenAll_98 rfl (lv_at hl 2 rfl) ?_
                  refine va_get (D := (dC, dI)) (ci := 3) (v := .ref nw) (C := RX3) (T := TX3) (N := 4) hx hb hts k1 hown hK hP 0 rfl rfl 0 (by decide) k0 (fun _ h9 => h9) rfl dX3_shortenAll_99 ?_
                  refine va_get (D := (dC, dI)) (ci := 2) (v := .ref aT) (C := RX2) (T := TX2) (N := 7) hx hb hts k3 hown hK hP 1 rfl rfl 3 (by decide) k7 (fun _ h9 => h9) rfl dX3_shortenAll_102 ?_
                  refine lv_iload_n hx hb dX3_shortenAll_105 rfl (lv_at hl 5 rfl) ?_
                  obtain ⟨t59, e9, g⟩ := bd g
                  refine q_iald hx hb hK hP 3 0 rfl rfl e9 dX3_shortenAll_106 ?_
                  refine lv_istore (lv' := [(7, .int t59), (6, .int t57), (5, .int (((x3_2 * 15) + x4_6) - 1)), (0, .ref uc), (1, .int p0), (2, .int x2_5), (3, .int x3_2), (4, .int x4_6)]) hx hb dX3_shortenAll_107 hl (by decide) rfl (fun ls hl => ?_)
                  refine lv_iload_n hx hb dX3_shortenAll_109 rfl (lv_at hl 4 rfl) ?_
                  refine lv_if_eq (tgt := 126) hx hb dX3_shortenAll_110 (by decide) (fun c9 => ?_) (fun c9 => ?_)
                  · have g := ipos c9 g
                    refine lv_iconst (v := 0) hx hb dX3_shortenAll_126 (by decide) ?_
                    refine lv_istore (lv' := [(8, .int 0), (7, .int t59), (6, .int t57), (5, .int (((x3_2 * 15) + x4_6) - 1)), (0, .ref uc), (1, .int p0), (2, .int x2_5), (3, .int x3_2), (4, .int x4_6)]) hx hb dX3_shortenAll_127 hl (by decide) rfl (fun ls hl => ?_)
                    refine lv_aload_n hx hb dX3_shortenAll_129 rfl (lv_at hl 4 rfl) ?_
                    refine va_get (D := (dC, dI)) (ci := 3) (v := .ref aUD) (C := RX3) (T := TX3) (N := 4) hx hb hts k1 hown hK hP 0 rfl rfl 2 (by decide) k8 (fun _ h9 => h9) rfl dX3_shortenAll_130 ?_
                    refine lv_iload hx hb dX3_shortenAll_133 (lv_at hl 2 rfl) ?_
                    obtain ⟨t60, e9, g⟩ := bd g
                    refine q_iald hx hb hK hP 8 0 rfl rfl e9 dX3_shortenAll_135 ?_
                    refine lv_aload_n hx hb dX3_shortenAll_136 rfl (lv_at hl 4 rfl) ?_
                    refine va_get (D := (dC, dI)) (ci := 3) (v := .ref aUT) (C := RX3) (T := TX3) (N := 4) hx hb hts k1 hown hK hP 0 rfl rfl 1 (by decide) k5 (fun _ h9 => h9) rfl dX3_shortenAll_137 ?_
                    refine lv_iload hx hb dX3_shortenAll_140 (lv_at hl 3 rfl) ?_
                    obtain ⟨t61, e9, g⟩ := bd g
                    refine q_zald hx hb hK hP 7 1 rfl rfl e9 dX3_shortenAll_142 ?_
                    refine lv_if_eq (tgt := 152) hx hb dX3_shortenAll_143 (by decide) (fun c9 => ?_) (fun c9 => ?_)
                    · have g := ipos c9 g
                      refine lv_iload hx hb dX3_shortenAll_152 (lv_at hl 0 rfl) ?_
                      refine lv_iadd hx hb dX3_shortenAll_154 ?_
                      refine lv_istore (lv' := [(9, .int (t60 + 0)), (8, .int 0), (7, .int t59), (6, .int t57), (5, .int (((x3_2 * 15) + x4_6) - 1)), (0, .ref uc), (1, .int p0), (2, .int x2_5), (3, .int x3_2), (4, .int x4_6)]) hx hb dX3_shortenAll_155 hl (by decide) rfl (fun ls hl => ?_)
                      refine lv_aload_n hx hb dX3_shortenAll_157 rfl (lv_at hl 5 rfl) ?_
                      refine va_get (D := (dC, dI)) (ci := 3) (v := .ref aUD) (C := RX3) (T := TX3) (N := 4) hx hb hts k1 hown hK hP 0 rfl rfl 2 (by decide) k8 (fun _ h9 => h9) rfl dX3_shortenAll_158 ?_
                      refine lv_iload hx hb dX3_shortenAll_161 (lv_at hl 3 rfl) ?_
                      obtain ⟨t62, e9, g⟩ := bd g
                      refine q_iald hx hb hK hP 8 0 rfl rfl e9 dX3_shortenAll_163 ?_
                      refine lv_ldc (own := RX3) (v := 1000000) hx hb hown k9 dX3_shortenAll_164 ?_
                      refine lv_icmp_ge (tgt := 202) hx hb dX3_shortenAll_166 (by decide) (fun c9 => ?_) (fun c9 => ?_)
                      · have g := ipos c9 g
                        refine lv_iinc (v := x4_6 + 1) (lv' := [(4, .int (x4_6 + 1)), (9, .int (t60 + 0)), (8, .int 0), (7, .int t59), (6, .int t57), (5, .int (((x3_2 * 15) + x4_6) - 1)), (0, .ref uc), (1, .int p0), (2, .int x2_5), (3, .int x3_2)]) hx hb dX3_shortenAll_202 hl (k := 9) rfl (by rfl) (by decide) rfl (fun ls hl => ?_)
                        refine lv_goto (tgt := 18) hx hb dX3_shortenAll_205 (by decide) ?_
                        cases g
                        exact ih1 _ _ _ _ h _ _ hP hD hS _ (lv_sub hl [6, 7, 8, 9, 0] rfl)
                      · have g := ineg c9 g
                        refine lv_iload hx hb dX3_shortenAll_169 (lv_at hl 0 rfl) ?_
                        refine lv_aload_n hx hb dX3_shortenAll_171 rfl (lv_at hl 5 rfl) ?_
                        refine va_get (D := (dC, dI)) (ci := 3) (v := .ref aUD) (C := RX3) (T := TX3) (N := 4) hx hb hts k1 hown hK hP 0 rfl rfl 2 (by decide) k8 (fun _ h9 => h9) rfl dX3_shortenAll_172 ?_
                        refine lv_iload hx hb dX3_shortenAll_175 (lv_at hl 2 rfl) ?_
                        obtain ⟨t63, e9, g⟩ := bd g
                        refine q_iald hx hb hK hP 8 0 rfl rfl e9 dX3_shortenAll_177 ?_
                        refine lv_icmp_ge (tgt := 202) hx hb dX3_shortenAll_178 (by decide) (fun c9 => ?_) (fun c9 => ?_)
                        · have g := ipos c9 g
                          refine lv_iinc (v := x4_6 + 1) (lv' := [(4, .int (x4_6 + 1)), (9, .int (t60 + 0)), (8, .int 0), (7, .int t59), (6, .int t57), (5, .int (((x3_2 * 15) + x4_6) - 1)), (0, .ref uc), (1, .int p0), (2, .int x2_5), (3, .int x3_2)]) hx hb dX3_shortenAll_202 hl (k := 9) rfl (by rfl) (by decide) rfl (fun ls hl => ?_)
                          refine lv_goto (tgt := 18) hx hb dX3_shortenAll_205 (by decide) ?_
                          cases g
                          exact ih1 _ _ _ _ h _ _ hP hD hS _ (lv_sub hl [6, 7, 8, 9, 0] rfl)
                        · have g := ineg c9 g
                          refine lv_aload_n hx hb dX3_shortenAll_181 rfl (lv_at hl 5 rfl) ?_
                          refine va_get (D := (dC, dI)) (ci := 3) (v := .ref aUD) (C := RX3) (T := TX3) (N := 4) hx hb hts k1 hown hK hP 0 rfl rfl 2 (by decide) k8 (fun _ h9 => h9) rfl dX3_shortenAll_182 ?_
                          refine lv_iload hx hb dX3_shortenAll_185 (lv_at hl 2 rfl) ?_
                          refine lv_iload hx hb dX3_shortenAll_187 (lv_at hl 0 rfl) ?_
                          obtain ⟨uD_64, e9, g⟩ := bd g
                          refine q_iast (ws2 := wX3 cyI cyZ uc nw aF aT aP aC aU aUT aUD aUB nN nA nF nT nP nC nU uT uD_64 uB_8) hx hb hK hP hD hS 8 0 rfl rfl e9 dX3_shortenAll_189 rfl (fun H locs hP hD hS => ?_)
                          refine lv_aload_n hx hb dX3_shortenAll_190 rfl (lv_at hl 5 rfl) ?_
                          refine va_get (D := (dC, dI)) (ci := 3) (v := .ref aUB) (C := RX3) (T := TX3) (N := 4) hx hb hts k1 hown hK hP 0 rfl rfl 3 (by decide) k10 (fun _ h9 => h9) rfl dX3_shortenAll_191 ?_
                          refine lv_iload hx hb dX3_shortenAll_194 (lv_at hl 2 rfl) ?_
                          refine lv_iload hx hb dX3_shortenAll_196 (lv_at hl 4 rfl) ?_
                          obtain ⟨uB_65, e9, g⟩ := bd g
                          refine q_iast (ws2 := wX3 cyI cyZ uc nw aF aT aP aC aU aUT aUD aUB nN nA nF nT nP nC nU uT uD_64 uB_65) hx hb hK hP hD hS 9 0 rfl rfl e9 dX3_shortenAll_198 rfl (fun H locs hP hD hS => ?_)
                          refine lv_iload hx hb dX3_shortenAll_199 (lv_at hl 2 rfl) ?_
                          refine lv_istore_n (lv' := [(2, .int t59), (9, .int (t60 + 0)), (8, .int 0), (7, .int t59), (6, .int t57), (5, .int (((x3_2 * 15) + x4_6) - 1)), (0, .ref uc), (1, .int p0), (3, .int x3_2), (4, .int x4_6)]) hx hb dX3_shortenAll_201 rfl hl (by decide) rfl (fun ls hl => ?_)
                          refine lv_iinc (v := x4_6 + 1) (lv' := [(4, .int (x4_6 + 1)), (2, .int t59), (9, .int (t60 + 0)), (8, .int 0), (7, .int t59), (6, .int t57), (5, .int (((x3_2 * 15) + x4_6) - 1)), (0, .ref uc), (1, .int p0), (3, .int x3_2)]) hx hb dX3_shortenAll_202 hl (k := 9) rfl (by rfl) (by decide) rfl (fun ls hl => ?_)
                          refine lv_goto (tgt := 18) hx hb dX3_shortenAll_205 (by decide) ?_
                          cases g
                          exact ih1 _ _ _ _ h _ _ hP hD hS _ (lv_sub hl [7, 8, 1, 9, 0] rfl)
                    · have g := ineg c9 g
                      refine lv_iload hx hb dX3_shortenAll_146 (lv_at hl 0 rfl) ?_
                      refine lv_ineg hx hb dX3_shortenAll_148 ?_
                      refine lv_goto (tgt := 154) hx hb dX3_shortenAll_149 (by decide) ?_
                      refine lv_iadd hx hb dX3_shortenAll_154 ?_
                      refine lv_istore (lv' := [(9, .int (t60 + (-0))), (8, .int 0), (7, .int t59), (6, .int t57), (5, .int (((x3_2 * 15) + x4_6) - 1)), (0, .ref uc), (1, .int p0), (2, .int x2_5), (3, .int x3_2), (4, .int x4_6)]) hx hb dX3_shortenAll_155 hl (by decide) rfl (fun ls hl => ?_)
                      refine lv_aload_n hx hb dX3_shortenAll_157 rfl (lv_at hl 5 rfl) ?_
                      refine va_get (D := (dC, dI)) (ci := 3) (v := .ref aUD) (C := RX3) (T := TX3) (N := 4) hx hb hts k1 hown hK hP 0 rfl rfl 2 (by decide) k8 (fun _ h9 => h9) rfl dX3_shortenAll_158 ?_
                      refine lv_iload hx hb dX3_shortenAll_161 (lv_at hl 3 rfl) ?_
                      obtain ⟨t66, e9, g⟩ := bd g
                      refine q_iald hx hb hK hP 8 0 rfl rfl e9 dX3_shortenAll_163 ?_
                      refine lv_ldc (own := RX3) (v := 1000000) hx hb hown k9 dX3_shortenAll_164 ?_
                      refine lv_icmp_ge (tgt := 202) hx hb dX3_shortenAll_166 (by decide) (fun c9 => ?_) (fun c9 => ?_)
                      · have g := ipos c9 g
                        refine lv_iinc (v := x4_6 + 1) (lv' := [(4, .int (x4_6 + 1)), (9, .int (t60 + (-0))), (8, .int 0), (7, .int t59), (6, .int t57), (5, .int (((x3_2 * 15) + x4_6) - 1)), (0, .ref uc), (1, .int p0), (2, .int x2_5), (3, .int x3_2)]) hx hb dX3_shortenAll_202 hl (k := 9) rfl (by rfl) (by decide) rfl (fun ls hl => ?_)
                        refine lv_goto (tgt := 18) hx hb dX3_shortenAll_205 (by decide) ?_
                        cases g
                        exact ih1 _ _ _ _ h _ _ hP hD hS _ (lv_sub hl [6, 7, 8, 9, 0] rfl)
                      · have g := ineg c9 g
                        refine lv_iload hx hb dX3_shortenAll_169 (lv_at hl 0 rfl) ?_
                        refine lv_aload_n hx hb dX3_shortenAll_171 rfl (lv_at hl 5 rfl) ?_
                        refine va_get (D := (dC, dI)) (ci := 3) (v := .ref aUD) (C := RX3) (T := TX3) (N := 4) hx hb hts k1 hown hK hP 0 rfl rfl 2 (by decide) k8 (fun _ h9 => h9) rfl dX3_shortenAll_172 ?_
                        refine lv_iload hx hb dX3_shortenAll_175 (lv_at hl 2 rfl) ?_
                        obtain ⟨t67, e9, g⟩ := bd g
                        refine q_iald hx hb hK hP 8 0 rfl rfl e9 dX3_shortenAll_177 ?_
                        refine lv_icmp_ge (tgt := 202) hx hb dX3_shortenAll_178 (by decide) (fun c9 => ?_) (fun c9 => ?_)
                        · have g := ipos c9 g
                          refine lv_iinc (v := x4_6 + 1) (lv' := [(4, .int (x4_6 + 1)), (9, .int (t60 + (-0))), (8, .int 0), (7, .int t59), (6, .int t57), (5, .int (((x3_2 * 15) + x4_6) - 1)), (0, .ref uc), (1, .int p0), (2, .int x2_5), (3, .int x3_2)]) hx hb dX3_shortenAll_202 hl (k := 9) rfl (by rfl) (by decide) rfl (fun ls hl => ?_)
                          refine lv_goto (tgt := 18) hx hb dX3_shortenAll_205 (by decide) ?_
                          cases g
                          exact ih1 _ _ _ _ h _ _ hP hD hS _ (lv_sub hl [6, 7, 8, 9, 0] rfl)
                        · have g := ineg c9 g
                          refine lv_aload_n hx hb dX3_shortenAll_181 rfl (lv_at hl 5 rfl) ?_
                          refine va_get (D := (dC, dI)) (ci := 3) (v := .ref aUD) (C := RX3) (T := TX3) (N := 4) hx hb hts k1 hown hK hP 0 rfl rfl 2 (by decide) k8 (fun _ h9 => h9) rfl dX3_shortenAll_182 ?_
                          refine lv_iload hx hb dX3_shortenAll_185 (lv_at hl 2 rfl) ?_
                          refine lv_iload hx hb dX3_shortenAll_187 (lv_at hl 0 rfl) ?_
                          obtain ⟨uD_68, e9, g⟩ := bd g
                          refine q_iast (ws2 := wX3 cyI cyZ uc nw aF aT aP aC aU aUT aUD aUB nN nA nF nT nP nC nU uT uD_68 uB_8) hx hb hK hP hD hS 8 0 rfl rfl e9 dX3_shortenAll_189 rfl (fun H locs hP hD hS => ?_)
                          refine lv_aload_n hx hb dX3_shortenAll_190 rfl (lv_at hl 5 rfl) ?_
                          refine va_get (D := (dC, dI)) (ci := 3) (v := .ref aUB) (C := RX3) (T := TX3) (N := 4) hx hb hts k1 hown hK hP 0 rfl rfl 3 (by decide) k10 (fun _ h9 => h9) rfl dX3_shortenAll_191 ?_
                          refine lv_iload hx hb dX3_shortenAll_194 (lv_at hl 2 rfl) ?_
                          refine lv_iload hx hb dX3_shortenAll_196 (lv_at hl 4 rfl) ?_
                          obtain ⟨uB_69, e9, g⟩ := bd g
                          refine q_iast (ws2 := wX3 cyI cyZ uc nw aF aT aP aC aU aUT aUD aUB nN nA nF nT nP nC nU uT uD_68 uB_69) hx hb hK hP hD hS 9 0 rfl rfl e9 dX3_shortenAll_198 rfl (fun H locs hP hD hS => ?_)
                          refine lv_iload hx hb dX3_shortenAll_199 (lv_at hl 2 rfl) ?_
                          refine lv_istore_n (lv' := [(2, .int t59), (9, .int (t60 + (-0))), (8, .int 0), (7, .int t59), (6, .int t57), (5, .int (((x3_2 * 15) + x4_6) - 1)), (0, .ref uc), (1, .int p0), (3, .int x3_2), (4, .int x4_6)]) hx hb dX3_shortenAll_201 rfl hl (by decide) rfl (fun ls hl => ?_)
                          refine lv_iinc (v := x4_6 + 1) (lv' := [(4, .int (x4_6 + 1)), (2, .int t59), (9, .int (t60 + (-0))), (8, .int 0), (7, .int t59), (6, .int t57), (5, .int (((x3_2 * 15) + x4_6) - 1)), (0, .ref uc), (1, .int p0), (3, .int x3_2)]) hx hb dX3_shortenAll_202 hl (k := 9) rfl (by rfl) (by decide) rfl (fun ls hl => ?_)
                          refine lv_goto (tgt := 18) hx hb dX3_shortenAll_205 (by decide) ?_
                          cases g
                          exact ih1 _ _ _ _ h _ _ hP hD hS _ (lv_sub hl [7, 8, 1, 9, 0] rfl)
                  · have g := ineg c9 g
                    refine lv_aload_n hx hb dX3_shortenAll_113 rfl (lv_at hl 3 rfl) ?_
                    refine va_get (D := (dC, dI)) (ci := 3) (v := .ref nw) (C := RX3) (T := TX3) (N := 4) hx hb hts k1 hown hK hP 0 rfl rfl 0 (by decide) k0 (fun _ h9 => h9) rfl dX3_shortenAll_114 ?_
                    refine lv_iload_n hx hb dX3_shortenAll_117 rfl (lv_at hl 6 rfl) ?_
                    refine lv_iload hx hb dX3_shortenAll_118 (lv_at hl 7 rfl) ?_
                    obtain ⟨r70, e9, g⟩ := bd g
                    refine q_callVi (ret := r70) (As := [.int x3_2, .int x4_6]) (w1 := wX2 cyI nw aF aT aP aC aU nN nA nF nT nP nC nU) (ws2 := wX3 cyI cyZ uc nw aF aT aP aC aU aUT aUD aUB nN nA nF nT nP nC nU uT uD_7 uB_8) ⟨hx, hb, hml, hown, hts⟩ (c_X2_unitPrice l dC dI cyI nw aF aT aP aC aU H.size nN nA nF nT nP nC nU x3_2 x4_6 _ e9) (cwV 2 hts gX3_shortenAll_X2_unitPrice rfl rfl rfl (by decide +kernel) ⟨Nat.le_of_ble_eq_true rfl, Nat.le_of_ble_eq_true rfl⟩) hK hP hD hS hA [1, 2, 3, 4, 5, 6] [0, 7, 8, 9] [0, 4, 5, 6, 7, 8, 9, 1, 2, 3] [0] rfl rfl rfl rfl (by decide) rfl rfl rfl 2 0 rfl rfl rfl hl.1 (Nat.le_of_ble_eq_true rfl) (Nat.le_of_ble_eq_true rfl) (Nat.le_of_ble_eq_true rfl) rfl dX3_shortenAll_120 (fun H locs hP hD hS => ?_)
                    refine lv_goto (tgt := 127) hx hb dX3_shortenAll_123 (by decide) ?_
                    refine lv_istore (lv' := [(8, .int r70), (7, .int t59), (6, .int t57), (5, .int (((x3_2 * 15) + x4_6) - 1)), (0, .ref uc), (1, .int p0), (2, .int x2_5), (3, .int x3_2), (4, .int x4_6)]) hx hb dX3_shortenAll_127 hl (by decide) rfl (fun ls hl => ?_)
                    refine lv_aload_n hx hb dX3_shortenAll_129 rfl (lv_at hl 4 rfl) ?_
                    refine va_get (D := (dC, dI)) (ci := 3) (v := .ref aUD) (C := RX3) (T := TX3) (N := 4) hx hb hts k1 hown hK hP 0 rfl rfl 2 (by decide) k8 (fun _ h9 => h9) rfl dX3_shortenAll_130 ?_
                    refine lv_iload hx hb dX3_shortenAll_133 (lv_at hl 2 rfl) ?_
                    obtain ⟨t71, e9, g⟩ := bd g
                    refine q_iald hx hb hK hP 8 0 rfl rfl e9 dX3_shortenAll_135 ?_
                    refine lv_aload_n hx hb dX3_shortenAll_136 rfl (lv_at hl 4 rfl) ?_
                    refine va_get (D := (dC, dI)) (ci := 3) (v := .ref aUT) (C := RX3) (T := TX3) (N := 4) hx hb hts k1 hown hK hP 0 rfl rfl 1 (by decide) k5 (fun _ h9 => h9) rfl dX3_shortenAll_137 ?_
                    refine lv_iload hx hb dX3_shortenAll_140 (lv_at hl 3 rfl) ?_
                    obtain ⟨t72, e9, g⟩ := bd g
                    refine q_zald hx hb hK hP 7 1 rfl rfl e9 dX3_shortenAll_142 ?_
                    refine lv_if_eq (tgt := 152) hx hb dX3_shortenAll_143 (by decide) (fun c9 => ?_) (fun c9 => ?_)
                    · have g := ipos c9 g
                      refine lv_iload hx hb dX3_shortenAll_152 (lv_at hl 0 rfl) ?_
                      refine lv_iadd hx hb dX3_shortenAll_154 ?_
                      refine lv_istore (lv' := [(9, .int (t71 + r70)), (8, .int r70), (7, .int t59), (6, .int t57), (5, .int (((x3_2 * 15) + x4_6) - 1)), (0, .ref uc), (1, .int p0), (2, .int x2_5), (3, .int x3_2), (4, .int x4_6)]) hx hb dX3_shortenAll_155 hl (by decide) rfl (fun ls hl => ?_)
                      refine lv_aload_n hx hb dX3_shortenAll_157 rfl (lv_at hl 5 rfl) ?_
                      refine va_get (D := (dC, dI)) (ci := 3) (v := .ref aUD) (C := RX3) (T := TX3) (N := 4) hx hb hts k1 hown hK hP 0 rfl rfl 2 (by decide) k8 (fun _ h9 => h9) rfl dX3_shortenAll_158 ?_
                      refine lv_iload hx hb dX3_shortenAll_161 (lv_at hl 3 rfl) ?_
                      obtain ⟨t73, e9, g⟩ := bd g
                      refine q_iald hx hb hK hP 8 0 rfl rfl e9 dX3_shortenAll_163 ?_
                      refine lv_ldc (own := RX3) (v := 1000000) hx hb hown k9 dX3_shortenAll_164 ?_
                      refine lv_icmp_ge (tgt := 202) hx hb dX3_shortenAll_166 (by decide) (fun c9 => ?_) (fun c9 => ?_)
                      · have g := ipos c9 g
                        refine lv_iinc (v := x4_6 + 1) (lv' := [(4, .int (x4_6 + 1)), (9, .int (t71 + r70)), (8, .int r70), (7, .int t59), (6, .int t57), (5, .int (((x3_2 * 15) + x4_6) - 1)), (0, .ref uc), (1, .int p0), (2, .int x2_5), (3, .int x3_2)]) hx hb dX3_shortenAll_202 hl (k := 9) rfl (by rfl) (by decide) rfl (fun ls hl => ?_)
                        refine lv_goto (tgt := 18) hx hb dX3_shortenAll_205 (by decide) ?_
                        cases g
                        exact ih1 _ _ _ _ h _ _ hP hD hS _ (lv_sub hl [6, 7, 8, 9, 0] rfl)
                      · have g := ineg c9 g
                        refine lv_iload hx hb dX3_shortenAll_169 (lv_at hl 0 rfl) ?_
                        refine lv_aload_n hx hb dX3_shortenAll_171 rfl (lv_at hl 5 rfl) ?_
                        refine va_get (D := (dC, dI)) (ci := 3) (v := .ref aUD) (C := RX3) (T := TX3) (N := 4) hx hb hts k1 hown hK hP 0 rfl rfl 2 (by decide) k8 (fun _ h9 => h9) rfl dX3_shortenAll_172 ?_
                        refine lv_iload hx hb dX3_shortenAll_175 (lv_at hl 2 rfl) ?_
                        obtain ⟨t74, e9, g⟩ := bd g
                        refine q_iald hx hb hK hP 8 0 rfl rfl e9 dX3_shortenAll_177 ?_
                        refine lv_icmp_ge (tgt := 202) hx hb dX3_shortenAll_178 (by decide) (fun c9 => ?_) (fun c9 => ?_)
                        · have g := ipos c9 g
                          refine lv_iinc (v := x4_6 + 1) (lv' := [(4, .int (x4_6 + 1)), (9, .int (t71 + r70)), (8, .int r70), (7, .int t59), (6, .int t57), (5, .int (((x3_2 * 15) + x4_6) - 1)), (0, .ref uc), (1, .int p0), (2, .int x2_5), (3, .int x3_2)]) hx hb dX3_shortenAll_202 hl (k := 9) rfl (by rfl) (by decide) rfl (fun ls hl => ?_)
                          refine lv_goto (tgt := 18) hx hb dX3_shortenAll_205 (by decide) ?_
                          cases g
                          exact ih1 _ _ _ _ h _ _ hP hD hS _ (lv_sub hl [6, 7, 8, 9, 0] rfl)
                        · have g := ineg c9 g
                          refine lv_aload_n hx hb dX3_shortenAll_181 rfl (lv_at hl 5 rfl) ?_
                          refine va_get (D := (dC, dI)) (ci := 3) (v := .ref aUD) (C := RX3) (T := TX3) (N := 4) hx hb hts k1 hown hK hP 0 rfl rfl 2 (by decide) k8 (fun _ h9 => h9) rfl dX3_shortenAll_182 ?_
                          refine lv_iload hx hb dX3_shortenAll_185 (lv_at hl 2 rfl) ?_
                          refine lv_iload hx hb dX3_shortenAll_187 (lv_at hl 0 rfl) ?_
                          obtain ⟨uD_75, e9, g⟩ := bd g
                          refine q_iast (ws2 := wX3 cyI cyZ uc nw aF aT aP aC aU aUT aUD aUB nN nA nF nT nP nC nU uT uD_75 uB_8) hx hb hK hP hD hS 8 0 rfl rfl e9 dX3_shortenAll_189 rfl (fun H locs hP hD hS => ?_)
                          refine lv_aload_n hx hb dX3_shortenAll_190 rfl (lv_at hl 5 rfl) ?_
                          refine va_get (D := (dC, dI)) (ci := 3) (v := .ref aUB) (C := RX3) (T := TX3) (N := 4) hx hb hts k1 hown hK hP 0 rfl rfl 3 (by decide) k10 (fun _ h9 => h9) rfl dX3_shortenAll_191 ?_
                          refine lv_iload hx hb dX3_shortenAll_194 (lv_at hl 2 rfl) ?_
                          refine lv_iload hx hb dX3_shortenAll_196 (lv_at hl 4 rfl) ?_
                          obtain ⟨uB_76, e9, g⟩ := bd g
                          refine q_iast (ws2 := wX3 cyI cyZ uc nw aF aT aP aC aU aUT aUD aUB nN nA nF nT nP nC nU uT uD_75 uB_76) hx hb hK hP hD hS 9 0 rfl rfl e9 dX3_shortenAll_198 rfl (fun H locs hP hD hS => ?_)
                          refine lv_iload hx hb dX3_shortenAll_199 (lv_at hl 2 rfl) ?_
                          refine lv_istore_n (lv' := [(2, .int t59), (9, .int (t71 + r70)), (8, .int r70), (7, .int t59), (6, .int t57), (5, .int (((x3_2 * 15) + x4_6) - 1)), (0, .ref uc), (1, .int p0), (3, .int x3_2), (4, .int x4_6)]) hx hb dX3_shortenAll_201 rfl hl (by decide) rfl (fun ls hl => ?_)
                          refine lv_iinc (v := x4_6 + 1) (lv' := [(4, .int (x4_6 + 1)), (2, .int t59), (9, .int (t71 + r70)), (8, .int r70), (7, .int t59), (6, .int t57), (5, .int (((x3_2 * 15) + x4_6) - 1)), (0, .ref uc), (1, .int p0), (3, .int x3_2)]) hx hb dX3_shortenAll_202 hl (k := 9) rfl (by rfl) (by decide) rfl (fun ls hl => ?_)
                          refine lv_goto (tgt := 18) hx hb dX3_shortenAll_205 (by decide) ?_
                          cases g
                          exact ih1 _ _ _ _ h _ _ hP hD hS _ (lv_sub hl [7, 8, 1, 9, 0] rfl)
                    · have g := ineg c9 g
                      refine lv_iload hx hb dX3_shortenAll_146 (lv_at hl 0 rfl) ?_
                      refine lv_ineg hx hb dX3_shortenAll_148 ?_
                      refine lv_goto (tgt := 154) hx hb dX3_shortenAll_149 (by decide) ?_
                      refine lv_iadd hx hb dX3_shortenAll_154 ?_
                      refine lv_istore (lv' := [(9, .int (t71 + (-r70))), (8, .int r70), (7, .int t59), (6, .int t57), (5, .int (((x3_2 * 15) + x4_6) - 1)), (0, .ref uc), (1, .int p0), (2, .int x2_5), (3, .int x3_2), (4, .int x4_6)]) hx hb dX3_shortenAll_155 hl (by decide) rfl (fun ls hl => ?_)
                      refine lv_aload_n hx hb dX3_shortenAll_157 rfl (lv_at hl 5 rfl) ?_
                      refine va_get (D := (dC, dI)) (ci := 3) (v := .ref aUD) (C := RX3) (T := TX3) (N := 4) hx hb hts k1 hown hK hP 0 rfl rfl 2 (by decide) k8 (fun _ h9 => h9) rfl dX3_shortenAll_158 ?_
                      refine lv_iload hx hb dX3_shortenAll_161 (lv_at hl 3 rfl) ?_
                      obtain ⟨t77, e9, g⟩ := bd g
                      refine q_iald hx hb hK hP 8 0 rfl rfl e9 dX3_shortenAll_163 ?_
                      refine lv_ldc (own := RX3) (v := 1000000) hx hb hown k9 dX3_shortenAll_164 ?_
                      refine lv_icmp_ge (tgt := 202) hx hb dX3_shortenAll_166 (by decide) (fun c9 => ?_) (fun c9 => ?_)
                      · have g := ipos c9 g
                        refine lv_iinc (v := x4_6 + 1) (lv' := [(4, .int (x4_6 + 1)), (9, .int (t71 + (-r70))), (8, .int r70), (7, .int t59), (6, .int t57), (5, .int (((x3_2 * 15) + x4_6) - 1)), (0, .ref uc), (1, .int p0), (2, .int x2_5), (3, .int x3_2)]) hx hb dX3_shortenAll_202 hl (k := 9) rfl (by rfl) (by decide) rfl (fun ls hl => ?_)
                        refine lv_goto (tgt := 18) hx hb dX3_shortenAll_205 (by decide) ?_
                        cases g
                        exact ih1 _ _ _ _ h _ _ hP hD hS _ (lv_sub hl [6, 7, 8, 9, 0] rfl)
                      · have g := ineg c9 g
                        refine lv_iload hx hb dX3_shortenAll_169 (lv_at hl 0 rfl) ?_
                        refine lv_aload_n hx hb dX3_shortenAll_171 rfl (lv_at hl 5 rfl) ?_
                        refine va_get (D := (dC, dI)) (ci := 3) (v := .ref aUD) (C := RX3) (T := TX3) (N := 4) hx hb hts k1 hown hK hP 0 rfl rfl 2 (by decide) k8 (fun _ h9 => h9) rfl dX3_shortenAll_172 ?_
                        refine lv_iload hx hb dX3_shortenAll_175 (lv_at hl 2 rfl) ?_
                        obtain ⟨t78, e9, g⟩ := bd g
                        refine q_iald hx hb hK hP 8 0 rfl rfl e9 dX3_shortenAll_177 ?_
                        refine lv_icmp_ge (tgt := 202) hx hb dX3_shortenAll_178 (by decide) (fun c9 => ?_) (fun c9 => ?_)
                        · have g := ipos c9 g
                          refine lv_iinc (v := x4_6 + 1) (lv' := [(4, .int (x4_6 + 1)), (9, .int (t71 + (-r70))), (8, .int r70), (7, .int t59), (6, .int t57), (5, .int (((x3_2 * 15) + x4_6) - 1)), (0, .ref uc), (1, .int p0), (2, .int x2_5), (3, .int x3_2)]) hx hb dX3_shortenAll_202 hl (k := 9) rfl (by rfl) (by decide) rfl (fun ls hl => ?_)
                          refine lv_goto (tgt := 18) hx hb dX3_shortenAll_205 (by decide) ?_
                          cases g
                          exact ih1 _ _ _ _ h _ _ hP hD hS _ (lv_sub hl [6, 7, 8, 9, 0] rfl)
                        · have g := ineg c9 g
                          refine lv_aload_n hx hb dX3_shortenAll_181 rfl (lv_at hl 5 rfl) ?_
                          refine va_get (D := (dC, dI)) (ci := 3) (v := .ref aUD) (C := RX3) (T := TX3) (N := 4) hx hb hts k1 hown hK hP 0 rfl rfl 2 (by decide) k8 (fun _ h9 => h9) rfl dX3_shortenAll_182 ?_
                          refine lv_iload hx hb dX3_shortenAll_185 (lv_at hl 2 rfl) ?_
                          refine lv_iload hx hb dX3_shortenAll_187 (lv_at hl 0 rfl) ?_
                          obtain ⟨uD_79, e9, g⟩ := bd g
                          refine q_iast (ws2 := wX3 cyI cyZ uc nw aF aT aP aC aU aUT aUD aUB nN nA nF nT nP nC nU uT uD_79 uB_8) hx hb hK hP hD hS 8 0 rfl rfl e9 dX3_shortenAll_189 rfl (fun H locs hP hD hS => ?_)
                          refine lv_aload_n hx hb dX3_shortenAll_190 rfl (lv_at hl 5 rfl) ?_
                          refine va_get (D := (dC, dI)) (ci := 3) (v := .ref aUB) (C := RX3) (T := TX3) (N := 4) hx hb hts k1 hown hK hP 0 rfl rfl 3 (by decide) k10 (fun _ h9 => h9) rfl dX3_shortenAll_191 ?_
                          refine lv_iload hx hb dX3_shortenAll_194 (lv_at hl 2 rfl) ?_
                          refine lv_iload hx hb dX3_shortenAll_196 (lv_at hl 4 rfl) ?_
                          obtain ⟨uB_80, e9, g⟩ := bd g
                          refine q_iast (ws2 := wX3 cyI cyZ uc nw aF aT aP aC aU aUT aUD aUB nN nA nF nT nP nC nU uT uD_79 uB_80) hx hb hK hP hD hS 9 0 rfl rfl e9 dX3_shortenAll_198 rfl (fun H locs hP hD hS => ?_)
                          refine lv_iload hx hb dX3_shortenAll_199 (lv_at hl 2 rfl) ?_
                          refine lv_istore_n (lv' := [(2, .int t59), (9, .int (t71 + (-r70))), (8, .int r70), (7, .int t59), (6, .int t57), (5, .int (((x3_2 * 15) + x4_6) - 1)), (0, .ref uc), (1, .int p0), (3, .int x3_2), (4, .int x4_6)]) hx hb dX3_shortenAll_201 rfl hl (by decide) rfl (fun ls hl => ?_)
                          refine lv_iinc (v := x4_6 + 1) (lv' := [(4, .int (x4_6 + 1)), (2, .int t59), (9, .int (t71 + (-r70))), (8, .int r70), (7, .int t59), (6, .int t57), (5, .int (((x3_2 * 15) + x4_6) - 1)), (0, .ref uc), (1, .int p0), (3, .int x3_2)]) hx hb dX3_shortenAll_202 hl (k := 9) rfl (by rfl) (by decide) rfl (fun ls hl => ?_)
                          refine lv_goto (tgt := 18) hx hb dX3_shortenAll_205 (by decide) ?_
                          cases g
                          exact ih1 _ _ _ _ h _ _ hP hD hS _ (lv_sub hl [7, 8, 1, 9, 0] rfl)
                · have g := ineg c9 g
                  refine lv_aload_n hx hb dX3_shortenAll_86 rfl (lv_at hl 2 rfl) ?_
                  refine va_get (D := (dC, dI)) (ci := 3) (v := .ref nw) (C := RX3) (T := TX3) (N := 4) hx hb hts k1 hown hK hP 0 rfl rfl 0 (by decide) k0 (fun _ h9 => h9) rfl dX3_shortenAll_87 ?_
                  refine va_get (D := (dC, dI)) (ci := 2) (v := .ref aF) (C := RX2) (T := TX2) (N := 7) hx hb hts k3 hown hK hP 1 rfl rfl 2 (by decide) k6 (fun _ h9 => h9) rfl dX3_shortenAll_90 ?_
                  refine lv_iload_n hx hb dX3_shortenAll_93 rfl (lv_at hl 5 rfl) ?_
                  obtain ⟨t81, e9, g⟩ := bd g
                  refine q_iald hx hb hK hP 2 0 rfl rfl e9 dX3_shortenAll_94 ?_
                  refine lv_goto (tgt := 107) hx hb dX3_shortenAll_95 (by decide) ?_
                  refine lv_istore (lv' := [(7, .int t81), (6, .int t57), (5, .int (((x3_2 * 15) + x4_6) - 1)), (0, .ref uc), (1, .int p0), (2, .int x2_5), (3, .int x3_2), (4, .int x4_6)]) hx hb dX3_shortenAll_107 hl (by decide) rfl (fun ls hl => ?_)
                  refine lv_iload_n hx hb dX3_shortenAll_109 rfl (lv_at hl 4 rfl) ?_
                  refine lv_if_eq (tgt := 126) hx hb dX3_shortenAll_110 (by decide) (fun c9 => ?_) (fun c9 => ?_)
                  · have g := ipos c9 g
                    refine lv_iconst (v := 0) hx hb dX3_shortenAll_126 (by decide) ?_
                    refine lv_istore (lv' := [(8, .int 0), (7, .int t81), (6, .int t57), (5, .int (((x3_2 * 15) + x4_6) - 1)), (0, .ref uc), (1, .int p0), (2, .int x2_5), (3, .int x3_2), (4, .int x4_6)]) hx hb dX3_shortenAll_127 hl (by decide) rfl (fun ls hl => ?_)
                    refine lv_aload_n hx hb dX3_shortenAll_129 rfl (lv_at hl 4 rfl) ?_
                    refine va_get (D := (dC, dI)) (ci := 3) (v := .ref aUD) (C := RX3) (T := TX3) (N := 4) hx hb hts k1 hown hK hP 0 rfl rfl 2 (by decide) k8 (fun _ h9 => h9) rfl dX3_shortenAll_130 ?_
                    refine lv_iload hx hb dX3_shortenAll_133 (lv_at hl 2 rfl) ?_
                    obtain ⟨t82, e9, g⟩ := bd g
                    refine q_iald hx hb hK hP 8 0 rfl rfl e9 dX3_shortenAll_135 ?_
                    refine lv_aload_n hx hb dX3_shortenAll_136 rfl (lv_at hl 4 rfl) ?_
                    refine va_get (D := (dC, dI)) (ci := 3) (v := .ref aUT) (C := RX3) (T := TX3) (N := 4) hx hb hts k1 hown hK hP 0 rfl rfl 1 (by decide) k5 (fun _ h9 => h9) rfl dX3_shortenAll_137 ?_
                    refine lv_iload hx hb dX3_shortenAll_140 (lv_at hl 3 rfl) ?_
                    obtain ⟨t83, e9, g⟩ := bd g
                    refine q_zald hx hb hK hP 7 1 rfl rfl e9 dX3_shortenAll_142 ?_
                    refine lv_if_eq (tgt := 152) hx hb dX3_shortenAll_143 (by decide) (fun c9 => ?_) (fun c9 => ?_)
                    · have g := ipos c9 g
                      refine lv_iload hx hb dX3_shortenAll_152 (lv_at hl 0 rfl) ?_
                      refine lv_iadd hx hb dX3_shortenAll_154 ?_
                      refine lv_istore (lv' := [(9, .int (t82 + 0)), (8, .int 0), (7, .int t81), (6, .int t57), (5, .int (((x3_2 * 15) + x4_6) - 1)), (0, .ref uc), (1, .int p0), (2, .int x2_5), (3, .int x3_2), (4, .int x4_6)]) hx hb dX3_shortenAll_155 hl (by decide) rfl (fun ls hl => ?_)
                      refine lv_aload_n hx hb dX3_shortenAll_157 rfl (lv_at hl 5 rfl) ?_
                      refine va_get (D := (dC, dI)) (ci := 3) (v := .ref aUD) (C := RX3) (T := TX3) (N := 4) hx hb hts k1 hown hK hP 0 rfl rfl 2 (by decide) k8 (fun _ h9 => h9) rfl dX3_shortenAll_158 ?_
                      refine lv_iload hx hb dX3_shortenAll_161 (lv_at hl 3 rfl) ?_
                      obtain ⟨t84, e9, g⟩ := bd g
                      refine q_iald hx hb hK hP 8 0 rfl rfl e9 dX3_shortenAll_163 ?_
                      refine lv_ldc (own := RX3) (v := 1000000) hx hb hown k9 dX3_shortenAll_164 ?_
                      refine lv_icmp_ge (tgt := 202) hx hb dX3_shortenAll_166 (by decide) (fun c9 => ?_) (fun c9 => ?_)
                      · have g := ipos c9 g
                        refine lv_iinc (v := x4_6 + 1) (lv' := [(4, .int (x4_6 + 1)), (9, .int (t82 + 0)), (8, .int 0), (7, .int t81), (6, .int t57), (5, .int (((x3_2 * 15) + x4_6) - 1)), (0, .ref uc), (1, .int p0), (2, .int x2_5), (3, .int x3_2)]) hx hb dX3_shortenAll_202 hl (k := 9) rfl (by rfl) (by decide) rfl (fun ls hl => ?_)
                        refine lv_goto (tgt := 18) hx hb dX3_shortenAll_205 (by decide) ?_
                        cases g
                        exact ih1 _ _ _ _ h _ _ hP hD hS _ (lv_sub hl [6, 7, 8, 9, 0] rfl)
                      · have g := ineg c9 g
                        refine lv_iload hx hb dX3_shortenAll_169 (lv_at hl 0 rfl) ?_
                        refine lv_aload_n hx hb dX3_shortenAll_171 rfl (lv_at hl 5 rfl) ?_
                        refine va_get (D := (dC, dI)) (ci := 3) (v := .ref aUD) (C := RX3) (T := TX3) (N := 4) hx hb hts k1 hown hK hP 0 rfl rfl 2 (by decide) k8 (fun _ h9 => h9) rfl dX3_shortenAll_172 ?_
                        refine lv_iload hx hb dX3_shortenAll_175 (lv_at hl 2 rfl) ?_
                        obtain ⟨t85, e9, g⟩ := bd g
                        refine q_iald hx hb hK hP 8 0 rfl rfl e9 dX3_shortenAll_177 ?_
                        refine lv_icmp_ge (tgt := 202) hx hb dX3_shortenAll_178 (by decide) (fun c9 => ?_) (fun c9 => ?_)
                        · have g := ipos c9 g
                          refine lv_iinc (v := x4_6 + 1) (lv' := [(4, .int (x4_6 + 1)), (9, .int (t82 + 0)), (8, .int 0), (7, .int t81), (6, .int t57), (5, .int (((x3_2 * 15) + x4_6) - 1)), (0, .ref uc), (1, .int p0), (2, .int x2_5), (3, .int x3_2)]) hx hb dX3_shortenAll_202 hl (k := 9) rfl (by rfl) (by decide) rfl (fun ls hl => ?_)
                          refine lv_goto (tgt := 18) hx hb dX3_shortenAll_205 (by decide) ?_
                          cases g
                          exact ih1 _ _ _ _ h _ _ hP hD hS _ (lv_sub hl [6, 7, 8, 9, 0] rfl)
                        · have g := ineg c9 g
                          refine lv_aload_n hx hb dX3_shortenAll_181 rfl (lv_at hl 5 rfl) ?_
                          refine va_get (D := (dC, dI)) (ci := 3) (v := .ref aUD) (C := RX3) (T := TX3) (N := 4) hx hb hts k1 hown hK hP 0 rfl rfl 2 (by decide) k8 (fun _ h9 => h9) rfl dX3_shortenAll_182 ?_
                          refine lv_iload hx hb dX3_shortenAll_185 (lv_at hl 2 rfl) ?_
                          refine lv_iload hx hb dX3_shortenAll_187 (lv_at hl 0 rfl) ?_
                          obtain ⟨uD_86, e9, g⟩ := bd g
                          refine q_iast (ws2 := wX3 cyI cyZ uc nw aF aT aP aC aU aUT aUD aUB nN nA nF nT nP nC nU uT uD_86 uB_8) hx hb hK hP hD hS 8 0 rfl rfl e9 dX3_shortenAll_189 rfl (fun H locs hP hD hS => ?_)
                          refine lv_aload_n hx hb dX3_shortenAll_190 rfl (lv_at hl 5 rfl) ?_
                          refine va_get (D := (dC, dI)) (ci := 3) (v := .ref aUB) (C := RX3) (T := TX3) (N := 4) hx hb hts k1 hown hK hP 0 rfl rfl 3 (by decide) k10 (fun _ h9 => h9) rfl dX3_shortenAll_191 ?_
                          refine lv_iload hx hb dX3_shortenAll_194 (lv_at hl 2 rfl) ?_
                          refine lv_iload hx hb dX3_shortenAll_196 (lv_at hl 4 rfl) ?_
                          obtain ⟨uB_87, e9, g⟩ := bd g
                          refine q_iast (ws2 := wX3 cyI cyZ uc nw aF aT aP aC aU aUT aUD aUB nN nA nF nT nP nC nU uT uD_86 uB_87) hx hb hK hP hD hS 9 0 rfl rfl e9 dX3_shortenAll_198 rfl (fun H locs hP hD hS => ?_)
                          refine lv_iload hx hb dX3_shortenAll_199 (lv_at hl 2 rfl) ?_
                          refine lv_istore_n (lv' := [(2, .int t81), (9, .int (t82 + 0)), (8, .int 0), (7, .int t81), (6, .int t57), (5, .int (((x3_2 * 15) + x4_6) - 1)), (0, .ref uc), (1, .int p0), (3, .int x3_2), (4, .int x4_6)]) hx hb dX3_shortenAll_201 rfl hl (by decide) rfl (fun ls hl => ?_)
                          refine lv_iinc (v := x4_6 + 1) (lv' := [(4, .int (x4_6 + 1)), (2, .int t81), (9, .int (t82 + 0)), (8, .int 0), (7, .int t81), (6, .int t57), (5, .int (((x3_2 * 15) + x4_6) - 1)), (0, .ref uc), (1, .int p0), (3, .int x3_2)]) hx hb dX3_shortenAll_202 hl (k := 9) rfl (by rfl) (by decide) rfl (fun ls hl => ?_)
                          refine lv_goto (tgt := 18) hx hb dX3_shortenAll_205 (by decide) ?_
                          cases g
                          exact ih1 _ _ _ _ h _ _ hP hD hS _ (lv_sub hl [7, 8, 1, 9, 0] rfl)
                    · have g := ineg c9 g
                      refine lv_iload hx hb dX3_shortenAll_146 (lv_at hl 0 rfl) ?_
                      refine lv_ineg hx hb dX3_shortenAll_148 ?_
                      refine lv_goto (tgt := 154) hx hb dX3_shortenAll_149 (by decide) ?_
                      refine lv_iadd hx hb dX3_shortenAll_154 ?_
                      refine lv_istore (lv' := [(9, .int (t82 + (-0))), (8, .int 0), (7, .int t81), (6, .int t57), (5, .int (((x3_2 * 15) + x4_6) - 1)), (0, .ref uc), (1, .int p0), (2, .int x2_5), (3, .int x3_2), (4, .int x4_6)]) hx hb dX3_shortenAll_155 hl (by decide) rfl (fun ls hl => ?_)
                      refine lv_aload_n hx hb dX3_shortenAll_157 rfl (lv_at hl 5 rfl) ?_
                      refine va_get (D := (dC, dI)) (ci := 3) (v := .ref aUD) (C := RX3) (T := TX3) (N := 4) hx hb hts k1 hown hK hP 0 rfl rfl 2 (by decide) k8 (fun _ h9 => h9) rfl dX3_shortenAll_158 ?_
                      refine lv_iload hx hb dX3_shortenAll_161 (lv_at hl 3 rfl) ?_
                      obtain ⟨t88, e9, g⟩ := bd g
                      refine q_iald hx hb hK hP 8 0 rfl rfl e9 dX3_shortenAll_163 ?_
                      refine lv_ldc (own := RX3) (v := 1000000) hx hb hown k9 dX3_shortenAll_164 ?_
                      refine lv_icmp_ge (tgt := 202) hx hb dX3_shortenAll_166 (by decide) (fun c9 => ?_) (fun c9 => ?_)
                      · have g := ipos c9 g
                        refine lv_iinc (v := x4_6 + 1) (lv' := [(4, .int (x4_6 + 1)), (9, .int (t82 + (-0))), (8, .int 0), (7, .int t81), (6, .int t57), (5, .int (((x3_2 * 15) + x4_6) - 1)), (0, .ref uc), (1, .int p0), (2, .int x2_5), (3, .int x3_2)]) hx hb dX3_shortenAll_202 hl (k := 9) rfl (by rfl) (by decide) rfl (fun ls hl => ?_)
                        refine lv_goto (tgt := 18) hx hb dX3_shortenAll_205 (by decide) ?_
                        cases g
                        exact ih1 _ _ _ _ h _ _ hP hD hS _ (lv_sub hl [6, 7, 8, 9, 0] rfl)
                      · have g := ineg c9 g
                        refine lv_iload hx hb dX3_shortenAll_169 (lv_at hl 0 rfl) ?_
                        refine lv_aload_n hx hb dX3_shortenAll_171 rfl (lv_at hl 5 rfl) ?_
                        refine va_get (D := (dC, dI)) (ci := 3) (v := .ref aUD) (C := RX3) (T := TX3) (N := 4) hx hb hts k1 hown hK hP 0 rfl rfl 2 (by decide) k8 (fun _ h9 => h9) rfl dX3_shortenAll_172 ?_
                        refine lv_iload hx hb dX3_shortenAll_175 (lv_at hl 2 rfl) ?_
                        obtain ⟨t89, e9, g⟩ := bd g
                        refine q_iald hx hb hK hP 8 0 rfl rfl e9 dX3_shortenAll_177 ?_
                        refine lv_icmp_ge (tgt := 202) hx hb dX3_shortenAll_178 (by decide) (fun c9 => ?_) (fun c9 => ?_)
                        · have g := ipos c9 g
                          refine lv_iinc (v := x4_6 + 1) (lv' := [(4, .int (x4_6 + 1)), (9, .int (t82 + (-0))), (8, .int 0), (7, .int t81), (6, .int t57), (5, .int (((x3_2 * 15) + x4_6) - 1)), (0, .ref uc), (1, .int p0), (2, .int x2_5), (3, .int x3_2)]) hx hb dX3_shortenAll_202 hl (k := 9) rfl (by rfl) (by decide) rfl (fun ls hl => ?_)
                          refine lv_goto (tgt := 18) hx hb dX3_shortenAll_205 (by decide) ?_
                          cases g
                          exact ih1 _ _ _ _ h _ _ hP hD hS _ (lv_sub hl [6, 7, 8, 9, 0] rfl)
                        · have g := ineg c9 g
                          refine lv_aload_n hx hb dX3_shortenAll_181 rfl (lv_at hl 5 rfl) ?_
                          refine va_get (D := (dC, dI)) (ci := 3) (v := .ref aUD) (C := RX3) (T := TX3) (N := 4) hx hb hts k1 hown hK hP 0 rfl rfl 2 (by decide) k8 (fun _ h9 => h9) rfl dX3_shortenAll_182 ?_
                          refine lv_iload hx hb dX3_shortenAll_185 (lv_at hl 2 rfl) ?_
                          refine lv_iload hx hb dX3_shortenAll_187 (lv_at hl 0 rfl) ?_
                          obtain ⟨uD_90, e9, g⟩ := bd g
                          refine q_iast (ws2 := wX3 cyI cyZ uc nw aF aT aP aC aU aUT aUD aUB nN nA nF nT nP nC nU uT uD_90 uB_8) hx hb hK hP hD hS 8 0 rfl rfl e9 dX3_shortenAll_189 rfl (fun H locs hP hD hS => ?_)
                          refine lv_aload_n hx hb dX3_shortenAll_190 rfl (lv_at hl 5 rfl) ?_
                          refine va_get (D := (dC, dI)) (ci := 3) (v := .ref aUB) (C := RX3) (T := TX3) (N := 4) hx hb hts k1 hown hK hP 0 rfl rfl 3 (by decide) k10 (fun _ h9 => h9) rfl dX3_shortenAll_191 ?_
                          refine lv_iload hx hb dX3_shortenAll_194 (lv_at hl 2 rfl) ?_
                          refine lv_iload hx hb dX3_shortenAll_196 (lv_at hl 4 rfl) ?_
                          obtain ⟨uB_91, e9, g⟩ := bd g
                          refine q_iast (ws2 := wX3 cyI cyZ uc nw aF aT aP aC aU aUT aUD aUB nN nA nF nT nP nC nU uT uD_90 uB_91) hx hb hK hP hD hS 9 0 rfl rfl e9 dX3_shortenAll_198 rfl (fun H locs hP hD hS => ?_)
                          refine lv_iload hx hb dX3_shortenAll_199 (lv_at hl 2 rfl) ?_
                          refine lv_istore_n (lv' := [(2, .int t81), (9, .int (t82 + (-0))), (8, .int 0), (7, .int t81), (6, .int t57), (5, .int (((x3_2 * 15) + x4_6) - 1)), (0, .ref uc), (1, .int p0), (3, .int x3_2), (4, .int x4_6)]) hx hb dX3_shortenAll_201 rfl hl (by decide) rfl (fun ls hl => ?_)
                          refine lv_iinc (v := x4_6 + 1) (lv' := [(4, .int (x4_6 + 1)), (2, .int t81), (9, .int (t82 + (-0))), (8, .int 0), (7, .int t81), (6, .int t57), (5, .int (((x3_2 * 15) + x4_6) - 1)), (0, .ref uc), (1, .int p0), (3, .int x3_2)]) hx hb dX3_shortenAll_202 hl (k := 9) rfl (by rfl) (by decide) rfl (fun ls hl => ?_)
                          refine lv_goto (tgt := 18) hx hb dX3_shortenAll_205 (by decide) ?_
                          cases g
                          exact ih1 _ _ _ _ h _ _ hP hD hS _ (lv_sub hl [7, 8, 1, 9, 0] rfl)
                  · have g := ineg c9 g
                    refine lv_aload_n hx hb dX3_shortenAll_113 rfl (lv_at hl 3 rfl) ?_
                    refine va_get (D := (dC, dI)) (ci := 3) (v := .ref nw) (C := RX3) (T := TX3) (N := 4) hx hb hts k1 hown hK hP 0 rfl rfl 0 (by decide) k0 (fun _ h9 => h9) rfl dX3_shortenAll_114 ?_
                    refine lv_iload_n hx hb dX3_shortenAll_117 rfl (lv_at hl 6 rfl) ?_
                    refine lv_iload hx hb dX3_shortenAll_118 (lv_at hl 7 rfl) ?_
                    obtain ⟨r92, e9, g⟩ := bd g
                    refine q_callVi (ret := r92) (As := [.int x3_2, .int x4_6]) (w1 := wX2 cyI nw aF aT aP aC aU nN nA nF nT nP nC nU) (ws2 := wX3 cyI cyZ uc nw aF aT aP aC aU aUT aUD aUB nN nA nF nT nP nC nU uT uD_7 uB_8) ⟨hx, hb, hml, hown, hts⟩ (c_X2_unitPrice l dC dI cyI nw aF aT aP aC aU H.size nN nA nF nT nP nC nU x3_2 x4_6 _ e9) (cwV 2 hts gX3_shortenAll_X2_unitPrice rfl rfl rfl (by decide +kernel) ⟨Nat.le_of_ble_eq_true rfl, Nat.le_of_ble_eq_true rfl⟩) hK hP hD hS hA [1, 2, 3, 4, 5, 6] [0, 7, 8, 9] [0, 4, 5, 6, 7, 8, 9, 1, 2, 3] [0] rfl rfl rfl rfl (by decide) rfl rfl rfl 2 0 rfl rfl rfl hl.1 (Nat.le_of_ble_eq_true rfl) (Nat.le_of_ble_eq_true rfl) (Nat.le_of_ble_eq_true rfl) rfl dX3_shortenAll_120 (fun H locs hP hD hS => ?_)
                    refine lv_goto (tgt := 127) hx hb dX3_shortenAll_123 (by decide) ?_
                    refine lv_istore (lv' := [(8, .int r92), (7, .int t81), (6, .int t57), (5, .int (((x3_2 * 15) + x4_6) - 1)), (0, .ref uc), (1, .int p0), (2, .int x2_5), (3, .int x3_2), (4, .int x4_6)]) hx hb dX3_shortenAll_127 hl (by decide) rfl (fun ls hl => ?_)
                    refine lv_aload_n hx hb dX3_shortenAll_129 rfl (lv_at hl 4 rfl) ?_
                    refine va_get (D := (dC, dI)) (ci := 3) (v := .ref aUD) (C := RX3) (T := TX3) (N := 4) hx hb hts k1 hown hK hP 0 rfl rfl 2 (by decide) k8 (fun _ h9 => h9) rfl dX3_shortenAll_130 ?_
                    refine lv_iload hx hb dX3_shortenAll_133 (lv_at hl 2 rfl) ?_
                    obtain ⟨t93, e9, g⟩ := bd g
                    refine q_iald hx hb hK hP 8 0 rfl rfl e9 dX3_shortenAll_135 ?_
                    refine lv_aload_n hx hb dX3_shortenAll_136 rfl (lv_at hl 4 rfl) ?_
                    refine va_get (D := (dC, dI)) (ci := 3) (v := .ref aUT) (C := RX3) (T := TX3) (N := 4) hx hb hts k1 hown hK hP 0 rfl rfl 1 (by decide) k5 (fun _ h9 => h9) rfl dX3_shortenAll_137 ?_
                    refine lv_iload hx hb dX3_shortenAll_140 (lv_at hl 3 rfl) ?_
                    obtain ⟨t94, e9, g⟩ := bd g
                    refine q_zald hx hb hK hP 7 1 rfl rfl e9 dX3_shortenAll_142 ?_
                    refine lv_if_eq (tgt := 152) hx hb dX3_shortenAll_143 (by decide) (fun c9 => ?_) (fun c9 => ?_)
                    · have g := ipos c9 g
                      refine lv_iload hx hb dX3_shortenAll_152 (lv_at hl 0 rfl) ?_
                      refine lv_iadd hx hb dX3_shortenAll_154 ?_
                      refine lv_istore (lv' := [(9, .int (t93 + r92)), (8, .int r92), (7, .int t81), (6, .int t57), (5, .int (((x3_2 * 15) + x4_6) - 1)), (0, .ref uc), (1, .int p0), (2, .int x2_5), (3, .int x3_2), (4, .int x4_6)]) hx hb dX3_shortenAll_155 hl (by decide) rfl (fun ls hl => ?_)
                      refine lv_aload_n hx hb dX3_shortenAll_157 rfl (lv_at hl 5 rfl) ?_
                      refine va_get (D := (dC, dI)) (ci := 3) (v := .ref aUD) (C := RX3) (T := TX3) (N := 4) hx hb hts k1 hown hK hP 0 rfl rfl 2 (by decide) k8 (fun _ h9 => h9) rfl dX3_shortenAll_158 ?_
                      refine lv_iload hx hb dX3_shortenAll_161 (lv_at hl 3 rfl) ?_
                      obtain ⟨t95, e9, g⟩ := bd g
                      refine q_iald hx hb hK hP 8 0 rfl rfl e9 dX3_shortenAll_163 ?_
                      refine lv_ldc (own := RX3) (v := 1000000) hx hb hown k9 dX3_shortenAll_164 ?_
                      refine lv_icmp_ge (tgt := 202) hx hb dX3_shortenAll_166 (by decide) (fun c9 => ?_) (fun c9 => ?_)
                      · have g := ipos c9 g
                        refine lv_iinc (v := x4_6 + 1) (lv' := [(4, .int (x4_6 + 1)), (9, .int (t93 + r92)), (8, .int r92), (7, .int t81), (6, .int t57), (5, .int (((x3_2 * 15) + x4_6) - 1)), (0, .ref uc), (1, .int p0), (2, .int x2_5), (3, .int x3_2)]) hx hb dX3_shortenAll_202 hl (k := 9) rfl (by rfl) (by decide) rfl (fun ls hl => ?_)
                        refine lv_goto (tgt := 18) hx hb dX3_shortenAll_205 (by decide) ?_
                        cases g
                        exact ih1 _ _ _ _ h _ _ hP hD hS _ (lv_sub hl [6, 7, 8, 9, 0] rfl)
                      · have g := ineg c9 g
                        refine lv_iload hx hb dX3_shortenAll_169 (lv_at hl 0 rfl) ?_
                        refine lv_aload_n hx hb dX3_shortenAll_171 rfl (lv_at hl 5 rfl) ?_
                        refine va_get (D := (dC, dI)) (ci := 3) (v := .ref aUD) (C := RX3) (T := TX3) (N := 4) hx hb hts k1 hown hK hP 0 rfl rfl 2 (by decide) k8 (fun _ h9 => h9) rfl dX3_shortenAll_172 ?_
                        refine lv_iload hx hb dX3_shortenAll_175 (lv_at hl 2 rfl) ?_
                        obtain ⟨t96, e9, g⟩ := bd g
                        refine q_iald hx hb hK hP 8 0 rfl rfl e9 dX3_shortenAll_177 ?_
                        refine lv_icmp_ge (tgt := 202) hx hb dX3_shortenAll_178 (by decide) (fun c9 => ?_) (fun c9 => ?_)
                        · have g := ipos c9 g
                          refine lv_iinc (v := x4_6 + 1) (lv' := [(4, .int (x4_6 + 1)), (9, .int (t93 + r92)), (8, .int r92), (7, .int t81), (6, .int t57), (5, .int (((x3_2 * 15) + x4_6) - 1)), (0, .ref uc), (1, .int p0), (2, .int x2_5), (3, .int x3_2)]) hx hb dX3_shortenAll_202 hl (k := 9) rfl (by rfl) (by decide) rfl (fun ls hl => ?_)
                          refine lv_goto (tgt := 18) hx hb dX3_shortenAll_205 (by decide) ?_
                          cases g
                          exact ih1 _ _ _ _ h _ _ hP hD hS _ (lv_sub hl [6, 7, 8, 9, 0] rfl)
                        · have g := ineg c9 g
                          refine lv_aload_n hx hb dX3_shortenAll_181 rfl (lv_at hl 5 rfl) ?_
                          refine va_get (D := (dC, dI)) (ci := 3) (v := .ref aUD) (C := RX3) (T := TX3) (N := 4) hx hb hts k1 hown hK hP 0 rfl rfl 2 (by decide) k8 (fun _ h9 => h9) rfl dX3_shortenAll_182 ?_
                          refine lv_iload hx hb dX3_shortenAll_185 (lv_at hl 2 rfl) ?_
                          refine lv_iload hx hb dX3_shortenAll_187 (lv_at hl 0 rfl) ?_
                          obtain ⟨uD_97, e9, g⟩ := bd g
                          refine q_iast (ws2 := wX3 cyI cyZ uc nw aF aT aP aC aU aUT aUD aUB nN nA nF nT nP nC nU uT uD_97 uB_8) hx hb hK hP hD hS 8 0 rfl rfl e9 dX3_shortenAll_189 rfl (fun H locs hP hD hS => ?_)
                          refine lv_aload_n hx hb dX3_shortenAll_190 rfl (lv_at hl 5 rfl) ?_
                          refine va_get (D := (dC, dI)) (ci := 3) (v := .ref aUB) (C := RX3) (T := TX3) (N := 4) hx hb hts k1 hown hK hP 0 rfl rfl 3 (by decide) k10 (fun _ h9 => h9) rfl dX3_shortenAll_191 ?_
                          refine lv_iload hx hb dX3_shortenAll_194 (lv_at hl 2 rfl) ?_
                          refine lv_iload hx hb dX3_shortenAll_196 (lv_at hl 4 rfl) ?_
                          obtain ⟨uB_98, e9, g⟩ := bd g
                          refine q_iast (ws2 := wX3 cyI cyZ uc nw aF aT aP aC aU aUT aUD aUB nN nA nF nT nP nC nU uT uD_97 uB_98) hx hb hK hP hD hS 9 0 rfl rfl e9 dX3_shortenAll_198 rfl (fun H locs hP hD hS => ?_)
                          refine lv_iload hx hb dX3_shortenAll_199 (lv_at hl 2 rfl) ?_
                          refine lv_istore_n (lv' := [(2, .int t81), (9, .int (t93 + r92)), (8, .int r92), (7, .int t81), (6, .int t57), (5, .int (((x3_2 * 15) + x4_6) - 1)), (0, .ref uc), (1, .int p0), (3, .int x3_2), (4, .int x4_6)]) hx hb dX3_shortenAll_201 rfl hl (by decide) rfl (fun ls hl => ?_)
                          refine lv_iinc (v := x4_6 + 1) (lv' := [(4, .int (x4_6 + 1)), (2, .int t81), (9, .int (t93 + r92)), (8, .int r92), (7, .int t81), (6, .int t57), (5, .int (((x3_2 * 15) + x4_6) - 1)), (0, .ref uc), (1, .int p0), (3, .int x3_2)]) hx hb dX3_shortenAll_202 hl (k := 9) rfl (by rfl) (by decide) rfl (fun ls hl => ?_)
                          refine lv_goto (tgt := 18) hx hb dX3_shortenAll_205 (by decide) ?_
                          cases g
                          exact ih1 _ _ _ _ h _ _ hP hD hS _ (lv_sub hl [7, 8, 1, 9, 0] rfl)
                    · have g := ineg c9 g
                      refine lv_iload hx hb dX3_shortenAll_146 (lv_at hl 0 rfl) ?_
                      refine lv_ineg hx hb dX3_shortenAll_148 ?_
                      refine lv_goto (tgt := 154) hx hb dX3_shortenAll_149 (by decide) ?_
                      refine lv_iadd hx hb dX3_shortenAll_154 ?_
                      refine lv_istore (lv' := [(9, .int (t93 + (-r92))), (8, .int r92), (7, .int t81), (6, .int t57), (5, .int (((x3_2 * 15) + x4_6) - 1)), (0, .ref uc), (1, .int p0), (2, .int x2_5), (3, .int x3_2), (4, .int x4_6)]) hx hb dX3_shortenAll_155 hl (by decide) rfl (fun ls hl => ?_)
                      refine lv_aload_n hx hb dX3_shortenAll_157 rfl (lv_at hl 5 rfl) ?_
                      refine va_get (D := (dC, dI)) (ci := 3) (v := .ref aUD) (C := RX3) (T := TX3) (N := 4) hx hb hts k1 hown hK hP 0 rfl rfl 2 (by decide) k8 (fun _ h9 => h9) rfl dX3_shortenAll_158 ?_
                      refine lv_iload hx hb dX3_shortenAll_161 (lv_at hl 3 rfl) ?_
                      obtain ⟨t99, e9, g⟩ := bd g
                      refine q_iald hx hb hK hP 8 0 rfl rfl e9 dX3_shortenAll_163 ?_
                      refine lv_ldc (own := RX3) (v := 1000000) hx hb hown k9 dX3_shortenAll_164 ?_
                      refine lv_icmp_ge (tgt := 202) hx hb dX3_shortenAll_166 (by decide) (fun c9 => ?_) (fun c9 => ?_)
                      · have g := ipos c9 g
                        refine lv_iinc (v := x4_6 + 1) (lv' := [(4, .int (x4_6 + 1)), (9, .int (t93 + (-r92))), (8, .int r92), (7, .int t81), (6, .int t57), (5, .int (((x3_2 * 15) + x4_6) - 1)), (0, .ref uc), (1, .int p0), (2, .int x2_5), (3, .int x3_2)]) hx hb dX3_shortenAll_202 hl (k := 9) rfl (by rfl) (by decide) rfl (fun ls hl => ?_)
                        refine lv_goto (tgt := 18) hx hb dX3_shortenAll_205 (by decide) ?_
                        cases g
                        exact ih1 _ _ _ _ h _ _ hP hD hS _ (lv_sub hl [6, 7, 8, 9, 0] rfl)
                      · have g := ineg c9 g
                        refine lv_iload hx hb dX3_shortenAll_169 (lv_at hl 0 rfl) ?_
                        refine lv_aload_n hx hb dX3_shortenAll_171 rfl (lv_at hl 5 rfl) ?_
                        refine va_get (D := (dC, dI)) (ci := 3) (v := .ref aUD) (C := RX3) (T := TX3) (N := 4) hx hb hts k1 hown hK hP 0 rfl rfl 2 (by decide) k8 (fun _ h9 => h9) rfl dX3_shortenAll_172 ?_
                        refine lv_iload hx hb dX3_shortenAll_175 (lv_at hl 2 rfl) ?_
                        obtain ⟨t100, e9, g⟩ := bd g
                        refine q_iald hx hb hK hP 8 0 rfl rfl e9 dX3_shortenAll_177 ?_
                        refine lv_icmp_ge (tgt := 202) hx hb dX3_shortenAll_178 (by decide) (fun c9 => ?_) (fun c9 => ?_)
                        · have g := ipos c9 g
                          refine lv_iinc (v := x4_6 + 1) (lv' := [(4, .int (x4_6 + 1)), (9, .int (t93 + (-r92))), (8, .int r92), (7, .int t81), (6, .int t57), (5, .int (((x3_2 * 15) + x4_6) - 1)), (0, .ref uc), (1, .int p0), (2, .int x2_5), (3, .int x3_2)]) hx hb dX3_shortenAll_202 hl (k := 9) rfl (by rfl) (by decide) rfl (fun ls hl => ?_)
                          refine lv_goto (tgt := 18) hx hb dX3_shortenAll_205 (by decide) ?_
                          cases g
                          exact ih1 _ _ _ _ h _ _ hP hD hS _ (lv_sub hl [6, 7, 8, 9, 0] rfl)
                        · have g := ineg c9 g
                          refine lv_aload_n hx hb dX3_shortenAll_181 rfl (lv_at hl 5 rfl) ?_
                          refine va_get (D := (dC, dI)) (ci := 3) (v := .ref aUD) (C := RX3) (T := TX3) (N := 4) hx hb hts k1 hown hK hP 0 rfl rfl 2 (by decide) k8 (fun _ h9 => h9) rfl dX3_shortenAll_182 ?_
                          refine lv_iload hx hb dX3_shortenAll_185 (lv_at hl 2 rfl) ?_
                          refine lv_iload hx hb dX3_shortenAll_187 (lv_at hl 0 rfl) ?_
                          obtain ⟨uD_101, e9, g⟩ := bd g
                          refine q_iast (ws2 := wX3 cyI cyZ uc nw aF aT aP aC aU aUT aUD aUB nN nA nF nT nP nC nU uT uD_101 uB_8) hx hb hK hP hD hS 8 0 rfl rfl e9 dX3_shortenAll_189 rfl (fun H locs hP hD hS => ?_)
                          refine lv_aload_n hx hb dX3_shortenAll_190 rfl (lv_at hl 5 rfl) ?_
                          refine va_get (D := (dC, dI)) (ci := 3) (v := .ref aUB) (C := RX3) (T := TX3) (N := 4) hx hb hts k1 hown hK hP 0 rfl rfl 3 (by decide) k10 (fun _ h9 => h9) rfl dX3_shortenAll_191 ?_
                          refine lv_iload hx hb dX3_shortenAll_194 (lv_at hl 2 rfl) ?_
                          refine lv_iload hx hb dX3_shortenAll_196 (lv_at hl 4 rfl) ?_
                          obtain ⟨uB_102, e9, g⟩ := bd g
                          refine q_iast (ws2 := wX3 cyI cyZ uc nw aF aT aP aC aU aUT aUD aUB nN nA nF nT nP nC nU uT uD_101 uB_102) hx hb hK hP hD hS 9 0 rfl rfl e9 dX3_shortenAll_198 rfl (fun H locs hP hD hS => ?_)
                          refine lv_iload hx hb dX3_shortenAll_199 (lv_at hl 2 rfl) ?_
                          refine lv_istore_n (lv' := [(2, .int t81), (9, .int (t93 + (-r92))), (8, .int r92), (7, .int t81), (6, .int t57), (5, .int (((x3_2 * 15) + x4_6) - 1)), (0, .ref uc), (1, .int p0), (3, .int x3_2), (4, .int x4_6)]) hx hb dX3_shortenAll_201 rfl hl (by decide) rfl (fun ls hl => ?_)
                          refine lv_iinc (v := x4_6 + 1) (lv' := [(4, .int (x4_6 + 1)), (2, .int t81), (9, .int (t93 + (-r92))), (8, .int r92), (7, .int t81), (6, .int t57), (5, .int (((x3_2 * 15) + x4_6) - 1)), (0, .ref uc), (1, .int p0), (3, .int x3_2)]) hx hb dX3_shortenAll_202 hl (k := 9) rfl (by rfl) (by decide) rfl (fun ls hl => ?_)
                          refine lv_goto (tgt := 18) hx hb dX3_shortenAll_205 (by decide) ?_
                          cases g
                          exact ih1 _ _ _ _ h _ _ hP hD hS _ (lv_sub hl [7, 8, 1, 9, 0] rfl)
        exact hL1 N _ _ _ _  e1 _ _ hP hD hS _ (lv_sub hl [1, 2, 3, 4, 0] rfl)
  exact hL0 N _ _ _ _  e0 _ _ hP hD hS _ (lv_sub hl [2, 3, 1, 0] rfl)
set_option maxHeartbeats 4000000 in
set_option maxRecDepth 100000 in
theorem c_X3_turnBack (l : Launch) (dC : Nat → ClassId) (dI : Nat → Nat → Nat) (cyI cyZ : ClassId) (uc nw aF aT aP aC aU aUT aUD aUB : Nat) (sz : Nat) (nN nA : Int32) (nF nT nP nC nU uT uD uB : Nat → Int32) (p0 p1 : Int32) (N : Nat) (res : (Nat → Int32)) (h : pX3_turnBack N nN nF nT uT uB p0 p1 = some res) : Met l yX3_turnBack wsX3_turnBack { frames := 1, cells := 0, slots := 0, locals := 23 } (va_Pc [.ref uc, .int p0, .int p1] (zPre (dC, dI) (wX3 cyI cyZ uc nw aF aT aP aC aU aUT aUD aUB nN nA nF nT nP nC nU uT uD uB) [(cyI, .int), (cyZ, .boolean)] sz)) (zQv (dC, dI) (wX3 cyI cyZ uc nw aF aT aP aC aU aUT aUD aUB nN nA nF nT nP nC nU res uD uB) [(cyI, .int), (cyZ, .boolean)] (va_A (wX3 cyI cyZ uc nw aF aT aP aC aU aUT aUD aUB nN nA nF nT nP nC nU uT uD uB) sz)) 0 0 (va_A (wX3 cyI cyZ uc nw aF aT aP aC aU aUT aUD aUB nN nA nF nT nP nC nU uT uD uB) sz) := by
  refine q_ofWv (cc := cX3_turnBack) (maxL := 7) (rt := none) (by decide) rfl (Nat.le_of_ble_eq_true rfl) ?_
  intro p e s m args below meth c ls A Q H locs hQ hx hb hr hts hown hlocks hml hA hK hP hD hS hl
  have hl : lv_has ls 7 [(0, .ref uc), (1, .int p0), (2, .int p1)] := hl
  have k0 := hts (.fieldLink RX3 22 "ConvexConduit$UnitCircles" "network" "LConvexConduit$Network;") (by decide +kernel)
  have k1 : ∀ w ∈ u_ws RX3 TX3 4, w ∈ wsX3_turnBack := by decide +kernel
  have k2 := hts (.fieldLink RX3 37 "ConvexConduit$Network" "nodes" "I") (by decide +kernel)
  have k3 : ∀ w ∈ u_ws RX2 TX2 7, w ∈ wsX3_turnBack := by decide +kernel
  have k4 := hts (.fieldLink RX3 19 "ConvexConduit$UnitCircles" "cameBy" "[I") (by decide +kernel)
  have k5 := hts (.fieldLink RX3 9 "ConvexConduit$UnitCircles" "taken" "[Z") (by decide +kernel)
  unfold pX3_turnBack at h
  refine lv_iload_n hx hb dX3_turnBack_0 rfl (lv_at hl 1 rfl) ?_
  refine lv_istore_n (lv' := [(3, .int p0), (0, .ref uc), (1, .int p0), (2, .int p1)]) hx hb dX3_turnBack_1 rfl hl (by decide) rfl (fun ls hl => ?_)
  refine lv_iconst (v := 0) hx hb dX3_turnBack_2 (by decide) ?_
  refine lv_istore (lv' := [(4, .int 0), (3, .int p0), (0, .ref uc), (1, .int p0), (2, .int p1)]) hx hb dX3_turnBack_3 hl (by decide) rfl (fun ls hl => ?_)
  obtain ⟨o0, e0, h8⟩ := bd h
  have hT0 : ∀ (x3_9 : Int32) (x4_10 : Int32) (uT_11 : Nat → Int32), o0 = .inl ((x3_9, x4_10, uT_11)) → ∀ (H : Heap) (locs : List Loc), va_P (dC, dI) vwCl (wX3 cyI cyZ uc nw aF aT aP aC aU aUT aUD aUB nN nA nF nT nP nC nU uT_11 uD uB) H → va_D A (wX3 cyI cyZ uc nw aF aT aP aC aU aUT aUD aUB nN nA nF nT nP nC nU uT_11 uD uB) → va_S A s.heap H locs → ∀ ls : Array Slot, lv_has ls 7 [(0, .ref uc), (1, .int p0), (2, .int p1), (3, .int x3_9), (4, .int x4_10)] → W p l e { frames := 1, cells := 0, slots := 0, locals := 23 } s m args below meth c H locs 0 0 Q (F0 m 75 ls []) := by
    intro x3_9 x4_10 uT_11 ho H locs hP hD hS ls hl
    rw [ho] at h8
    have h := h8
    cases h
    exact q_vret hQ hx hb hr hlocks hP hK hD hS dX3_turnBack_75
  have hL0 : ∀ (n9 : Nat) (x3_1 : Int32) (x4_2 : Int32) (uT_3 : Nat → Int32), lp (un3 (pX3_turnBack_l5 nF nN nT p1 uB)) n9 ((x3_1, x4_2, uT_3)) = some o0 → ∀ (H : Heap) (locs : List Loc), va_P (dC, dI) vwCl (wX3 cyI cyZ uc nw aF aT aP aC aU aUT aUD aUB nN nA nF nT nP nC nU uT_3 uD uB) H → va_D A (wX3 cyI cyZ uc nw aF aT aP aC aU aUT aUD aUB nN nA nF nT nP nC nU uT_3 uD uB) → va_S A s.heap H locs → ∀ ls : Array Slot, lv_has ls 7 [(0, .ref uc), (1, .int p0), (2, .int p1), (3, .int x3_1), (4, .int x4_2)] → W p l e { frames := 1, cells := 0, slots := 0, locals := 23 } s m args below meth c H locs 0 0 Q (F0 m 5 ls []) := by
    intro n9
    induction n9 with
    | zero =>
      intro x3_1 x4_2 uT_3 h
      exact lp0 h
    | succ n9 ih0 =>
      intro x3_1 x4_2 uT_3 h H locs hP hD hS ls hl
      obtain ⟨o9, g, h⟩ := lps h
      replace g : pX3_turnBack_l5 nF nN nT p1 uB x3_1 x4_2 uT_3 = some o9 := g
      unfold pX3_turnBack_l5 at g
      refine lv_iload hx hb dX3_turnBack_5 (lv_at hl 4 rfl) ?_
      refine lv_aload_n hx hb dX3_turnBack_7 rfl (lv_at hl 0 rfl) ?_
      refine va_get (D := (dC, dI)) (ci := 3) (v := .ref nw) (C := RX3) (T := TX3) (N := 4) hx hb hts k1 hown hK hP 0 rfl rfl 0 (by decide) k0 (fun _ h9 => h9) rfl dX3_turnBack_8 ?_
      refine va_get (D := (dC, dI)) (ci := 2) (v := .int nN) (C := RX2) (T := TX2) (N := 7) hx hb hts k3 hown hK hP 1 rfl rfl 0 (by decide) k2 (fun _ h9 => h9) rfl dX3_turnBack_11 ?_
      refine lv_icmp_ge (tgt := 75) hx hb dX3_turnBack_14 (by decide) (fun c9 => ?_) (fun c9 => ?_)
      · have g := ipos c9 g
        cases g
        have h := lpx h
        subst h
        exact hT0 _ _ _ rfl _ _ hP hD hS _ (lv_sub hl [0, 1, 2, 3, 4] rfl)
      · have g := ineg c9 g
        refine lv_iload_n hx hb dX3_turnBack_17 rfl (lv_at hl 3 rfl) ?_
        refine lv_iload_n hx hb dX3_turnBack_18 rfl (lv_at hl 2 rfl) ?_
        refine lv_icmp_eq (tgt := 75) hx hb dX3_turnBack_19 (by decide) (fun c9 => ?_) (fun c9 => ?_)
        · have g := ipos c9 g
          cases g
          have h := lpx h
          subst h
          exact hT0 _ _ _ rfl _ _ hP hD hS _ (lv_sub hl [0, 1, 2, 3, 4] rfl)
        · have g := ineg c9 g
          refine lv_aload_n hx hb dX3_turnBack_22 rfl (lv_at hl 0 rfl) ?_
          refine va_get (D := (dC, dI)) (ci := 3) (v := .ref aUB) (C := RX3) (T := TX3) (N := 4) hx hb hts k1 hown hK hP 0 rfl rfl 3 (by decide) k4 (fun _ h9 => h9) rfl dX3_turnBack_23 ?_
          refine lv_iload_n hx hb dX3_turnBack_26 rfl (lv_at hl 3 rfl) ?_
          obtain ⟨t4, e9, g⟩ := bd g
          refine q_iald hx hb hK hP 9 0 rfl rfl e9 dX3_turnBack_27 ?_
          refine lv_istore (lv' := [(5, .int t4), (0, .ref uc), (1, .int p0), (2, .int p1), (3, .int x3_1), (4, .int x4_2)]) hx hb dX3_turnBack_28 hl (by decide) rfl (fun ls hl => ?_)
          refine lv_aload_n hx hb dX3_turnBack_30 rfl (lv_at hl 1 rfl) ?_
          refine lv_iload_n hx hb dX3_turnBack_31 rfl (lv_at hl 4 rfl) ?_
          obtain ⟨r5, e9, g⟩ := bd g
          refine q_callVi (ret := r5) (As := [.int x3_1]) (w1 := wX3 cyI cyZ uc nw aF aT aP aC aU aUT aUD aUB nN nA nF nT nP nC nU uT_3 uD uB) (ws2 := wX3 cyI cyZ uc nw aF aT aP aC aU aUT aUD aUB nN nA nF nT nP nC nU uT_3 uD uB) ⟨hx, hb, hml, hown, hts⟩ (c_X3_nodeBefore l dC dI cyI cyZ uc nw aF aT aP aC aU aUT aUD aUB H.size nN nA nF nT nP nC nU uT_3 uD uB x3_1 _ e9) (cwV 1 hts gX3_turnBack_X3_nodeBefore rfl rfl rfl (by decide +kernel) ⟨Nat.le_of_ble_eq_true rfl, Nat.le_of_ble_eq_true rfl⟩) hK hP hD hS hA [0, 1, 2, 3, 4, 5, 6, 7, 8, 9] [] [0, 1, 2, 3, 4, 5, 6, 7, 8, 9] [0, 1] rfl rfl rfl rfl (by decide) rfl rfl rfl 3 0 rfl rfl rfl hl.1 (Nat.le_of_ble_eq_true rfl) (Nat.le_of_ble_eq_true rfl) (Nat.le_of_ble_eq_true rfl) rfl dX3_turnBack_32 (fun H locs hP hD hS => ?_)
          refine lv_istore (lv' := [(6, .int r5), (5, .int t4), (0, .ref uc), (1, .int p0), (2, .int p1), (3, .int x3_1), (4, .int x4_2)]) hx hb dX3_turnBack_35 hl (by decide) rfl (fun ls hl => ?_)
          refine lv_iload hx hb dX3_turnBack_37 (lv_at hl 0 rfl) ?_
          refine lv_iconst (v := -1) hx hb dX3_turnBack_39 (by decide) ?_
          refine lv_icmp_ne (tgt := 44) hx hb dX3_turnBack_40 (by decide) (fun c9 => ?_) (fun c9 => ?_)
          · have g := ineg c9 g
            refine lv_aload_n hx hb dX3_turnBack_44 rfl (lv_at hl 2 rfl) ?_
            refine va_get (D := (dC, dI)) (ci := 3) (v := .ref aUT) (C := RX3) (T := TX3) (N := 4) hx hb hts k1 hown hK hP 0 rfl rfl 1 (by decide) k5 (fun _ h9 => h9) rfl dX3_turnBack_45 ?_
            refine lv_iload hx hb dX3_turnBack_48 (lv_at hl 1 rfl) ?_
            refine lv_aload_n hx hb dX3_turnBack_50 rfl (lv_at hl 2 rfl) ?_
            refine va_get (D := (dC, dI)) (ci := 3) (v := .ref aUT) (C := RX3) (T := TX3) (N := 4) hx hb hts k1 hown hK hP 0 rfl rfl 1 (by decide) k5 (fun _ h9 => h9) rfl dX3_turnBack_51 ?_
            refine lv_iload hx hb dX3_turnBack_54 (lv_at hl 1 rfl) ?_
            obtain ⟨t6, e9, g⟩ := bd g
            refine q_zald hx hb hK hP 7 1 rfl rfl e9 dX3_turnBack_56 ?_
            refine lv_if_ne (tgt := 64) hx hb dX3_turnBack_57 (by decide) (fun c9 => ?_) (fun c9 => ?_)
            · have g := ineg c9 g
              refine lv_iconst (v := 0) hx hb dX3_turnBack_64 (by decide) ?_
              obtain ⟨uT_7, e9, g⟩ := bd g
              refine q_zast (ws2 := wX3 cyI cyZ uc nw aF aT aP aC aU aUT aUD aUB nN nA nF nT nP nC nU uT_7 uD uB) hx hb hK hP hD hS 7 1 rfl rfl (by decide) e9 dX3_turnBack_65 rfl (fun H locs hP hD hS => ?_)
              refine lv_iload hx hb dX3_turnBack_66 (lv_at hl 0 rfl) ?_
              refine lv_istore_n (lv' := [(3, .int r5), (6, .int r5), (5, .int t4), (0, .ref uc), (1, .int p0), (2, .int p1), (4, .int x4_2)]) hx hb dX3_turnBack_68 rfl hl (by decide) rfl (fun ls hl => ?_)
              refine lv_iinc (v := x4_2 + 1) (lv' := [(4, .int (x4_2 + 1)), (3, .int r5), (6, .int r5), (5, .int t4), (0, .ref uc), (1, .int p0), (2, .int p1)]) hx hb dX3_turnBack_69 hl (k := 6) rfl (by rfl) (by decide) rfl (fun ls hl => ?_)
              refine lv_goto (tgt := 5) hx hb dX3_turnBack_72 (by decide) ?_
              cases g
              exact ih0 _ _ _ h _ _ hP hD hS _ (lv_sub hl [4, 5, 6, 1, 0] rfl)
            · have g := ipos c9 g
              refine lv_iconst (v := 1) hx hb dX3_turnBack_60 (by decide) ?_
              refine lv_goto (tgt := 65) hx hb dX3_turnBack_61 (by decide) ?_
              obtain ⟨uT_8, e9, g⟩ := bd g
              refine q_zast (ws2 := wX3 cyI cyZ uc nw aF aT aP aC aU aUT aUD aUB nN nA nF nT nP nC nU uT_8 uD uB) hx hb hK hP hD hS 7 1 rfl rfl (by decide) e9 dX3_turnBack_65 rfl (fun H locs hP hD hS => ?_)
              refine lv_iload hx hb dX3_turnBack_66 (lv_at hl 0 rfl) ?_
              refine lv_istore_n (lv' := [(3, .int r5), (6, .int r5), (5, .int t4), (0, .ref uc), (1, .int p0), (2, .int p1), (4, .int x4_2)]) hx hb dX3_turnBack_68 rfl hl (by decide) rfl (fun ls hl => ?_)
              refine lv_iinc (v := x4_2 + 1) (lv' := [(4, .int (x4_2 + 1)), (3, .int r5), (6, .int r5), (5, .int t4), (0, .ref uc), (1, .int p0), (2, .int p1)]) hx hb dX3_turnBack_69 hl (k := 6) rfl (by rfl) (by decide) rfl (fun ls hl => ?_)
              refine lv_goto (tgt := 5) hx hb dX3_turnBack_72 (by decide) ?_
              cases g
              exact ih0 _ _ _ h _ _ hP hD hS _ (lv_sub hl [4, 5, 6, 1, 0] rfl)
          · have g := ipos c9 g
            cases g
            have h := lpx h
            subst h
            have h := selr h8
            cases h
            exact q_vret hQ hx hb hr hlocks hP hK hD hS dX3_turnBack_43
  exact hL0 N _ _ _  e0 _ _ hP hD hS _ (lv_sub hl [2, 3, 4, 1, 0] rfl)
set_option maxHeartbeats 4000000 in
set_option maxRecDepth 100000 in
theorem c_X3_takeWay (l : Launch) (dC : Nat → ClassId) (dI : Nat → Nat → Nat) (cyI cyZ : ClassId) (uc nw aF aT aP aC aU aUT aUD aUB : Nat) (sz : Nat) (nN nA : Int32) (nF nT nP nC nU uT uD uB : Nat → Int32) (p0 p1 : Int32) (N : Nat) (res : Bool × (Nat → Int32) × (Nat → Int32) × (Nat → Int32)) (h : pX3_takeWay N nN nA nF nT nC nU uT uD uB p0 p1 = some res) : Met l yX3_takeWay wsX3_takeWay { frames := 2, cells := 0, slots := 0, locals := 51 } (va_Pc [.ref uc, .int p0, .int p1] (zPre (dC, dI) (wX3 cyI cyZ uc nw aF aT aP aC aU aUT aUD aUB nN nA nF nT nP nC nU uT uD uB) [(cyI, .int), (cyZ, .boolean)] sz)) (zQi (dC, dI) (wX3 cyI cyZ uc nw aF aT aP aC aU aUT aUD aUB nN nA nF nT nP nC nU res.2.1 res.2.2.1 res.2.2.2) [(cyI, .int), (cyZ, .boolean)] (b2i res.1) (va_A (wX3 cyI cyZ uc nw aF aT aP aC aU aUT aUD aUB nN nA nF nT nP nC nU uT uD uB) sz)) 0 0 (va_A (wX3 cyI cyZ uc nw aF aT aP aC aU aUT aUD aUB nN nA nF nT nP nC nU uT uD uB) sz) := by
  refine q_ofWi (cc := cX3_takeWay) (maxL := 5) (rt := (some .boolean)) (by decide) rfl (Nat.le_of_ble_eq_true rfl) ?_
  intro p e s m args below meth c ls A Q H locs hQ hx hb hr hts hown hlocks hml hA hK hP hD hS hl
  have hl : lv_has ls 5 [(0, .ref uc), (1, .int p0), (2, .int p1)] := hl
  have k0 := hts (.fieldLink RX3 22 "ConvexConduit$UnitCircles" "network" "LConvexConduit$Network;") (by decide +kernel)
  have k1 : ∀ w ∈ u_ws RX3 TX3 4, w ∈ wsX3_takeWay := by decide +kernel
  have k2 := hts (.fieldLink RX3 37 "ConvexConduit$Network" "nodes" "I") (by decide +kernel)
  have k3 : ∀ w ∈ u_ws RX2 TX2 7, w ∈ wsX3_takeWay := by decide +kernel
  have k4 := hts (.fieldLink RX3 15 "ConvexConduit$UnitCircles" "distance" "[I") (by decide +kernel)
  have k5 := hts (.constant RX3 43 (1000000)) (by decide +kernel)
  have k6 := hts (.fieldLink RX3 19 "ConvexConduit$UnitCircles" "cameBy" "[I") (by decide +kernel)
  unfold pX3_takeWay at h
  refine lv_iconst (v := 0) hx hb dX3_takeWay_0 (by decide) ?_
  refine lv_istore_n (lv' := [(3, .int 0), (0, .ref uc), (1, .int p0), (2, .int p1)]) hx hb dX3_takeWay_1 rfl hl (by decide) rfl (fun ls hl => ?_)
  obtain ⟨x3_8, uD_9, uB_10, e0, h⟩ := bd3 h
  have hT0 : ∀ (H : Heap) (locs : List Loc), va_P (dC, dI) vwCl (wX3 cyI cyZ uc nw aF aT aP aC aU aUT aUD aUB nN nA nF nT nP nC nU uT uD_9 uB_10) H → va_D A (wX3 cyI cyZ uc nw aF aT aP aC aU aUT aUD aUB nN nA nF nT nP nC nU uT uD_9 uB_10) → va_S A s.heap H locs → ∀ ls : Array Slot, lv_has ls 5 [(0, .ref uc), (1, .int p0), (2, .int p1), (3, .int x3_8)] → W p l e { frames := 2, cells := 0, slots := 0, locals := 51 } s m args below meth c H locs 0 0 Q (F0 m 43 ls []) := by
    intro H locs hP hD hS ls hl
    refine lv_iconst (v := 1) hx hb dX3_takeWay_43 (by decide) ?_
    refine lv_istore_n (lv' := [(3, .int 1), (0, .ref uc), (1, .int p0), (2, .int p1)]) hx hb dX3_takeWay_44 rfl hl (by decide) rfl (fun ls hl => ?_)
    refine lv_iconst (v := 0) hx hb dX3_takeWay_45 (by decide) ?_
    refine lv_istore (lv' := [(4, .int 0), (3, .int 1), (0, .ref uc), (1, .int p0), (2, .int p1)]) hx hb dX3_takeWay_46 hl (by decide) rfl (fun ls hl => ?_)
    obtain ⟨x3_18, x4_19, uD_20, uB_21, e1, h⟩ := bd4 h
    have hT1 : ∀ (H : Heap) (locs : List Loc), va_P (dC, dI) vwCl (wX3 cyI cyZ uc nw aF aT aP aC aU aUT aUD aUB nN nA nF nT nP nC nU uT uD_20 uB_21) H → va_D A (wX3 cyI cyZ uc nw aF aT aP aC aU aUT aUD aUB nN nA nF nT nP nC nU uT uD_20 uB_21) → va_S A s.heap H locs → ∀ ls : Array Slot, lv_has ls 5 [(0, .ref uc), (1, .int p0), (2, .int p1), (3, .int x3_18), (4, .int x4_19)] → W p l e { frames := 2, cells := 0, slots := 0, locals := 51 } s m args below meth c H locs 0 0 Q (F0 m 85 ls []) := by
      intro H locs hP hD hS ls hl
      refine lv_aload_n hx hb dX3_takeWay_85 rfl (lv_at hl 0 rfl) ?_
      refine va_get (D := (dC, dI)) (ci := 3) (v := .ref aUD) (C := RX3) (T := TX3) (N := 4) hx hb hts k1 hown hK hP 0 rfl rfl 2 (by decide) k4 (fun _ h9 => h9) rfl dX3_takeWay_86 ?_
      refine lv_iload_n hx hb dX3_takeWay_89 rfl (lv_at hl 2 rfl) ?_
      obtain ⟨t22, e9, h⟩ := bd h
      refine q_iald hx hb hK hP 8 0 rfl rfl e9 dX3_takeWay_90 ?_
      refine lv_ldc (own := RX3) (v := 1000000) hx hb hown k5 dX3_takeWay_91 ?_
      refine lv_icmp_lt (tgt := 98) hx hb dX3_takeWay_93 (by decide) (fun c9 => ?_) (fun c9 => ?_)
      · have h := ipos c9 h
        refine lv_aload_n hx hb dX3_takeWay_98 rfl (lv_at hl 0 rfl) ?_
        refine lv_iload_n hx hb dX3_takeWay_99 rfl (lv_at hl 2 rfl) ?_
        refine lv_iload_n hx hb dX3_takeWay_100 rfl (lv_at hl 1 rfl) ?_
        obtain ⟨uT_23, e9, h⟩ := bd h
        refine q_callVv (As := [.int p1, .int p0]) (w1 := wX3 cyI cyZ uc nw aF aT aP aC aU aUT aUD aUB nN nA nF nT nP nC nU uT_23 uD_20 uB_21) (ws2 := wX3 cyI cyZ uc nw aF aT aP aC aU aUT aUD aUB nN nA nF nT nP nC nU uT_23 uD_20 uB_21) ⟨hx, hb, hml, hown, hts⟩ (c_X3_turnBack l dC dI cyI cyZ uc nw aF aT aP aC aU aUT aUD aUB H.size nN nA nF nT nP nC nU uT uD_20 uB_21 p1 p0 N _ e9) (cwV 2 hts gX3_takeWay_X3_turnBack rfl rfl rfl (by decide +kernel) ⟨Nat.le_of_ble_eq_true rfl, Nat.le_of_ble_eq_true rfl⟩) hK hP hD hS hA [0, 1, 2, 3, 4, 5, 6, 7, 8, 9] [] [0, 1, 2, 3, 4, 5, 6, 7, 8, 9] [0, 1] rfl rfl rfl rfl (by decide) rfl rfl rfl 3 0 rfl rfl rfl hl.1 (Nat.le_of_ble_eq_true rfl) (Nat.le_of_ble_eq_true rfl) (Nat.le_of_ble_eq_true rfl) rfl dX3_takeWay_101 (fun H locs hP hD hS => ?_)
        refine lv_iconst (v := 1) hx hb dX3_takeWay_104 (by decide) ?_
        cases h
        exact q_zret (b := true) hQ hx hb hr hlocks hP hK hD hS dX3_takeWay_105
      · have h := ineg c9 h
        refine lv_iconst (v := 0) hx hb dX3_takeWay_96 (by decide) ?_
        cases h
        exact q_zret (b := false) hQ hx hb hr hlocks hP hK hD hS dX3_takeWay_97
    have hL1 : ∀ (n9 : Nat) (x3_11 : Int32) (x4_12 : Int32) (uD_13 : Nat → Int32) (uB_14 : Nat → Int32), lp (un4 (pX3_takeWay_l48 N nA nC nF nN nT nU uT)) n9 ((x3_11, x4_12, uD_13, uB_14)) = some ((x3_18, x4_19, uD_20, uB_21)) → ∀ (H : Heap) (locs : List Loc), va_P (dC, dI) vwCl (wX3 cyI cyZ uc nw aF aT aP aC aU aUT aUD aUB nN nA nF nT nP nC nU uT uD_13 uB_14) H → va_D A (wX3 cyI cyZ uc nw aF aT aP aC aU aUT aUD aUB nN nA nF nT nP nC nU uT uD_13 uB_14) → va_S A s.heap H locs → ∀ ls : Array Slot, lv_has ls 5 [(0, .ref uc), (1, .int p0), (2, .int p1), (3, .int x3_11), (4, .int x4_12)] → W p l e { frames := 2, cells := 0, slots := 0, locals := 51 } s m args below meth c H locs 0 0 Q (F0 m 48 ls []) := by
      intro n9
      induction n9 with
      | zero =>
        intro x3_11 x4_12 uD_13 uB_14 h
        exact lp0 h
      | succ n9 ih1 =>
        intro x3_11 x4_12 uD_13 uB_14 h H locs hP hD hS ls hl
        obtain ⟨o9, g, h⟩ := lps h
        replace g : pX3_takeWay_l48 N nA nC nF nN nT nU uT x3_11 x4_12 uD_13 uB_14 = some o9 := g
        unfold pX3_takeWay_l48 at g
        refine lv_iload hx hb dX3_takeWay_48 (lv_at hl 4 rfl) ?_
        refine lv_aload_n hx hb dX3_takeWay_50 rfl (lv_at hl 0 rfl) ?_
        refine va_get (D := (dC, dI)) (ci := 3) (v := .ref nw) (C := RX3) (T := TX3) (N := 4) hx hb hts k1 hown hK hP 0 rfl rfl 0 (by decide) k0 (fun _ h9 => h9) rfl dX3_takeWay_51 ?_
        refine va_get (D := (dC, dI)) (ci := 2) (v := .int nN) (C := RX2) (T := TX2) (N := 7) hx hb hts k3 hown hK hP 1 rfl rfl 0 (by decide) k2 (fun _ h9 => h9) rfl dX3_takeWay_54 ?_
        refine lv_icmp_ge (tgt := 85) hx hb dX3_takeWay_57 (by decide) (fun c9 => ?_) (fun c9 => ?_)
        · have g := ipos c9 g
          cases g
          have h := lpx h
          cases h
          exact hT1 _ _ hP hD hS _ (lv_sub hl [0, 1, 2, 3, 4] rfl)
        · have g := ineg c9 g
          refine lv_iload_n hx hb dX3_takeWay_60 rfl (lv_at hl 3 rfl) ?_
          refine lv_if_eq (tgt := 85) hx hb dX3_takeWay_61 (by decide) (fun c9 => ?_) (fun c9 => ?_)
          · have g := ipos c9 g
            cases g
            have h := lpx h
            cases h
            exact hT1 _ _ hP hD hS _ (lv_sub hl [0, 1, 2, 3, 4] rfl)
          · have g := ineg c9 g
            refine lv_aload_n hx hb dX3_takeWay_64 rfl (lv_at hl 0 rfl) ?_
            refine lv_iconst (v := 0) hx hb dX3_takeWay_65 (by decide) ?_
            obtain ⟨r15, uD_16, uB_17, e9, g⟩ := bd3 g
            refine q_callVi (ret := r15) (As := [.int 0]) (w1 := wX3 cyI cyZ uc nw aF aT aP aC aU aUT aUD aUB nN nA nF nT nP nC nU uT uD_16 uB_17) (ws2 := wX3 cyI cyZ uc nw aF aT aP aC aU aUT aUD aUB nN nA nF nT nP nC nU uT uD_16 uB_17) ⟨hx, hb, hml, hown, hts⟩ (c_X3_shortenAll l dC dI cyI cyZ uc nw aF aT aP aC aU aUT aUD aUB H.size nN nA nF nT nP nC nU uT uD_13 uB_14 0 N _ e9) (cwV 1 hts gX3_takeWay_X3_shortenAll rfl rfl rfl (by decide +kernel) ⟨Nat.le_of_ble_eq_true rfl, Nat.le_of_ble_eq_true rfl⟩) hK hP hD hS hA [0, 1, 2, 3, 4, 5, 6, 7, 8, 9] [] [0, 1, 2, 3, 4, 5, 6, 7, 8, 9] [0, 1] rfl rfl rfl rfl (by decide) rfl rfl rfl 3 0 rfl rfl rfl hl.1 (Nat.le_of_ble_eq_true rfl) (Nat.le_of_ble_eq_true rfl) (Nat.le_of_ble_eq_true rfl) rfl dX3_takeWay_66 (fun H locs hP hD hS => ?_)
            refine lv_iconst (v := -1) hx hb dX3_takeWay_69 (by decide) ?_
            refine lv_icmp_eq (tgt := 77) hx hb dX3_takeWay_70 (by decide) (fun c9 => ?_) (fun c9 => ?_)
            · have g := ipos c9 g
              refine lv_iconst (v := 0) hx hb dX3_takeWay_77 (by decide) ?_
              refine lv_istore_n (lv' := [(3, .int 0), (0, .ref uc), (1, .int p0), (2, .int p1), (4, .int x4_12)]) hx hb dX3_takeWay_78 rfl hl (by decide) rfl (fun ls hl => ?_)
              refine lv_iinc (v := x4_12 + 1) (lv' := [(4, .int (x4_12 + 1)), (3, .int 0), (0, .ref uc), (1, .int p0), (2, .int p1)]) hx hb dX3_takeWay_79 hl (k := 4) rfl (by rfl) (by decide) rfl (fun ls hl => ?_)
              refine lv_goto (tgt := 48) hx hb dX3_takeWay_82 (by decide) ?_
              cases g
              exact ih1 _ _ _ _ h _ _ hP hD hS _ (lv_sub hl [2, 3, 4, 1, 0] rfl)
            · have g := ineg c9 g
              refine lv_iconst (v := 1) hx hb dX3_takeWay_73 (by decide) ?_
              refine lv_goto (tgt := 78) hx hb dX3_takeWay_74 (by decide) ?_
              refine lv_istore_n (lv' := [(3, .int 1), (0, .ref uc), (1, .int p0), (2, .int p1), (4, .int x4_12)]) hx hb dX3_takeWay_78 rfl hl (by decide) rfl (fun ls hl => ?_)
              refine lv_iinc (v := x4_12 + 1) (lv' := [(4, .int (x4_12 + 1)), (3, .int 1), (0, .ref uc), (1, .int p0), (2, .int p1)]) hx hb dX3_takeWay_79 hl (k := 4) rfl (by rfl) (by decide) rfl (fun ls hl => ?_)
              refine lv_goto (tgt := 48) hx hb dX3_takeWay_82 (by decide) ?_
              cases g
              exact ih1 _ _ _ _ h _ _ hP hD hS _ (lv_sub hl [2, 3, 4, 1, 0] rfl)
    exact hL1 N _ _ _ _  e1 _ _ hP hD hS _ (lv_sub hl [2, 3, 4, 1, 0] rfl)
  have hL0 : ∀ (n9 : Nat) (x3_1 : Int32) (uD_2 : Nat → Int32) (uB_3 : Nat → Int32), lp (un3 (pX3_takeWay_l2 nN p0)) n9 ((x3_1, uD_2, uB_3)) = some ((x3_8, uD_9, uB_10)) → ∀ (H : Heap) (locs : List Loc), va_P (dC, dI) vwCl (wX3 cyI cyZ uc nw aF aT aP aC aU aUT aUD aUB nN nA nF nT nP nC nU uT uD_2 uB_3) H → va_D A (wX3 cyI cyZ uc nw aF aT aP aC aU aUT aUD aUB nN nA nF nT nP nC nU uT uD_2 uB_3) → va_S A s.heap H locs → ∀ ls : Array Slot, lv_has ls 5 [(0, .ref uc), (1, .int p0), (2, .int p1), (3, .int x3_1)] → W p l e { frames := 2, cells := 0, slots := 0, locals := 51 } s m args below meth c H locs 0 0 Q (F0 m 2 ls []) := by
    intro n9
    induction n9 with
    | zero =>
      intro x3_1 uD_2 uB_3 h
      exact lp0 h
    | succ n9 ih0 =>
      intro x3_1 uD_2 uB_3 h H locs hP hD hS ls hl
      obtain ⟨o9, g, h⟩ := lps h
      replace g : pX3_takeWay_l2 nN p0 x3_1 uD_2 uB_3 = some o9 := g
      unfold pX3_takeWay_l2 at g
      refine lv_iload_n hx hb dX3_takeWay_2 rfl (lv_at hl 3 rfl) ?_
      refine lv_aload_n hx hb dX3_takeWay_3 rfl (lv_at hl 0 rfl) ?_
      refine va_get (D := (dC, dI)) (ci := 3) (v := .ref nw) (C := RX3) (T := TX3) (N := 4) hx hb hts k1 hown hK hP 0 rfl rfl 0 (by decide) k0 (fun _ h9 => h9) rfl dX3_takeWay_4 ?_
      refine va_get (D := (dC, dI)) (ci := 2) (v := .int nN) (C := RX2) (T := TX2) (N := 7) hx hb hts k3 hown hK hP 1 rfl rfl 0 (by decide) k2 (fun _ h9 => h9) rfl dX3_takeWay_7 ?_
      refine lv_icmp_ge (tgt := 43) hx hb dX3_takeWay_10 (by decide) (fun c9 => ?_) (fun c9 => ?_)
      · have g := ipos c9 g
        cases g
        have h := lpx h
        cases h
        exact hT0 _ _ hP hD hS _ (lv_sub hl [0, 1, 2, 3] rfl)
      · have g := ineg c9 g
        refine lv_aload_n hx hb dX3_takeWay_13 rfl (lv_at hl 0 rfl) ?_
        refine va_get (D := (dC, dI)) (ci := 3) (v := .ref aUD) (C := RX3) (T := TX3) (N := 4) hx hb hts k1 hown hK hP 0 rfl rfl 2 (by decide) k4 (fun _ h9 => h9) rfl dX3_takeWay_14 ?_
        refine lv_iload_n hx hb dX3_takeWay_17 rfl (lv_at hl 3 rfl) ?_
        refine lv_iload_n hx hb dX3_takeWay_18 rfl (lv_at hl 3 rfl) ?_
        refine lv_iload_n hx hb dX3_takeWay_19 rfl (lv_at hl 1 rfl) ?_
        refine lv_icmp_ne (tgt := 27) hx hb dX3_takeWay_20 (by decide) (fun c9 => ?_) (fun c9 => ?_)
        · have g := ineg c9 g
          refine lv_ldc (own := RX3) (v := 1000000) hx hb hown k5 dX3_takeWay_27 ?_
          obtain ⟨uD_4, e9, g⟩ := bd g
          refine q_iast (ws2 := wX3 cyI cyZ uc nw aF aT aP aC aU aUT aUD aUB nN nA nF nT nP nC nU uT uD_4 uB_3) hx hb hK hP hD hS 8 0 rfl rfl e9 dX3_takeWay_29 rfl (fun H locs hP hD hS => ?_)
          refine lv_aload_n hx hb dX3_takeWay_30 rfl (lv_at hl 0 rfl) ?_
          refine va_get (D := (dC, dI)) (ci := 3) (v := .ref aUB) (C := RX3) (T := TX3) (N := 4) hx hb hts k1 hown hK hP 0 rfl rfl 3 (by decide) k6 (fun _ h9 => h9) rfl dX3_takeWay_31 ?_
          refine lv_iload_n hx hb dX3_takeWay_34 rfl (lv_at hl 3 rfl) ?_
          refine lv_iconst (v := -1) hx hb dX3_takeWay_35 (by decide) ?_
          obtain ⟨uB_5, e9, g⟩ := bd g
          refine q_iast (ws2 := wX3 cyI cyZ uc nw aF aT aP aC aU aUT aUD aUB nN nA nF nT nP nC nU uT uD_4 uB_5) hx hb hK hP hD hS 9 0 rfl rfl e9 dX3_takeWay_36 rfl (fun H locs hP hD hS => ?_)
          refine lv_iinc (v := x3_1 + 1) (lv' := [(3, .int (x3_1 + 1)), (0, .ref uc), (1, .int p0), (2, .int p1)]) hx hb dX3_takeWay_37 hl (k := 3) rfl (by rfl) (by decide) rfl (fun ls hl => ?_)
          refine lv_goto (tgt := 2) hx hb dX3_takeWay_40 (by decide) ?_
          cases g
          exact ih0 _ _ _ h _ _ hP hD hS _ (lv_sub hl [1, 2, 3, 0] rfl)
        · have g := ipos c9 g
          refine lv_iconst (v := 0) hx hb dX3_takeWay_23 (by decide) ?_
          refine lv_goto (tgt := 29) hx hb dX3_takeWay_24 (by decide) ?_
          obtain ⟨uD_6, e9, g⟩ := bd g
          refine q_iast (ws2 := wX3 cyI cyZ uc nw aF aT aP aC aU aUT aUD aUB nN nA nF nT nP nC nU uT uD_6 uB_3) hx hb hK hP hD hS 8 0 rfl rfl e9 dX3_takeWay_29 rfl (fun H locs hP hD hS => ?_)
          refine lv_aload_n hx hb dX3_takeWay_30 rfl (lv_at hl 0 rfl) ?_
          refine va_get (D := (dC, dI)) (ci := 3) (v := .ref aUB) (C := RX3) (T := TX3) (N := 4) hx hb hts k1 hown hK hP 0 rfl rfl 3 (by decide) k6 (fun _ h9 => h9) rfl dX3_takeWay_31 ?_
          refine lv_iload_n hx hb dX3_takeWay_34 rfl (lv_at hl 3 rfl) ?_
          refine lv_iconst (v := -1) hx hb dX3_takeWay_35 (by decide) ?_
          obtain ⟨uB_7, e9, g⟩ := bd g
          refine q_iast (ws2 := wX3 cyI cyZ uc nw aF aT aP aC aU aUT aUD aUB nN nA nF nT nP nC nU uT uD_6 uB_7) hx hb hK hP hD hS 9 0 rfl rfl e9 dX3_takeWay_36 rfl (fun H locs hP hD hS => ?_)
          refine lv_iinc (v := x3_1 + 1) (lv' := [(3, .int (x3_1 + 1)), (0, .ref uc), (1, .int p0), (2, .int p1)]) hx hb dX3_takeWay_37 hl (k := 3) rfl (by rfl) (by decide) rfl (fun ls hl => ?_)
          refine lv_goto (tgt := 2) hx hb dX3_takeWay_40 (by decide) ?_
          cases g
          exact ih0 _ _ _ h _ _ hP hD hS _ (lv_sub hl [1, 2, 3, 0] rfl)
  exact hL0 N _ _ _  e0 _ _ hP hD hS _ (lv_sub hl [1, 2, 3, 0] rfl)
set_option maxHeartbeats 4000000 in
set_option maxRecDepth 100000 in
theorem c_X3_takeOutCircle (l : Launch) (dC : Nat → ClassId) (dI : Nat → Nat → Nat) (cyI cyZ : ClassId) (uc nw aF aT aP aC aU aUT aUD aUB : Nat) (sz : Nat) (nN nA : Int32) (nF nT nP nC nU uT uD uB : Nat → Int32) (N : Nat) (res : Bool × (Nat → Int32) × (Nat → Int32) × (Nat → Int32)) (h : pX3_takeOutCircle N nN nA nF nT nC nU uT uD uB = some res) : Met l yX3_takeOutCircle wsX3_takeOutCircle { frames := 2, cells := 0, slots := 0, locals := 51 } (va_Pc [.ref uc] (zPre (dC, dI) (wX3 cyI cyZ uc nw aF aT aP aC aU aUT aUD aUB nN nA nF nT nP nC nU uT uD uB) [(cyI, .int), (cyZ, .boolean)] sz)) (zQi (dC, dI) (wX3 cyI cyZ uc nw aF aT aP aC aU aUT aUD aUB nN nA nF nT nP nC nU res.2.1 res.2.2.1 res.2.2.2) [(cyI, .int), (cyZ, .boolean)] (b2i res.1) (va_A (wX3 cyI cyZ uc nw aF aT aP aC aU aUT aUD aUB nN nA nF nT nP nC nU uT uD uB) sz)) 0 0 (va_A (wX3 cyI cyZ uc nw aF aT aP aC aU aUT aUD aUB nN nA nF nT nP nC nU uT uD uB) sz) := by
  refine q_ofWi (cc := cX3_takeOutCircle) (maxL := 4) (rt := (some .boolean)) (by decide) rfl (Nat.le_of_ble_eq_true rfl) ?_
  intro p e s m args below meth c ls A Q H locs hQ hx hb hr hts hown hlocks hml hA hK hP hD hS hl
  have hl : lv_has ls 4 [(0, .ref uc)] := hl
  have k0 := hts (.fieldLink RX3 22 "ConvexConduit$UnitCircles" "network" "LConvexConduit$Network;") (by decide +kernel)
  have k1 : ∀ w ∈ u_ws RX3 TX3 4, w ∈ wsX3_takeOutCircle := by decide +kernel
  have k2 := hts (.fieldLink RX3 37 "ConvexConduit$Network" "nodes" "I") (by decide +kernel)
  have k3 : ∀ w ∈ u_ws RX2 TX2 7, w ∈ wsX3_takeOutCircle := by decide +kernel
  have k4 := hts (.fieldLink RX3 15 "ConvexConduit$UnitCircles" "distance" "[I") (by decide +kernel)
  have k5 := hts (.fieldLink RX3 19 "ConvexConduit$UnitCircles" "cameBy" "[I") (by decide +kernel)
  have k6 := hts (.fieldLink RX3 9 "ConvexConduit$UnitCircles" "taken" "[Z") (by decide +kernel)
  unfold pX3_takeOutCircle at h
  refine lv_iconst (v := 0) hx hb dX3_takeOutCircle_0 (by decide) ?_
  refine lv_istore_n (lv' := [(1, .int 0), (0, .ref uc)]) hx hb dX3_takeOutCircle_1 rfl hl (by decide) rfl (fun ls hl => ?_)
  obtain ⟨x1_6, uD_7, uB_8, e0, h⟩ := bd3 h
  have hT0 : ∀ (H : Heap) (locs : List Loc), va_P (dC, dI) vwCl (wX3 cyI cyZ uc nw aF aT aP aC aU aUT aUD aUB nN nA nF nT nP nC nU uT uD_7 uB_8) H → va_D A (wX3 cyI cyZ uc nw aF aT aP aC aU aUT aUD aUB nN nA nF nT nP nC nU uT uD_7 uB_8) → va_S A s.heap H locs → ∀ ls : Array Slot, lv_has ls 4 [(0, .ref uc), (1, .int x1_6)] → W p l e { frames := 2, cells := 0, slots := 0, locals := 51 } s m args below meth c H locs 0 0 Q (F0 m 33 ls []) := by
    intro H locs hP hD hS ls hl
    refine lv_iconst (v := 0) hx hb dX3_takeOutCircle_33 (by decide) ?_
    refine lv_istore_n (lv' := [(1, .int 0), (0, .ref uc)]) hx hb dX3_takeOutCircle_34 rfl hl (by decide) rfl (fun ls hl => ?_)
    refine lv_iconst (v := 0) hx hb dX3_takeOutCircle_35 (by decide) ?_
    refine lv_istore_n (lv' := [(2, .int 0), (1, .int 0), (0, .ref uc)]) hx hb dX3_takeOutCircle_36 rfl hl (by decide) rfl (fun ls hl => ?_)
    obtain ⟨x1_16, x2_17, uD_18, uB_19, e1, h⟩ := bd4 h
    have hT1 : ∀ (H : Heap) (locs : List Loc), va_P (dC, dI) vwCl (wX3 cyI cyZ uc nw aF aT aP aC aU aUT aUD aUB nN nA nF nT nP nC nU uT uD_18 uB_19) H → va_D A (wX3 cyI cyZ uc nw aF aT aP aC aU aUT aUD aUB nN nA nF nT nP nC nU uT uD_18 uB_19) → va_S A s.heap H locs → ∀ ls : Array Slot, lv_has ls 4 [(0, .ref uc), (1, .int x1_16), (2, .int x2_17)] → W p l e { frames := 2, cells := 0, slots := 0, locals := 51 } s m args below meth c H locs 0 0 Q (F0 m 65 ls []) := by
      intro H locs hP hD hS ls hl
      refine lv_iconst (v := 0) hx hb dX3_takeOutCircle_65 (by decide) ?_
      refine lv_istore_n (lv' := [(2, .int 0), (0, .ref uc), (1, .int x1_16)]) hx hb dX3_takeOutCircle_66 rfl hl (by decide) rfl (fun ls hl => ?_)
      obtain ⟨x1_23, x2_24, e2, h⟩ := bd2 h
      have hT2 : ∀ (H : Heap) (locs : List Loc), va_P (dC, dI) vwCl (wX3 cyI cyZ uc nw aF aT aP aC aU aUT aUD aUB nN nA nF nT nP nC nU uT uD_18 uB_19) H → va_D A (wX3 cyI cyZ uc nw aF aT aP aC aU aUT aUD aUB nN nA nF nT nP nC nU uT uD_18 uB_19) → va_S A s.heap H locs → ∀ ls : Array Slot, lv_has ls 4 [(0, .ref uc), (1, .int x1_23), (2, .int x2_24)] → W p l e { frames := 2, cells := 0, slots := 0, locals := 51 } s m args below meth c H locs 0 0 Q (F0 m 95 ls []) := by
        intro H locs hP hD hS ls hl
        refine lv_iload_n hx hb dX3_takeOutCircle_95 rfl (lv_at hl 1 rfl) ?_
        refine lv_iconst (v := -1) hx hb dX3_takeOutCircle_96 (by decide) ?_
        refine lv_icmp_eq (tgt := 109) hx hb dX3_takeOutCircle_97 (by decide) (fun c9 => ?_) (fun c9 => ?_)
        · have h := ipos c9 h
          refine lv_iconst (v := 0) hx hb dX3_takeOutCircle_109 (by decide) ?_
          cases h
          exact q_zret (b := false) hQ hx hb hr hlocks hP hK hD hS dX3_takeOutCircle_110
        · have h := ineg c9 h
          refine lv_aload_n hx hb dX3_takeOutCircle_100 rfl (lv_at hl 0 rfl) ?_
          refine lv_iload_n hx hb dX3_takeOutCircle_101 rfl (lv_at hl 1 rfl) ?_
          obtain ⟨r25, e9, h⟩ := bd h
          refine q_callVi (ret := r25) (As := [.int x1_23]) (w1 := wX3 cyI cyZ uc nw aF aT aP aC aU aUT aUD aUB nN nA nF nT nP nC nU uT uD_18 uB_19) (ws2 := wX3 cyI cyZ uc nw aF aT aP aC aU aUT aUD aUB nN nA nF nT nP nC nU uT uD_18 uB_19) ⟨hx, hb, hml, hown, hts⟩ (c_X3_nodeBefore l dC dI cyI cyZ uc nw aF aT aP aC aU aUT aUD aUB H.size nN nA nF nT nP nC nU uT uD_18 uB_19 x1_23 _ e9) (cwV 1 hts gX3_takeOutCircle_X3_nodeBefore rfl rfl rfl (by decide +kernel) ⟨Nat.le_of_ble_eq_true rfl, Nat.le_of_ble_eq_true rfl⟩) hK hP hD hS hA [0, 1, 2, 3, 4, 5, 6, 7, 8, 9] [] [0, 1, 2, 3, 4, 5, 6, 7, 8, 9] [0, 1] rfl rfl rfl rfl (by decide) rfl rfl rfl 3 0 rfl rfl rfl hl.1 (Nat.le_of_ble_eq_true rfl) (Nat.le_of_ble_eq_true rfl) (Nat.le_of_ble_eq_true rfl) rfl dX3_takeOutCircle_102 (fun H locs hP hD hS => ?_)
          refine lv_iconst (v := -1) hx hb dX3_takeOutCircle_105 (by decide) ?_
          refine lv_icmp_ne (tgt := 111) hx hb dX3_takeOutCircle_106 (by decide) (fun c9 => ?_) (fun c9 => ?_)
          · have h := ineg c9 h
            refine lv_aload_n hx hb dX3_takeOutCircle_111 rfl (lv_at hl 0 rfl) ?_
            refine va_get (D := (dC, dI)) (ci := 3) (v := .ref aUB) (C := RX3) (T := TX3) (N := 4) hx hb hts k1 hown hK hP 0 rfl rfl 3 (by decide) k5 (fun _ h9 => h9) rfl dX3_takeOutCircle_112 ?_
            refine lv_iload_n hx hb dX3_takeOutCircle_115 rfl (lv_at hl 1 rfl) ?_
            obtain ⟨t26, e9, h⟩ := bd h
            refine q_iald hx hb hK hP 9 0 rfl rfl e9 dX3_takeOutCircle_116 ?_
            refine lv_istore_n (lv' := [(2, .int t26), (0, .ref uc), (1, .int x1_23)]) hx hb dX3_takeOutCircle_117 rfl hl (by decide) rfl (fun ls hl => ?_)
            refine lv_aload_n hx hb dX3_takeOutCircle_118 rfl (lv_at hl 1 rfl) ?_
            refine lv_iload_n hx hb dX3_takeOutCircle_119 rfl (lv_at hl 2 rfl) ?_
            obtain ⟨r27, e9, h⟩ := bd h
            refine q_callVi (ret := r27) (As := [.int x1_23]) (w1 := wX3 cyI cyZ uc nw aF aT aP aC aU aUT aUD aUB nN nA nF nT nP nC nU uT uD_18 uB_19) (ws2 := wX3 cyI cyZ uc nw aF aT aP aC aU aUT aUD aUB nN nA nF nT nP nC nU uT uD_18 uB_19) ⟨hx, hb, hml, hown, hts⟩ (c_X3_nodeBefore l dC dI cyI cyZ uc nw aF aT aP aC aU aUT aUD aUB H.size nN nA nF nT nP nC nU uT uD_18 uB_19 x1_23 _ e9) (cwV 1 hts gX3_takeOutCircle_X3_nodeBefore rfl rfl rfl (by decide +kernel) ⟨Nat.le_of_ble_eq_true rfl, Nat.le_of_ble_eq_true rfl⟩) hK hP hD hS hA [0, 1, 2, 3, 4, 5, 6, 7, 8, 9] [] [0, 1, 2, 3, 4, 5, 6, 7, 8, 9] [0, 1] rfl rfl rfl rfl (by decide) rfl rfl rfl 3 0 rfl rfl rfl hl.1 (Nat.le_of_ble_eq_true rfl) (Nat.le_of_ble_eq_true rfl) (Nat.le_of_ble_eq_true rfl) rfl dX3_takeOutCircle_120 (fun H locs hP hD hS => ?_)
            refine lv_istore_n (lv' := [(3, .int r27), (2, .int t26), (0, .ref uc), (1, .int x1_23)]) hx hb dX3_takeOutCircle_123 rfl hl (by decide) rfl (fun ls hl => ?_)
            refine lv_aload_n hx hb dX3_takeOutCircle_124 rfl (lv_at hl 2 rfl) ?_
            refine va_get (D := (dC, dI)) (ci := 3) (v := .ref aUT) (C := RX3) (T := TX3) (N := 4) hx hb hts k1 hown hK hP 0 rfl rfl 1 (by decide) k6 (fun _ h9 => h9) rfl dX3_takeOutCircle_125 ?_
            refine lv_iload_n hx hb dX3_takeOutCircle_128 rfl (lv_at hl 1 rfl) ?_
            refine lv_aload_n hx hb dX3_takeOutCircle_129 rfl (lv_at hl 2 rfl) ?_
            refine va_get (D := (dC, dI)) (ci := 3) (v := .ref aUT) (C := RX3) (T := TX3) (N := 4) hx hb hts k1 hown hK hP 0 rfl rfl 1 (by decide) k6 (fun _ h9 => h9) rfl dX3_takeOutCircle_130 ?_
            refine lv_iload_n hx hb dX3_takeOutCircle_133 rfl (lv_at hl 1 rfl) ?_
            obtain ⟨t28, e9, h⟩ := bd h
            refine q_zald hx hb hK hP 7 1 rfl rfl e9 dX3_takeOutCircle_134 ?_
            refine lv_if_ne (tgt := 142) hx hb dX3_takeOutCircle_135 (by decide) (fun c9 => ?_) (fun c9 => ?_)
            · have h := ineg c9 h
              refine lv_iconst (v := 0) hx hb dX3_takeOutCircle_142 (by decide) ?_
              obtain ⟨uT_29, e9, h⟩ := bd h
              refine q_zast (ws2 := wX3 cyI cyZ uc nw aF aT aP aC aU aUT aUD aUB nN nA nF nT nP nC nU uT_29 uD_18 uB_19) hx hb hK hP hD hS 7 1 rfl rfl (by decide) e9 dX3_takeOutCircle_143 rfl (fun H locs hP hD hS => ?_)
              refine lv_aload_n hx hb dX3_takeOutCircle_144 rfl (lv_at hl 2 rfl) ?_
              refine lv_iload_n hx hb dX3_takeOutCircle_145 rfl (lv_at hl 0 rfl) ?_
              refine lv_iload_n hx hb dX3_takeOutCircle_146 rfl (lv_at hl 3 rfl) ?_
              obtain ⟨uT_30, e9, h⟩ := bd h
              refine q_callVv (As := [.int r27, .int x1_23]) (w1 := wX3 cyI cyZ uc nw aF aT aP aC aU aUT aUD aUB nN nA nF nT nP nC nU uT_30 uD_18 uB_19) (ws2 := wX3 cyI cyZ uc nw aF aT aP aC aU aUT aUD aUB nN nA nF nT nP nC nU uT_30 uD_18 uB_19) ⟨hx, hb, hml, hown, hts⟩ (c_X3_turnBack l dC dI cyI cyZ uc nw aF aT aP aC aU aUT aUD aUB H.size nN nA nF nT nP nC nU uT_29 uD_18 uB_19 r27 x1_23 N _ e9) (cwV 2 hts gX3_takeOutCircle_X3_turnBack rfl rfl rfl (by decide +kernel) ⟨Nat.le_of_ble_eq_true rfl, Nat.le_of_ble_eq_true rfl⟩) hK hP hD hS hA [0, 1, 2, 3, 4, 5, 6, 7, 8, 9] [] [0, 1, 2, 3, 4, 5, 6, 7, 8, 9] [0, 1] rfl rfl rfl rfl (by decide) rfl rfl rfl 3 0 rfl rfl rfl hl.1 (Nat.le_of_ble_eq_true rfl) (Nat.le_of_ble_eq_true rfl) (Nat.le_of_ble_eq_true rfl) rfl dX3_takeOutCircle_147 (fun H locs hP hD hS => ?_)
              refine lv_iconst (v := 1) hx hb dX3_takeOutCircle_150 (by decide) ?_
              cases h
              exact q_zret (b := true) hQ hx hb hr hlocks hP hK hD hS dX3_takeOutCircle_151
            · have h := ipos c9 h
              refine lv_iconst (v := 1) hx hb dX3_takeOutCircle_138 (by decide) ?_
              refine lv_goto (tgt := 143) hx hb dX3_takeOutCircle_139 (by decide) ?_
              obtain ⟨uT_31, e9, h⟩ := bd h
              refine q_zast (ws2 := wX3 cyI cyZ uc nw aF aT aP aC aU aUT aUD aUB nN nA nF nT nP nC nU uT_31 uD_18 uB_19) hx hb hK hP hD hS 7 1 rfl rfl (by decide) e9 dX3_takeOutCircle_143 rfl (fun H locs hP hD hS => ?_)
              refine lv_aload_n hx hb dX3_takeOutCircle_144 rfl (lv_at hl 2 rfl) ?_
              refine lv_iload_n hx hb dX3_takeOutCircle_145 rfl (lv_at hl 0 rfl) ?_
              refine lv_iload_n hx hb dX3_takeOutCircle_146 rfl (lv_at hl 3 rfl) ?_
              obtain ⟨uT_32, e9, h⟩ := bd h
              refine q_callVv (As := [.int r27, .int x1_23]) (w1 := wX3 cyI cyZ uc nw aF aT aP aC aU aUT aUD aUB nN nA nF nT nP nC nU uT_32 uD_18 uB_19) (ws2 := wX3 cyI cyZ uc nw aF aT aP aC aU aUT aUD aUB nN nA nF nT nP nC nU uT_32 uD_18 uB_19) ⟨hx, hb, hml, hown, hts⟩ (c_X3_turnBack l dC dI cyI cyZ uc nw aF aT aP aC aU aUT aUD aUB H.size nN nA nF nT nP nC nU uT_31 uD_18 uB_19 r27 x1_23 N _ e9) (cwV 2 hts gX3_takeOutCircle_X3_turnBack rfl rfl rfl (by decide +kernel) ⟨Nat.le_of_ble_eq_true rfl, Nat.le_of_ble_eq_true rfl⟩) hK hP hD hS hA [0, 1, 2, 3, 4, 5, 6, 7, 8, 9] [] [0, 1, 2, 3, 4, 5, 6, 7, 8, 9] [0, 1] rfl rfl rfl rfl (by decide) rfl rfl rfl 3 0 rfl rfl rfl hl.1 (Nat.le_of_ble_eq_true rfl) (Nat.le_of_ble_eq_true rfl) (Nat.le_of_ble_eq_true rfl) rfl dX3_takeOutCircle_147 (fun H locs hP hD hS => ?_)
              refine lv_iconst (v := 1) hx hb dX3_takeOutCircle_150 (by decide) ?_
              cases h
              exact q_zret (b := true) hQ hx hb hr hlocks hP hK hD hS dX3_takeOutCircle_151
          · have h := ipos c9 h
            refine lv_iconst (v := 0) hx hb dX3_takeOutCircle_109 (by decide) ?_
            cases h
            exact q_zret (b := false) hQ hx hb hr hlocks hP hK hD hS dX3_takeOutCircle_110
      have hL2 : ∀ (n9 : Nat) (x1_20 : Int32) (x2_21 : Int32), lp (un2 (pX3_takeOutCircle_l67 nF nN nT uB_19 uT)) n9 ((x1_20, x2_21)) = some ((x1_23, x2_24)) → ∀ (H : Heap) (locs : List Loc), va_P (dC, dI) vwCl (wX3 cyI cyZ uc nw aF aT aP aC aU aUT aUD aUB nN nA nF nT nP nC nU uT uD_18 uB_19) H → va_D A (wX3 cyI cyZ uc nw aF aT aP aC aU aUT aUD aUB nN nA nF nT nP nC nU uT uD_18 uB_19) → va_S A s.heap H locs → ∀ ls : Array Slot, lv_has ls 4 [(0, .ref uc), (1, .int x1_20), (2, .int x2_21)] → W p l e { frames := 2, cells := 0, slots := 0, locals := 51 } s m args below meth c H locs 0 0 Q (F0 m 67 ls []) := by
        intro n9
        induction n9 with
        | zero =>
          intro x1_20 x2_21 h
          exact lp0 h
        | succ n9 ih2 =>
          intro x1_20 x2_21 h H locs hP hD hS ls hl
          obtain ⟨o9, g, h⟩ := lps h
          replace g : pX3_takeOutCircle_l67 nF nN nT uB_19 uT x1_20 x2_21 = some o9 := g
          unfold pX3_takeOutCircle_l67 at g
          refine lv_iload_n hx hb dX3_takeOutCircle_67 rfl (lv_at hl 2 rfl) ?_
          refine lv_aload_n hx hb dX3_takeOutCircle_68 rfl (lv_at hl 0 rfl) ?_
          refine va_get (D := (dC, dI)) (ci := 3) (v := .ref nw) (C := RX3) (T := TX3) (N := 4) hx hb hts k1 hown hK hP 0 rfl rfl 0 (by decide) k0 (fun _ h9 => h9) rfl dX3_takeOutCircle_69 ?_
          refine va_get (D := (dC, dI)) (ci := 2) (v := .int nN) (C := RX2) (T := TX2) (N := 7) hx hb hts k3 hown hK hP 1 rfl rfl 0 (by decide) k2 (fun _ h9 => h9) rfl dX3_takeOutCircle_72 ?_
          refine lv_icmp_ge (tgt := 95) hx hb dX3_takeOutCircle_75 (by decide) (fun c9 => ?_) (fun c9 => ?_)
          · have g := ipos c9 g
            cases g
            have h := lpx h
            cases h
            exact hT2 _ _ hP hD hS _ (lv_sub hl [0, 1, 2] rfl)
          · have g := ineg c9 g
            refine lv_iload_n hx hb dX3_takeOutCircle_78 rfl (lv_at hl 1 rfl) ?_
            refine lv_iconst (v := -1) hx hb dX3_takeOutCircle_79 (by decide) ?_
            refine lv_icmp_eq (tgt := 95) hx hb dX3_takeOutCircle_80 (by decide) (fun c9 => ?_) (fun c9 => ?_)
            · have g := ipos c9 g
              cases g
              have h := lpx h
              cases h
              exact hT2 _ _ hP hD hS _ (lv_sub hl [0, 1, 2] rfl)
            · have g := ineg c9 g
              refine lv_aload_n hx hb dX3_takeOutCircle_83 rfl (lv_at hl 0 rfl) ?_
              refine lv_iload_n hx hb dX3_takeOutCircle_84 rfl (lv_at hl 1 rfl) ?_
              obtain ⟨r22, e9, g⟩ := bd g
              refine q_callVi (ret := r22) (As := [.int x1_20]) (w1 := wX3 cyI cyZ uc nw aF aT aP aC aU aUT aUD aUB nN nA nF nT nP nC nU uT uD_18 uB_19) (ws2 := wX3 cyI cyZ uc nw aF aT aP aC aU aUT aUD aUB nN nA nF nT nP nC nU uT uD_18 uB_19) ⟨hx, hb, hml, hown, hts⟩ (c_X3_nodeBefore l dC dI cyI cyZ uc nw aF aT aP aC aU aUT aUD aUB H.size nN nA nF nT nP nC nU uT uD_18 uB_19 x1_20 _ e9) (cwV 1 hts gX3_takeOutCircle_X3_nodeBefore rfl rfl rfl (by decide +kernel) ⟨Nat.le_of_ble_eq_true rfl, Nat.le_of_ble_eq_true rfl⟩) hK hP hD hS hA [0, 1, 2, 3, 4, 5, 6, 7, 8, 9] [] [0, 1, 2, 3, 4, 5, 6, 7, 8, 9] [0, 1] rfl rfl rfl rfl (by decide) rfl rfl rfl 3 0 rfl rfl rfl hl.1 (Nat.le_of_ble_eq_true rfl) (Nat.le_of_ble_eq_true rfl) (Nat.le_of_ble_eq_true rfl) rfl dX3_takeOutCircle_85 (fun H locs hP hD hS => ?_)
              refine lv_istore_n (lv' := [(1, .int r22), (0, .ref uc), (2, .int x2_21)]) hx hb dX3_takeOutCircle_88 rfl hl (by decide) rfl (fun ls hl => ?_)
              refine lv_iinc (v := x2_21 + 1) (lv' := [(2, .int (x2_21 + 1)), (1, .int r22), (0, .ref uc)]) hx hb dX3_takeOutCircle_89 hl (k := 2) rfl (by rfl) (by decide) rfl (fun ls hl => ?_)
              refine lv_goto (tgt := 67) hx hb dX3_takeOutCircle_92 (by decide) ?_
              cases g
              exact ih2 _ _ h _ _ hP hD hS _ (lv_sub hl [2, 1, 0] rfl)
      exact hL2 N _ _  e2 _ _ hP hD hS _ (lv_sub hl [1, 2, 0] rfl)
    have hL1 : ∀ (n9 : Nat) (x1_9 : Int32) (x2_10 : Int32) (uD_11 : Nat → Int32) (uB_12 : Nat → Int32), lp (un4 (pX3_takeOutCircle_l37 N nA nC nF nN nT nU uT)) n9 ((x1_9, x2_10, uD_11, uB_12)) = some ((x1_16, x2_17, uD_18, uB_19)) → ∀ (H : Heap) (locs : List Loc), va_P (dC, dI) vwCl (wX3 cyI cyZ uc nw aF aT aP aC aU aUT aUD aUB nN nA nF nT nP nC nU uT uD_11 uB_12) H → va_D A (wX3 cyI cyZ uc nw aF aT aP aC aU aUT aUD aUB nN nA nF nT nP nC nU uT uD_11 uB_12) → va_S A s.heap H locs → ∀ ls : Array Slot, lv_has ls 4 [(0, .ref uc), (1, .int x1_9), (2, .int x2_10)] → W p l e { frames := 2, cells := 0, slots := 0, locals := 51 } s m args below meth c H locs 0 0 Q (F0 m 37 ls []) := by
      intro n9
      induction n9 with
      | zero =>
        intro x1_9 x2_10 uD_11 uB_12 h
        exact lp0 h
      | succ n9 ih1 =>
        intro x1_9 x2_10 uD_11 uB_12 h H locs hP hD hS ls hl
        obtain ⟨o9, g, h⟩ := lps h
        replace g : pX3_takeOutCircle_l37 N nA nC nF nN nT nU uT x1_9 x2_10 uD_11 uB_12 = some o9 := g
        unfold pX3_takeOutCircle_l37 at g
        refine lv_iload_n hx hb dX3_takeOutCircle_37 rfl (lv_at hl 2 rfl) ?_
        refine lv_aload_n hx hb dX3_takeOutCircle_38 rfl (lv_at hl 0 rfl) ?_
        refine va_get (D := (dC, dI)) (ci := 3) (v := .ref nw) (C := RX3) (T := TX3) (N := 4) hx hb hts k1 hown hK hP 0 rfl rfl 0 (by decide) k0 (fun _ h9 => h9) rfl dX3_takeOutCircle_39 ?_
        refine va_get (D := (dC, dI)) (ci := 2) (v := .int nN) (C := RX2) (T := TX2) (N := 7) hx hb hts k3 hown hK hP 1 rfl rfl 0 (by decide) k2 (fun _ h9 => h9) rfl dX3_takeOutCircle_42 ?_
        refine lv_icmp_ge (tgt := 65) hx hb dX3_takeOutCircle_45 (by decide) (fun c9 => ?_) (fun c9 => ?_)
        · have g := ipos c9 g
          cases g
          have h := lpx h
          cases h
          exact hT1 _ _ hP hD hS _ (lv_sub hl [0, 1, 2] rfl)
        · have g := ineg c9 g
          refine lv_iload_n hx hb dX3_takeOutCircle_48 rfl (lv_at hl 1 rfl) ?_
          refine lv_iconst (v := -1) hx hb dX3_takeOutCircle_49 (by decide) ?_
          refine lv_icmp_eq (tgt := 65) hx hb dX3_takeOutCircle_50 (by decide) (fun c9 => ?_) (fun c9 => ?_)
          · have g := ipos c9 g
            cases g
            have h := lpx h
            cases h
            exact hT1 _ _ hP hD hS _ (lv_sub hl [0, 1, 2] rfl)
          · have g := ineg c9 g
            refine lv_aload_n hx hb dX3_takeOutCircle_53 rfl (lv_at hl 0 rfl) ?_
            refine lv_iconst (v := 1) hx hb dX3_takeOutCircle_54 (by decide) ?_
            obtain ⟨r13, uD_14, uB_15, e9, g⟩ := bd3 g
            refine q_callVi (ret := r13) (As := [.int 1]) (w1 := wX3 cyI cyZ uc nw aF aT aP aC aU aUT aUD aUB nN nA nF nT nP nC nU uT uD_14 uB_15) (ws2 := wX3 cyI cyZ uc nw aF aT aP aC aU aUT aUD aUB nN nA nF nT nP nC nU uT uD_14 uB_15) ⟨hx, hb, hml, hown, hts⟩ (c_X3_shortenAll l dC dI cyI cyZ uc nw aF aT aP aC aU aUT aUD aUB H.size nN nA nF nT nP nC nU uT uD_11 uB_12 1 N _ e9) (cwV 1 hts gX3_takeOutCircle_X3_shortenAll rfl rfl rfl (by decide +kernel) ⟨Nat.le_of_ble_eq_true rfl, Nat.le_of_ble_eq_true rfl⟩) hK hP hD hS hA [0, 1, 2, 3, 4, 5, 6, 7, 8, 9] [] [0, 1, 2, 3, 4, 5, 6, 7, 8, 9] [0, 1] rfl rfl rfl rfl (by decide) rfl rfl rfl 3 0 rfl rfl rfl hl.1 (Nat.le_of_ble_eq_true rfl) (Nat.le_of_ble_eq_true rfl) (Nat.le_of_ble_eq_true rfl) rfl dX3_takeOutCircle_55 (fun H locs hP hD hS => ?_)
            refine lv_istore_n (lv' := [(1, .int r13), (0, .ref uc), (2, .int x2_10)]) hx hb dX3_takeOutCircle_58 rfl hl (by decide) rfl (fun ls hl => ?_)
            refine lv_iinc (v := x2_10 + 1) (lv' := [(2, .int (x2_10 + 1)), (1, .int r13), (0, .ref uc)]) hx hb dX3_takeOutCircle_59 hl (k := 2) rfl (by rfl) (by decide) rfl (fun ls hl => ?_)
            refine lv_goto (tgt := 37) hx hb dX3_takeOutCircle_62 (by decide) ?_
            cases g
            exact ih1 _ _ _ _ h _ _ hP hD hS _ (lv_sub hl [2, 1, 0] rfl)
    exact hL1 N _ _ _ _  e1 _ _ hP hD hS _ (lv_sub hl [2, 1, 0] rfl)
  have hL0 : ∀ (n9 : Nat) (x1_1 : Int32) (uD_2 : Nat → Int32) (uB_3 : Nat → Int32), lp (un3 (pX3_takeOutCircle_l2 nN)) n9 ((x1_1, uD_2, uB_3)) = some ((x1_6, uD_7, uB_8)) → ∀ (H : Heap) (locs : List Loc), va_P (dC, dI) vwCl (wX3 cyI cyZ uc nw aF aT aP aC aU aUT aUD aUB nN nA nF nT nP nC nU uT uD_2 uB_3) H → va_D A (wX3 cyI cyZ uc nw aF aT aP aC aU aUT aUD aUB nN nA nF nT nP nC nU uT uD_2 uB_3) → va_S A s.heap H locs → ∀ ls : Array Slot, lv_has ls 4 [(0, .ref uc), (1, .int x1_1)] → W p l e { frames := 2, cells := 0, slots := 0, locals := 51 } s m args below meth c H locs 0 0 Q (F0 m 2 ls []) := by
    intro n9
    induction n9 with
    | zero =>
      intro x1_1 uD_2 uB_3 h
      exact lp0 h
    | succ n9 ih0 =>
      intro x1_1 uD_2 uB_3 h H locs hP hD hS ls hl
      obtain ⟨o9, g, h⟩ := lps h
      replace g : pX3_takeOutCircle_l2 nN x1_1 uD_2 uB_3 = some o9 := g
      unfold pX3_takeOutCircle_l2 at g
      refine lv_iload_n hx hb dX3_takeOutCircle_2 rfl (lv_at hl 1 rfl) ?_
      refine lv_aload_n hx hb dX3_takeOutCircle_3 rfl (lv_at hl 0 rfl) ?_
      refine va_get (D := (dC, dI)) (ci := 3) (v := .ref nw) (C := RX3) (T := TX3) (N := 4) hx hb hts k1 hown hK hP 0 rfl rfl 0 (by decide) k0 (fun _ h9 => h9) rfl dX3_takeOutCircle_4 ?_
      refine va_get (D := (dC, dI)) (ci := 2) (v := .int nN) (C := RX2) (T := TX2) (N := 7) hx hb hts k3 hown hK hP 1 rfl rfl 0 (by decide) k2 (fun _ h9 => h9) rfl dX3_takeOutCircle_7 ?_
      refine lv_icmp_ge (tgt := 33) hx hb dX3_takeOutCircle_10 (by decide) (fun c9 => ?_) (fun c9 => ?_)
      · have g := ipos c9 g
        cases g
        have h := lpx h
        cases h
        exact hT0 _ _ hP hD hS _ (lv_sub hl [0, 1] rfl)
      · have g := ineg c9 g
        refine lv_aload_n hx hb dX3_takeOutCircle_13 rfl (lv_at hl 0 rfl) ?_
        refine va_get (D := (dC, dI)) (ci := 3) (v := .ref aUD) (C := RX3) (T := TX3) (N := 4) hx hb hts k1 hown hK hP 0 rfl rfl 2 (by decide) k4 (fun _ h9 => h9) rfl dX3_takeOutCircle_14 ?_
        refine lv_iload_n hx hb dX3_takeOutCircle_17 rfl (lv_at hl 1 rfl) ?_
        refine lv_iconst (v := 0) hx hb dX3_takeOutCircle_18 (by decide) ?_
        obtain ⟨uD_4, e9, g⟩ := bd g
        refine q_iast (ws2 := wX3 cyI cyZ uc nw aF aT aP aC aU aUT aUD aUB nN nA nF nT nP nC nU uT uD_4 uB_3) hx hb hK hP hD hS 8 0 rfl rfl e9 dX3_takeOutCircle_19 rfl (fun H locs hP hD hS => ?_)
        refine lv_aload_n hx hb dX3_takeOutCircle_20 rfl (lv_at hl 0 rfl) ?_
        refine va_get (D := (dC, dI)) (ci := 3) (v := .ref aUB) (C := RX3) (T := TX3) (N := 4) hx hb hts k1 hown hK hP 0 rfl rfl 3 (by decide) k5 (fun _ h9 => h9) rfl dX3_takeOutCircle_21 ?_
        refine lv_iload_n hx hb dX3_takeOutCircle_24 rfl (lv_at hl 1 rfl) ?_
        refine lv_iconst (v := -1) hx hb dX3_takeOutCircle_25 (by decide) ?_
        obtain ⟨uB_5, e9, g⟩ := bd g
        refine q_iast (ws2 := wX3 cyI cyZ uc nw aF aT aP aC aU aUT aUD aUB nN nA nF nT nP nC nU uT uD_4 uB_5) hx hb hK hP hD hS 9 0 rfl rfl e9 dX3_takeOutCircle_26 rfl (fun H locs hP hD hS => ?_)
        refine lv_iinc (v := x1_1 + 1) (lv' := [(1, .int (x1_1 + 1)), (0, .ref uc)]) hx hb dX3_takeOutCircle_27 hl (k := 1) rfl (by rfl) (by decide) rfl (fun ls hl => ?_)
        refine lv_goto (tgt := 2) hx hb dX3_takeOutCircle_30 (by decide) ?_
        cases g
        exact ih0 _ _ _ h _ _ hP hD hS _ (lv_sub hl [1, 0] rfl)
  exact hL0 N _ _ _  e0 _ _ hP hD hS _ (lv_sub hl [1, 0] rfl)
set_option maxHeartbeats 4000000 in
set_option maxRecDepth 100000 in
theorem c_X3_takeOutCircles (l : Launch) (dC : Nat → ClassId) (dI : Nat → Nat → Nat) (cyI cyZ : ClassId) (uc nw aF aT aP aC aU aUT aUD aUB : Nat) (sz : Nat) (nN nA : Int32) (nF nT nP nC nU uT uD uB : Nat → Int32) (N : Nat) (res : (Nat → Int32) × (Nat → Int32) × (Nat → Int32)) (h : pX3_takeOutCircles N nN nA nF nT nC nU uT uD uB = some res) : Met l yX3_takeOutCircles wsX3_takeOutCircles { frames := 3, cells := 0, slots := 0, locals := 74 } (va_Pc [.ref uc] (zPre (dC, dI) (wX3 cyI cyZ uc nw aF aT aP aC aU aUT aUD aUB nN nA nF nT nP nC nU uT uD uB) [(cyI, .int), (cyZ, .boolean)] sz)) (zQv (dC, dI) (wX3 cyI cyZ uc nw aF aT aP aC aU aUT aUD aUB nN nA nF nT nP nC nU res.1 res.2.1 res.2.2) [(cyI, .int), (cyZ, .boolean)] (va_A (wX3 cyI cyZ uc nw aF aT aP aC aU aUT aUD aUB nN nA nF nT nP nC nU uT uD uB) sz)) 0 0 (va_A (wX3 cyI cyZ uc nw aF aT aP aC aU aUT aUD aUB nN nA nF nT nP nC nU uT uD uB) sz) := by
  refine q_ofWv (cc := cX3_takeOutCircles) (maxL := 3) (rt := none) (by decide) rfl (Nat.le_of_ble_eq_true rfl) ?_
  intro p e s m args below meth c ls A Q H locs hQ hx hb hr hts hown hlocks hml hA hK hP hD hS hl
  have hl : lv_has ls 3 [(0, .ref uc)] := hl
  unfold pX3_takeOutCircles at h
  refine lv_iconst (v := 1) hx hb dX3_takeOutCircles_0 (by decide) ?_
  refine lv_istore_n (lv' := [(1, .int 1), (0, .ref uc)]) hx hb dX3_takeOutCircles_1 rfl hl (by decide) rfl (fun ls hl => ?_)
  refine lv_iconst (v := 0) hx hb dX3_takeOutCircles_2 (by decide) ?_
  refine lv_istore_n (lv' := [(2, .int 0), (1, .int 1), (0, .ref uc)]) hx hb dX3_takeOutCircles_3 rfl hl (by decide) rfl (fun ls hl => ?_)
  obtain ⟨x1_10, x2_11, uT_12, uD_13, uB_14, e0, h⟩ := bd5 h
  have hT0 : ∀ (H : Heap) (locs : List Loc), va_P (dC, dI) vwCl (wX3 cyI cyZ uc nw aF aT aP aC aU aUT aUD aUB nN nA nF nT nP nC nU uT_12 uD_13 uB_14) H → va_D A (wX3 cyI cyZ uc nw aF aT aP aC aU aUT aUD aUB nN nA nF nT nP nC nU uT_12 uD_13 uB_14) → va_S A s.heap H locs → ∀ ls : Array Slot, lv_has ls 3 [(0, .ref uc), (1, .int x1_10), (2, .int x2_11)] → W p l e { frames := 3, cells := 0, slots := 0, locals := 74 } s m args below meth c H locs 0 0 Q (F0 m 26 ls []) := by
    intro H locs hP hD hS ls hl
    cases h
    exact q_vret hQ hx hb hr hlocks hP hK hD hS dX3_takeOutCircles_26
  have hL0 : ∀ (n9 : Nat) (x1_1 : Int32) (x2_2 : Int32) (uT_3 : Nat → Int32) (uD_4 : Nat → Int32) (uB_5 : Nat → Int32), lp (un5 (pX3_takeOutCircles_l4 N nA nC nF nN nT nU)) n9 ((x1_1, x2_2, uT_3, uD_4, uB_5)) = some ((x1_10, x2_11, uT_12, uD_13, uB_14)) → ∀ (H : Heap) (locs : List Loc), va_P (dC, dI) vwCl (wX3 cyI cyZ uc nw aF aT aP aC aU aUT aUD aUB nN nA nF nT nP nC nU uT_3 uD_4 uB_5) H → va_D A (wX3 cyI cyZ uc nw aF aT aP aC aU aUT aUD aUB nN nA nF nT nP nC nU uT_3 uD_4 uB_5) → va_S A s.heap H locs → ∀ ls : Array Slot, lv_has ls 3 [(0, .ref uc), (1, .int x1_1), (2, .int x2_2)] → W p l e { frames := 3, cells := 0, slots := 0, locals := 74 } s m args below meth c H locs 0 0 Q (F0 m 4 ls []) := by
    intro n9
    induction n9 with
    | zero =>
      intro x1_1 x2_2 uT_3 uD_4 uB_5 h
      exact lp0 h
    | succ n9 ih0 =>
      intro x1_1 x2_2 uT_3 uD_4 uB_5 h H locs hP hD hS ls hl
      obtain ⟨o9, g, h⟩ := lps h
      replace g : pX3_takeOutCircles_l4 N nA nC nF nN nT nU x1_1 x2_2 uT_3 uD_4 uB_5 = some o9 := g
      unfold pX3_takeOutCircles_l4 at g
      refine lv_iload_n hx hb dX3_takeOutCircles_4 rfl (lv_at hl 2 rfl) ?_
      refine lv_sipush (v := 17820) hx hb dX3_takeOutCircles_5 (by decide) ?_
      refine lv_icmp_ge (tgt := 26) hx hb dX3_takeOutCircles_8 (by decide) (fun c9 => ?_) (fun c9 => ?_)
      · have g := ipos c9 g
        cases g
        have h := lpx h
        cases h
        exact hT0 _ _ hP hD hS _ (lv_sub hl [0, 1, 2] rfl)
      · have g := ineg c9 g
        refine lv_iload_n hx hb dX3_takeOutCircles_11 rfl (lv_at hl 1 rfl) ?_
        refine lv_if_eq (tgt := 26) hx hb dX3_takeOutCircles_12 (by decide) (fun c9 => ?_) (fun c9 => ?_)
        · have g := ipos c9 g
          cases g
          have h := lpx h
          cases h
          exact hT0 _ _ hP hD hS _ (lv_sub hl [0, 1, 2] rfl)
        · have g := ineg c9 g
          refine lv_aload_n hx hb dX3_takeOutCircles_15 rfl (lv_at hl 0 rfl) ?_
          obtain ⟨b6, uT_7, uD_8, uB_9, e9, g⟩ := bd4 g
          refine q_callVi (ret := b2i b6) (As := []) (w1 := wX3 cyI cyZ uc nw aF aT aP aC aU aUT aUD aUB nN nA nF nT nP nC nU uT_7 uD_8 uB_9) (ws2 := wX3 cyI cyZ uc nw aF aT aP aC aU aUT aUD aUB nN nA nF nT nP nC nU uT_7 uD_8 uB_9) ⟨hx, hb, hml, hown, hts⟩ (c_X3_takeOutCircle l dC dI cyI cyZ uc nw aF aT aP aC aU aUT aUD aUB H.size nN nA nF nT nP nC nU uT_3 uD_4 uB_5 N _ e9) (cwV 0 hts gX3_takeOutCircles_X3_takeOutCircle rfl rfl rfl (by decide +kernel) ⟨Nat.le_of_ble_eq_true rfl, Nat.le_of_ble_eq_true rfl⟩) hK hP hD hS hA [0, 1, 2, 3, 4, 5, 6, 7, 8, 9] [] [0, 1, 2, 3, 4, 5, 6, 7, 8, 9] [0, 1] rfl rfl rfl rfl (by decide) rfl rfl rfl 3 0 rfl rfl rfl hl.1 (Nat.le_of_ble_eq_true rfl) (Nat.le_of_ble_eq_true rfl) (Nat.le_of_ble_eq_true rfl) rfl dX3_takeOutCircles_16 (fun H locs hP hD hS => ?_)
          refine lv_istore_n (lv' := [(1, .int (b2i b6)), (0, .ref uc), (2, .int x2_2)]) hx hb dX3_takeOutCircles_19 rfl hl (by decide) rfl (fun ls hl => ?_)
          refine lv_iinc (v := x2_2 + 1) (lv' := [(2, .int (x2_2 + 1)), (1, .int (b2i b6)), (0, .ref uc)]) hx hb dX3_takeOutCircles_20 hl (k := 2) rfl (by rfl) (by decide) rfl (fun ls hl => ?_)
          refine lv_goto (tgt := 4) hx hb dX3_takeOutCircles_23 (by decide) ?_
          cases g
          exact ih0 _ _ _ _ _ h _ _ hP hD hS _ (lv_sub hl [2, 1, 0] rfl)
  exact hL0 N _ _ _ _ _  e0 _ _ hP hD hS _ (lv_sub hl [2, 1, 0] rfl)
set_option maxHeartbeats 4000000 in
set_option maxRecDepth 100000 in
theorem c_X3_leastPrice (l : Launch) (dC : Nat → ClassId) (dI : Nat → Nat → Nat) (cyI cyZ : ClassId) (uc nw aF aT aP aC aU aUT aUD aUB : Nat) (sz : Nat) (nN nA : Int32) (nF nT nP nC nU uT uD uB : Nat → Int32) (p0 p1 p2 : Int32) (N : Nat) (res : Int32 × (Nat → Int32) × (Nat → Int32) × (Nat → Int32)) (h : pX3_leastPrice N nN nA nF nT nC nU uT uD uB p0 p1 p2 = some res) : Met l yX3_leastPrice wsX3_leastPrice { frames := 4, cells := 0, slots := 0, locals := 96 } (va_Pc [.ref uc, .int p0, .int p1, .int p2] (zPre (dC, dI) (wX3 cyI cyZ uc nw aF aT aP aC aU aUT aUD aUB nN nA nF nT nP nC nU uT uD uB) [(cyI, .int), (cyZ, .boolean)] sz)) (zQi (dC, dI) (wX3 cyI cyZ uc nw aF aT aP aC aU aUT aUD aUB nN nA nF nT nP nC nU res.2.1 res.2.2.1 res.2.2.2) [(cyI, .int), (cyZ, .boolean)] (res.1) (va_A (wX3 cyI cyZ uc nw aF aT aP aC aU aUT aUD aUB nN nA nF nT nP nC nU uT uD uB) sz)) 0 0 (va_A (wX3 cyI cyZ uc nw aF aT aP aC aU aUT aUD aUB nN nA nF nT nP nC nU uT uD uB) sz) := by
  refine q_ofWi (cc := cX3_leastPrice) (maxL := 5) (rt := (some .int)) (by decide) rfl (Nat.le_of_ble_eq_true rfl) ?_
  intro p e s m args below meth c ls A Q H locs hQ hx hb hr hts hown hlocks hml hA hK hP hD hS hl
  have hl : lv_has ls 5 [(0, .ref uc), (1, .int p0), (2, .int p1), (3, .int p2)] := hl
  have k0 := hts (.fieldLink RX3 9 "ConvexConduit$UnitCircles" "taken" "[Z") (by decide +kernel)
  have k1 : ∀ w ∈ u_ws RX3 TX3 4, w ∈ wsX3_leastPrice := by decide +kernel
  unfold pX3_leastPrice at h
  refine lv_iconst (v := 0) hx hb dX3_leastPrice_0 (by decide) ?_
  refine lv_istore (lv' := [(4, .int 0), (0, .ref uc), (1, .int p0), (2, .int p1), (3, .int p2)]) hx hb dX3_leastPrice_1 hl (by decide) rfl (fun ls hl => ?_)
  obtain ⟨x4_4, uT_5, e0, h⟩ := bd2 h
  have hT0 : ∀ (H : Heap) (locs : List Loc), va_P (dC, dI) vwCl (wX3 cyI cyZ uc nw aF aT aP aC aU aUT aUD aUB nN nA nF nT nP nC nU uT_5 uD uB) H → va_D A (wX3 cyI cyZ uc nw aF aT aP aC aU aUT aUD aUB nN nA nF nT nP nC nU uT_5 uD uB) → va_S A s.heap H locs → ∀ ls : Array Slot, lv_has ls 5 [(0, .ref uc), (1, .int p0), (2, .int p1), (3, .int p2), (4, .int x4_4)] → W p l e { frames := 4, cells := 0, slots := 0, locals := 96 } s m args below meth c H locs 0 0 Q (F0 m 25 ls []) := by
    intro H locs hP hD hS ls hl
    refine lv_iconst (v := 0) hx hb dX3_leastPrice_25 (by decide) ?_
    refine lv_istore (lv' := [(4, .int 0), (0, .ref uc), (1, .int p0), (2, .int p1), (3, .int p2)]) hx hb dX3_leastPrice_26 hl (by decide) rfl (fun ls hl => ?_)
    obtain ⟨o1, e1, h8⟩ := bd h
    have hT1 : ∀ (x4_14 : Int32) (uT_15 : Nat → Int32) (uD_16 : Nat → Int32) (uB_17 : Nat → Int32), o1 = .inl ((x4_14, uT_15, uD_16, uB_17)) → ∀ (H : Heap) (locs : List Loc), va_P (dC, dI) vwCl (wX3 cyI cyZ uc nw aF aT aP aC aU aUT aUD aUB nN nA nF nT nP nC nU uT_15 uD_16 uB_17) H → va_D A (wX3 cyI cyZ uc nw aF aT aP aC aU aUT aUD aUB nN nA nF nT nP nC nU uT_15 uD_16 uB_17) → va_S A s.heap H locs → ∀ ls : Array Slot, lv_has ls 5 [(0, .ref uc), (1, .int p0), (2, .int p1), (3, .int p2), (4, .int x4_14)] → W p l e { frames := 4, cells := 0, slots := 0, locals := 96 } s m args below meth c H locs 0 0 Q (F0 m 51 ls []) := by
      intro x4_14 uT_15 uD_16 uB_17 ho H locs hP hD hS ls hl
      rw [ho] at h8
      have h := h8
      refine lv_aload_n hx hb dX3_leastPrice_51 rfl (lv_at hl 0 rfl) ?_
      obtain ⟨uT_18, uD_19, uB_20, e9, h⟩ := bd3 h
      refine q_callVv (As := []) (w1 := wX3 cyI cyZ uc nw aF aT aP aC aU aUT aUD aUB nN nA nF nT nP nC nU uT_18 uD_19 uB_20) (ws2 := wX3 cyI cyZ uc nw aF aT aP aC aU aUT aUD aUB nN nA nF nT nP nC nU uT_18 uD_19 uB_20) ⟨hx, hb, hml, hown, hts⟩ (c_X3_takeOutCircles l dC dI cyI cyZ uc nw aF aT aP aC aU aUT aUD aUB H.size nN nA nF nT nP nC nU uT_15 uD_16 uB_17 N _ e9) (cwV 0 hts gX3_leastPrice_X3_takeOutCircles rfl rfl rfl (by decide +kernel) ⟨Nat.le_of_ble_eq_true rfl, Nat.le_of_ble_eq_true rfl⟩) hK hP hD hS hA [0, 1, 2, 3, 4, 5, 6, 7, 8, 9] [] [0, 1, 2, 3, 4, 5, 6, 7, 8, 9] [0, 1] rfl rfl rfl rfl (by decide) rfl rfl rfl 3 0 rfl rfl rfl hl.1 (Nat.le_of_ble_eq_true rfl) (Nat.le_of_ble_eq_true rfl) (Nat.le_of_ble_eq_true rfl) rfl dX3_leastPrice_52 (fun H locs hP hD hS => ?_)
      refine lv_aload_n hx hb dX3_leastPrice_55 rfl (lv_at hl 0 rfl) ?_
      obtain ⟨r21, e9, h⟩ := bd h
      refine q_callVi (ret := r21) (As := []) (w1 := wX3 cyI cyZ uc nw aF aT aP aC aU aUT aUD aUB nN nA nF nT nP nC nU uT_18 uD_19 uB_20) (ws2 := wX3 cyI cyZ uc nw aF aT aP aC aU aUT aUD aUB nN nA nF nT nP nC nU uT_18 uD_19 uB_20) ⟨hx, hb, hml, hown, hts⟩ (c_X3_priceOfTaken l dC dI cyI cyZ uc nw aF aT aP aC aU aUT aUD aUB H.size nN nA nF nT nP nC nU uT_18 uD_19 uB_20 N _ e9) (cwV 0 hts gX3_leastPrice_X3_priceOfTaken rfl rfl rfl (by decide +kernel) ⟨Nat.le_of_ble_eq_true rfl, Nat.le_of_ble_eq_true rfl⟩) hK hP hD hS hA [0, 1, 2, 3, 4, 5, 6, 7, 8, 9] [] [0, 1, 2, 3, 4, 5, 6, 7, 8, 9] [0, 1] rfl rfl rfl rfl (by decide) rfl rfl rfl 3 0 rfl rfl rfl hl.1 (Nat.le_of_ble_eq_true rfl) (Nat.le_of_ble_eq_true rfl) (Nat.le_of_ble_eq_true rfl) rfl dX3_leastPrice_56 (fun H locs hP hD hS => ?_)
      cases h
      exact q_iret hQ hx hb hr hlocks hP hK hD hS dX3_leastPrice_59
    have hL1 : ∀ (n9 : Nat) (x4_6 : Int32) (uT_7 : Nat → Int32) (uD_8 : Nat → Int32) (uB_9 : Nat → Int32), lp (un4 (pX3_leastPrice_l28 N nA nC nF nN nT nU p0 p1 p2)) n9 ((x4_6, uT_7, uD_8, uB_9)) = some o1 → ∀ (H : Heap) (locs : List Loc), va_P (dC, dI) vwCl (wX3 cyI cyZ uc nw aF aT aP aC aU aUT aUD aUB nN nA nF nT nP nC nU uT_7 uD_8 uB_9) H → va_D A (wX3 cyI cyZ uc nw aF aT aP aC aU aUT aUD aUB nN nA nF nT nP nC nU uT_7 uD_8 uB_9) → va_S A s.heap H locs → ∀ ls : Array Slot, lv_has ls 5 [(0, .ref uc), (1, .int p0), (2, .int p1), (3, .int p2), (4, .int x4_6)] → W p l e { frames := 4, cells := 0, slots := 0, locals := 96 } s m args below meth c H locs 0 0 Q (F0 m 28 ls []) := by
      intro n9
      induction n9 with
      | zero =>
        intro x4_6 uT_7 uD_8 uB_9 h
        exact lp0 h
      | succ n9 ih1 =>
        intro x4_6 uT_7 uD_8 uB_9 h H locs hP hD hS ls hl
        obtain ⟨o9, g, h⟩ := lps h
        replace g : pX3_leastPrice_l28 N nA nC nF nN nT nU p0 p1 p2 x4_6 uT_7 uD_8 uB_9 = some o9 := g
        unfold pX3_leastPrice_l28 at g
        refine lv_iload hx hb dX3_leastPrice_28 (lv_at hl 4 rfl) ?_
        refine lv_iload_n hx hb dX3_leastPrice_30 rfl (lv_at hl 3 rfl) ?_
        refine lv_icmp_ge (tgt := 51) hx hb dX3_leastPrice_31 (by decide) (fun c9 => ?_) (fun c9 => ?_)
        · have g := ipos c9 g
          cases g
          have h := lpx h
          subst h
          exact hT1 _ _ _ _ rfl _ _ hP hD hS _ (lv_sub hl [0, 1, 2, 3, 4] rfl)
        · have g := ineg c9 g
          refine lv_aload_n hx hb dX3_leastPrice_34 rfl (lv_at hl 0 rfl) ?_
          refine lv_iload_n hx hb dX3_leastPrice_35 rfl (lv_at hl 1 rfl) ?_
          refine lv_iload_n hx hb dX3_leastPrice_36 rfl (lv_at hl 2 rfl) ?_
          obtain ⟨b10, uT_11, uD_12, uB_13, e9, g⟩ := bd4 g
          refine q_callVi (ret := b2i b10) (As := [.int p0, .int p1]) (w1 := wX3 cyI cyZ uc nw aF aT aP aC aU aUT aUD aUB nN nA nF nT nP nC nU uT_11 uD_12 uB_13) (ws2 := wX3 cyI cyZ uc nw aF aT aP aC aU aUT aUD aUB nN nA nF nT nP nC nU uT_11 uD_12 uB_13) ⟨hx, hb, hml, hown, hts⟩ (c_X3_takeWay l dC dI cyI cyZ uc nw aF aT aP aC aU aUT aUD aUB H.size nN nA nF nT nP nC nU uT_7 uD_8 uB_9 p0 p1 N _ e9) (cwV 2 hts gX3_leastPrice_X3_takeWay rfl rfl rfl (by decide +kernel) ⟨Nat.le_of_ble_eq_true rfl, Nat.le_of_ble_eq_true rfl⟩) hK hP hD hS hA [0, 1, 2, 3, 4, 5, 6, 7, 8, 9] [] [0, 1, 2, 3, 4, 5, 6, 7, 8, 9] [0, 1] rfl rfl rfl rfl (by decide) rfl rfl rfl 3 0 rfl rfl rfl hl.1 (Nat.le_of_ble_eq_true rfl) (Nat.le_of_ble_eq_true rfl) (Nat.le_of_ble_eq_true rfl) rfl dX3_leastPrice_37 (fun H locs hP hD hS => ?_)
          refine lv_if_ne (tgt := 45) hx hb dX3_leastPrice_40 (by decide) (fun c9 => ?_) (fun c9 => ?_)
          · have g := ineg c9 g
            refine lv_iinc (v := x4_6 + 1) (lv' := [(4, .int (x4_6 + 1)), (0, .ref uc), (1, .int p0), (2, .int p1), (3, .int p2)]) hx hb dX3_leastPrice_45 hl (k := 4) rfl (by rfl) (by decide) rfl (fun ls hl => ?_)
            refine lv_goto (tgt := 28) hx hb dX3_leastPrice_48 (by decide) ?_
            cases g
            exact ih1 _ _ _ _ h _ _ hP hD hS _ (lv_sub hl [1, 2, 3, 4, 0] rfl)
          · have g := ipos c9 g
            refine lv_iconst (v := -1) hx hb dX3_leastPrice_43 (by decide) ?_
            cases g
            have h := lpx h
            subst h
            have h := selr h8
            cases h
            exact q_iret hQ hx hb hr hlocks hP hK hD hS dX3_leastPrice_44
    exact hL1 N _ _ _ _  e1 _ _ hP hD hS _ (lv_sub hl [1, 2, 3, 4, 0] rfl)
  have hL0 : ∀ (n9 : Nat) (x4_1 : Int32) (uT_2 : Nat → Int32), lp (un2 (pX3_leastPrice_l3)) n9 ((x4_1, uT_2)) = some ((x4_4, uT_5)) → ∀ (H : Heap) (locs : List Loc), va_P (dC, dI) vwCl (wX3 cyI cyZ uc nw aF aT aP aC aU aUT aUD aUB nN nA nF nT nP nC nU uT_2 uD uB) H → va_D A (wX3 cyI cyZ uc nw aF aT aP aC aU aUT aUD aUB nN nA nF nT nP nC nU uT_2 uD uB) → va_S A s.heap H locs → ∀ ls : Array Slot, lv_has ls 5 [(0, .ref uc), (1, .int p0), (2, .int p1), (3, .int p2), (4, .int x4_1)] → W p l e { frames := 4, cells := 0, slots := 0, locals := 96 } s m args below meth c H locs 0 0 Q (F0 m 3 ls []) := by
    intro n9
    induction n9 with
    | zero =>
      intro x4_1 uT_2 h
      exact lp0 h
    | succ n9 ih0 =>
      intro x4_1 uT_2 h H locs hP hD hS ls hl
      obtain ⟨o9, g, h⟩ := lps h
      replace g : pX3_leastPrice_l3 x4_1 uT_2 = some o9 := g
      unfold pX3_leastPrice_l3 at g
      refine lv_iload hx hb dX3_leastPrice_3 (lv_at hl 4 rfl) ?_
      refine lv_sipush (v := 180) hx hb dX3_leastPrice_5 (by decide) ?_
      refine lv_icmp_ge (tgt := 25) hx hb dX3_leastPrice_8 (by decide) (fun c9 => ?_) (fun c9 => ?_)
      · have g := ipos c9 g
        cases g
        have h := lpx h
        cases h
        exact hT0 _ _ hP hD hS _ (lv_sub hl [0, 1, 2, 3, 4] rfl)
      · have g := ineg c9 g
        refine lv_aload_n hx hb dX3_leastPrice_11 rfl (lv_at hl 0 rfl) ?_
        refine va_get (D := (dC, dI)) (ci := 3) (v := .ref aUT) (C := RX3) (T := TX3) (N := 4) hx hb hts k1 hown hK hP 0 rfl rfl 1 (by decide) k0 (fun _ h9 => h9) rfl dX3_leastPrice_12 ?_
        refine lv_iload hx hb dX3_leastPrice_15 (lv_at hl 4 rfl) ?_
        refine lv_iconst (v := 0) hx hb dX3_leastPrice_17 (by decide) ?_
        obtain ⟨uT_3, e9, g⟩ := bd g
        refine q_zast (ws2 := wX3 cyI cyZ uc nw aF aT aP aC aU aUT aUD aUB nN nA nF nT nP nC nU uT_3 uD uB) hx hb hK hP hD hS 7 1 rfl rfl (by decide) e9 dX3_leastPrice_18 rfl (fun H locs hP hD hS => ?_)
        refine lv_iinc (v := x4_1 + 1) (lv' := [(4, .int (x4_1 + 1)), (0, .ref uc), (1, .int p0), (2, .int p1), (3, .int p2)]) hx hb dX3_leastPrice_19 hl (k := 4) rfl (by rfl) (by decide) rfl (fun ls hl => ?_)
        refine lv_goto (tgt := 3) hx hb dX3_leastPrice_22 (by decide) ?_
        cases g
        exact ih0 _ _ h _ _ hP hD hS _ (lv_sub hl [1, 2, 3, 4, 0] rfl)
  exact hL0 N _ _  e0 _ _ hP hD hS _ (lv_sub hl [1, 2, 3, 4, 0] rfl)
