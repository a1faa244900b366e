set_option maxHeartbeats 4000000 in
set_option maxRecDepth 100000 in
theorem c_X1_nextPrice (l : Launch) (dC : Nat → ClassId) (dI : Nat → Nat → Nat) (cyI : ClassId) (dr nw aF aT aP aC aU aDT aDW : Nat) (sz : Nat) (dFo dPa dLa nN nA : Int32) (nF nT nP nC nU dT dW : Nat → Int32) (p0 : Int32) (res : Int32) (h : pX1_nextPrice nC nU dT p0 = some res) : Met l yX1_nextPrice wsX1_nextPrice { frames := 1, cells := 0, slots := 0, locals := 22 } (va_Pc [.ref dr, .int p0] (zPre (dC, dI) (wX1 cyI dr nw aF aT aP aC aU aDT aDW dFo dPa dLa nN nA nF nT nP nC nU dT dW) [(cyI, .int)] sz)) (zQi (dC, dI) (wX1 cyI dr nw aF aT aP aC aU aDT aDW dFo dPa dLa nN nA nF nT nP nC nU dT dW) [(cyI, .int)] (res) (va_A (wX1 cyI dr nw aF aT aP aC aU aDT aDW dFo dPa dLa nN nA nF nT nP nC nU dT dW) sz)) 0 0 (va_A (wX1 cyI dr nw aF aT aP aC aU aDT aDW dFo dPa dLa nN nA nF nT nP nC nU dT dW) sz) := by
  refine q_ofWi (cc := cX1_nextPrice) (maxL := 2) (rt := (some .int)) (by decide) rfl (Nat.le_of_ble_eq_true rfl) ?_
  intro p e s m args below meth c ls A Q H locs hQ hx hb hr hts hown hlocks hml hA hK hP hD hS hl
  have hl : lv_has ls 2 [(0, .ref dr), (1, .int p0)] := hl
  have k0 := hts (.fieldLink RX1 28 "ConvexConduit$Drivers" "network" "LConvexConduit$Network;") (by decide +kernel)
  have k1 : ∀ w ∈ u_ws RX1 TX1 6, w ∈ wsX1_nextPrice := by decide +kernel
  have k2 := hts (.fieldLink RX1 9 "ConvexConduit$Drivers" "taken" "[I") (by decide +kernel)
  unfold pX1_nextPrice at h
  refine lv_aload_n hx hb dX1_nextPrice_0 rfl (lv_at hl 0 rfl) ?_
  refine va_get (D := (dC, dI)) (ci := 1) (v := .ref nw) (C := RX1) (T := TX1) (N := 6) hx hb hts k1 hown hK hP 0 rfl rfl 0 (by decide) k0 (fun _ h9 => h9) rfl dX1_nextPrice_1 ?_
  refine lv_iload_n hx hb dX1_nextPrice_4 rfl (lv_at hl 1 rfl) ?_
  refine lv_aload_n hx hb dX1_nextPrice_5 rfl (lv_at hl 0 rfl) ?_
  refine va_get (D := (dC, dI)) (ci := 1) (v := .ref aDT) (C := RX1) (T := TX1) (N := 6) hx hb hts k1 hown hK hP 0 rfl rfl 1 (by decide) k2 (fun _ h9 => h9) rfl dX1_nextPrice_6 ?_
  refine lv_iload_n hx hb dX1_nextPrice_9 rfl (lv_at hl 1 rfl) ?_
  obtain ⟨t1, e9, h⟩ := bd h
  refine q_iald hx hb hK hP 7 0 rfl rfl e9 dX1_nextPrice_10 ?_
  refine lv_iconst (v := 1) hx hb dX1_nextPrice_11 (by decide) ?_
  refine lv_iadd hx hb dX1_nextPrice_12 ?_
  obtain ⟨r2, e9, h⟩ := bd h
  refine q_callVi (ret := r2) (As := [.int p0, .int (t1 + 1)]) (w1 := wX2 cyI nw aF aT aP aC aU nN nA nF nT nP nC nU) (ws2 := wX1 cyI dr nw aF aT aP aC aU aDT aDW dFo dPa dLa nN nA nF nT nP nC nU dT dW) ⟨hx, hb, hml, hown, hts⟩ (c_X2_unitPrice l dC dI cyI nw aF aT aP aC aU H.size nN nA nF nT nP nC nU p0 (t1 + 1) _ e9) (cwV 2 hts gX1_nextPrice_X2_unitPrice rfl rfl rfl (by decide +kernel) ⟨Nat.le_of_ble_eq_true rfl, Nat.le_of_ble_eq_true rfl⟩) hK hP hD hS hA [1, 2, 3, 4, 5, 6] [0, 7, 8] [0, 3, 4, 5, 6, 7, 8, 1, 2] [0] rfl rfl rfl rfl (by decide) rfl rfl rfl 2 0 rfl rfl rfl hl.1 (Nat.le_of_ble_eq_true rfl) (Nat.le_of_ble_eq_true rfl) (Nat.le_of_ble_eq_true rfl) rfl dX1_nextPrice_13 (fun H locs hP hD hS => ?_)
  cases h
  exact q_iret hQ hx hb hr hlocks hP hK hD hS dX1_nextPrice_16
set_option maxHeartbeats 4000000 in
set_option maxRecDepth 100000 in
theorem c_X1_weightBy (l : Launch) (dC : Nat → ClassId) (dI : Nat → Nat → Nat) (cyI : ClassId) (dr nw aF aT aP aC aU aDT aDW : Nat) (sz : Nat) (dFo dPa dLa nN nA : Int32) (nF nT nP nC nU dT dW : Nat → Int32) (p0 : Int32) (res : Int32) (h : pX1_weightBy nT nC nU dT dW p0 = some res) : Met l yX1_weightBy wsX1_weightBy { frames := 2, cells := 0, slots := 0, locals := 43 } (va_Pc [.ref dr, .int p0] (zPre (dC, dI) (wX1 cyI dr nw aF aT aP aC aU aDT aDW dFo dPa dLa nN nA nF nT nP nC nU dT dW) [(cyI, .int)] sz)) (zQi (dC, dI) (wX1 cyI dr nw aF aT aP aC aU aDT aDW dFo dPa dLa nN nA nF nT nP nC nU dT dW) [(cyI, .int)] (res) (va_A (wX1 cyI dr nw aF aT aP aC aU aDT aDW dFo dPa dLa nN nA nF nT nP nC nU dT dW) sz)) 0 0 (va_A (wX1 cyI dr nw aF aT aP aC aU aDT aDW dFo dPa dLa nN nA nF nT nP nC nU dT dW) sz) := by
  refine q_ofWi (cc := cX1_weightBy) (maxL := 2) (rt := (some .int)) (by decide) rfl (Nat.le_of_ble_eq_true rfl) ?_
  intro p e s m args below meth c ls A Q H locs hQ hx hb hr hts hown hlocks hml hA hK hP hD hS hl
  have hl : lv_has ls 2 [(0, .ref dr), (1, .int p0)] := hl
  have k0 := hts (.fieldLink RX1 9 "ConvexConduit$Drivers" "taken" "[I") (by decide +kernel)
  have k1 : ∀ w ∈ u_ws RX1 TX1 6, w ∈ wsX1_weightBy := by decide +kernel
  have k2 := hts (.fieldLink RX1 28 "ConvexConduit$Drivers" "network" "LConvexConduit$Network;") (by decide +kernel)
  have k3 := hts (.fieldLink RX1 56 "ConvexConduit$Network" "capacity" "[I") (by decide +kernel)
  have k4 : ∀ w ∈ u_ws RX2 TX2 7, w ∈ wsX1_weightBy := by decide +kernel
  have k5 := hts (.constant RX1 41 (1000000)) (by decide +kernel)
  have k6 := hts (.fieldLink RX1 15 "ConvexConduit$Drivers" "weightToTarget" "[I") (by decide +kernel)
  have k7 := hts (.fieldLink RX1 59 "ConvexConduit$Network" "to" "[I") (by decide +kernel)
  unfold pX1_weightBy at h
  refine lv_aload_n hx hb dX1_weightBy_0 rfl (lv_at hl 0 rfl) ?_
  refine va_get (D := (dC, dI)) (ci := 1) (v := .ref aDT) (C := RX1) (T := TX1) (N := 6) hx hb hts k1 hown hK hP 0 rfl rfl 1 (by decide) k0 (fun _ h9 => h9) rfl dX1_weightBy_1 ?_
  refine lv_iload_n hx hb dX1_weightBy_4 rfl (lv_at hl 1 rfl) ?_
  obtain ⟨t1, e9, h⟩ := bd h
  refine q_iald hx hb hK hP 7 0 rfl rfl e9 dX1_weightBy_5 ?_
  refine lv_aload_n hx hb dX1_weightBy_6 rfl (lv_at hl 0 rfl) ?_
  refine va_get (D := (dC, dI)) (ci := 1) (v := .ref nw) (C := RX1) (T := TX1) (N := 6) hx hb hts k1 hown hK hP 0 rfl rfl 0 (by decide) k2 (fun _ h9 => h9) rfl dX1_weightBy_7 ?_
  refine va_get (D := (dC, dI)) (ci := 2) (v := .ref aC) (C := RX2) (T := TX2) (N := 7) hx hb hts k4 hown hK hP 1 rfl rfl 5 (by decide) k3 (fun _ h9 => h9) rfl dX1_weightBy_10 ?_
  refine lv_iload_n hx hb dX1_weightBy_13 rfl (lv_at hl 1 rfl) ?_
  obtain ⟨t2, e9, h⟩ := bd h
  refine q_iald hx hb hK hP 5 0 rfl rfl e9 dX1_weightBy_14 ?_
  refine lv_icmp_ge (tgt := 37) hx hb dX1_weightBy_15 (by decide) (fun c9 => ?_) (fun c9 => ?_)
  · have h := ipos c9 h
    refine lv_ldc (own := RX1) (v := 1000000) hx hb hown k5 dX1_weightBy_37 ?_
    cases h
    exact q_iret hQ hx hb hr hlocks hP hK hD hS dX1_weightBy_39
  · have h := ineg c9 h
    refine lv_aload_n hx hb dX1_weightBy_18 rfl (lv_at hl 0 rfl) ?_
    refine va_get (D := (dC, dI)) (ci := 1) (v := .ref aDW) (C := RX1) (T := TX1) (N := 6) hx hb hts k1 hown hK hP 0 rfl rfl 2 (by decide) k6 (fun _ h9 => h9) rfl dX1_weightBy_19 ?_
    refine lv_aload_n hx hb dX1_weightBy_22 rfl (lv_at hl 0 rfl) ?_
    refine va_get (D := (dC, dI)) (ci := 1) (v := .ref nw) (C := RX1) (T := TX1) (N := 6) hx hb hts k1 hown hK hP 0 rfl rfl 0 (by decide) k2 (fun _ h9 => h9) rfl dX1_weightBy_23 ?_
    refine va_get (D := (dC, dI)) (ci := 2) (v := .ref aT) (C := RX2) (T := TX2) (N := 7) hx hb hts k4 hown hK hP 1 rfl rfl 3 (by decide) k7 (fun _ h9 => h9) rfl dX1_weightBy_26 ?_
    refine lv_iload_n hx hb dX1_weightBy_29 rfl (lv_at hl 1 rfl) ?_
    obtain ⟨t3, e9, h⟩ := bd h
    refine q_iald hx hb hK hP 3 0 rfl rfl e9 dX1_weightBy_30 ?_
    obtain ⟨t4, e9, h⟩ := bd h
    refine q_iald hx hb hK hP 8 0 rfl rfl e9 dX1_weightBy_31 ?_
    refine lv_ldc (own := RX1) (v := 1000000) hx hb hown k5 dX1_weightBy_32 ?_
    refine lv_icmp_lt (tgt := 40) hx hb dX1_weightBy_34 (by decide) (fun c9 => ?_) (fun c9 => ?_)
    · have h := ipos c9 h
      refine lv_aload_n hx hb dX1_weightBy_40 rfl (lv_at hl 0 rfl) ?_
      refine lv_iload_n hx hb dX1_weightBy_41 rfl (lv_at hl 1 rfl) ?_
      obtain ⟨r5, e9, h⟩ := bd h
      refine q_callVi (ret := r5) (As := [.int p0]) (w1 := wX1 cyI dr nw aF aT aP aC aU aDT aDW dFo dPa dLa nN nA nF nT nP nC nU dT dW) (ws2 := wX1 cyI dr nw aF aT aP aC aU aDT aDW dFo dPa dLa nN nA nF nT nP nC nU dT dW) ⟨hx, hb, hml, hown, hts⟩ (c_X1_nextPrice l dC dI cyI dr nw aF aT aP aC aU aDT aDW H.size dFo dPa dLa nN nA nF nT nP nC nU dT dW p0 _ e9) (cwV 1 hts gX1_weightBy_X1_nextPrice rfl rfl rfl (by decide +kernel) ⟨Nat.le_of_ble_eq_true rfl, Nat.le_of_ble_eq_true rfl⟩) hK hP hD hS hA [0, 1, 2, 3, 4, 5, 6, 7, 8] [] [0, 1, 2, 3, 4, 5, 6, 7, 8] [0] rfl rfl rfl rfl (by decide) rfl rfl rfl 1 0 rfl rfl rfl hl.1 (Nat.le_of_ble_eq_true rfl) (Nat.le_of_ble_eq_true rfl) (Nat.le_of_ble_eq_true rfl) rfl dX1_weightBy_42 (fun H locs hP hD hS => ?_)
      refine lv_bipush (v := 16) hx hb dX1_weightBy_45 (by decide) ?_
      refine lv_imul hx hb dX1_weightBy_47 ?_
      refine lv_iconst (v := 1) hx hb dX1_weightBy_48 (by decide) ?_
      refine lv_iadd hx hb dX1_weightBy_49 ?_
      refine lv_aload_n hx hb dX1_weightBy_50 rfl (lv_at hl 0 rfl) ?_
      refine va_get (D := (dC, dI)) (ci := 1) (v := .ref aDW) (C := RX1) (T := TX1) (N := 6) hx hb hts k1 hown hK hP 0 rfl rfl 2 (by decide) k6 (fun _ h9 => h9) rfl dX1_weightBy_51 ?_
      refine lv_aload_n hx hb dX1_weightBy_54 rfl (lv_at hl 0 rfl) ?_
      refine va_get (D := (dC, dI)) (ci := 1) (v := .ref nw) (C := RX1) (T := TX1) (N := 6) hx hb hts k1 hown hK hP 0 rfl rfl 0 (by decide) k2 (fun _ h9 => h9) rfl dX1_weightBy_55 ?_
      refine va_get (D := (dC, dI)) (ci := 2) (v := .ref aT) (C := RX2) (T := TX2) (N := 7) hx hb hts k4 hown hK hP 1 rfl rfl 3 (by decide) k7 (fun _ h9 => h9) rfl dX1_weightBy_58 ?_
      refine lv_iload_n hx hb dX1_weightBy_61 rfl (lv_at hl 1 rfl) ?_
      obtain ⟨t6, e9, h⟩ := bd h
      refine q_iald hx hb hK hP 3 0 rfl rfl e9 dX1_weightBy_62 ?_
      obtain ⟨t7, e9, h⟩ := bd h
      refine q_iald hx hb hK hP 8 0 rfl rfl e9 dX1_weightBy_63 ?_
      refine lv_iadd hx hb dX1_weightBy_64 ?_
      cases h
      exact q_iret hQ hx hb hr hlocks hP hK hD hS dX1_weightBy_65
    · have h := ineg c9 h
      refine lv_ldc (own := RX1) (v := 1000000) hx hb hown k5 dX1_weightBy_37 ?_
      cases h
      exact q_iret hQ hx hb hr hlocks hP hK hD hS dX1_weightBy_39
set_option maxHeartbeats 4000000 in
set_option maxRecDepth 100000 in
theorem c_X1_bestArcFrom (l : Launch) (dC : Nat → ClassId) (dI : Nat → Nat → Nat) (cyI : ClassId) (dr nw aF aT aP aC aU aDT aDW : Nat) (sz : Nat) (dFo dPa dLa nN nA : Int32) (nF nT nP nC nU dT dW : Nat → Int32) (p0 : Int32) (N : Nat) (res : Int32) (h : pX1_bestArcFrom N nA nF nT nC nU dT dW p0 = some res) : Met l yX1_bestArcFrom wsX1_bestArcFrom { frames := 3, cells := 0, slots := 0, locals := 64 } (va_Pc [.ref dr, .int p0] (zPre (dC, dI) (wX1 cyI dr nw aF aT aP aC aU aDT aDW dFo dPa dLa nN nA nF nT nP nC nU dT dW) [(cyI, .int)] sz)) (zQi (dC, dI) (wX1 cyI dr nw aF aT aP aC aU aDT aDW dFo dPa dLa nN nA nF nT nP nC nU dT dW) [(cyI, .int)] (res) (va_A (wX1 cyI dr nw aF aT aP aC aU aDT aDW dFo dPa dLa nN nA nF nT nP nC nU dT dW) sz)) 0 0 (va_A (wX1 cyI dr nw aF aT aP aC aU aDT aDW dFo dPa dLa nN nA nF nT nP nC nU dT dW) sz) := by
  refine q_ofWi (cc := cX1_bestArcFrom) (maxL := 3) (rt := (some .int)) (by decide) rfl (Nat.le_of_ble_eq_true rfl) ?_
  intro p e s m args below meth c ls A Q H locs hQ hx hb hr hts hown hlocks hml hA hK hP hD hS hl
  have hl : lv_has ls 3 [(0, .ref dr), (1, .int p0)] := hl
  have k0 := hts (.fieldLink RX1 28 "ConvexConduit$Drivers" "network" "LConvexConduit$Network;") (by decide +kernel)
  have k1 : ∀ w ∈ u_ws RX1 TX1 6, w ∈ wsX1_bestArcFrom := by decide +kernel
  have k2 := hts (.fieldLink RX1 32 "ConvexConduit$Network" "arcs" "I") (by decide +kernel)
  have k3 : ∀ w ∈ u_ws RX2 TX2 7, w ∈ wsX1_bestArcFrom := by decide +kernel
  have k4 := hts (.fieldLink RX1 53 "ConvexConduit$Network" "from" "[I") (by decide +kernel)
  have k5 := hts (.fieldLink RX1 15 "ConvexConduit$Drivers" "weightToTarget" "[I") (by decide +kernel)
  unfold pX1_bestArcFrom at h
  refine lv_iconst (v := 0) hx hb dX1_bestArcFrom_0 (by decide) ?_
  refine lv_istore_n (lv' := [(2, .int 0), (0, .ref dr), (1, .int p0)]) hx hb dX1_bestArcFrom_1 rfl hl (by decide) rfl (fun ls hl => ?_)
  obtain ⟨o0, e0, h8⟩ := bd h
  have hT0 : ∀ (x2_5 : Int32), o0 = .inl x2_5 → ∀ (H : Heap) (locs : List Loc), va_P (dC, dI) vwCl (wX1 cyI dr nw aF aT aP aC aU aDT aDW dFo dPa dLa nN nA nF nT nP nC nU dT dW) H → va_D A (wX1 cyI dr nw aF aT aP aC aU aDT aDW dFo dPa dLa nN nA nF nT nP nC nU dT dW) → va_S A s.heap H locs → ∀ ls : Array Slot, lv_has ls 3 [(0, .ref dr), (1, .int p0), (2, .int x2_5)] → W p l e { frames := 3, cells := 0, slots := 0, locals := 64 } s m args below meth c H locs 0 0 Q (F0 m 48 ls []) := by
    intro x2_5 ho H locs hP hD hS ls hl
    rw [ho] at h8
    have h := h8
    refine lv_iconst (v := -1) hx hb dX1_bestArcFrom_48 (by decide) ?_
    cases h
    exact q_iret hQ hx hb hr hlocks hP hK hD hS dX1_bestArcFrom_49
  have hL0 : ∀ (n9 : Nat) (x2_1 : Int32), lp (pX1_bestArcFrom_l2 dT dW nA nC nF nT nU p0) n9 x2_1 = some o0 → ∀ (H : Heap) (locs : List Loc), va_P (dC, dI) vwCl (wX1 cyI dr nw aF aT aP aC aU aDT aDW dFo dPa dLa nN nA nF nT nP nC nU dT dW) H → va_D A (wX1 cyI dr nw aF aT aP aC aU aDT aDW dFo dPa dLa nN nA nF nT nP nC nU dT dW) → va_S A s.heap H locs → ∀ ls : Array Slot, lv_has ls 3 [(0, .ref dr), (1, .int p0), (2, .int x2_1)] → W p l e { frames := 3, cells := 0, slots := 0, locals := 64 } s m args below meth c H locs 0 0 Q (F0 m 2 ls []) := by
    intro n9
    induction n9 with
    | zero =>
      intro x2_1 h
      exact lp0 h
    | succ n9 ih0 =>
      intro x2_1 h H locs hP hD hS ls hl
      obtain ⟨o9, g, h⟩ := lps h
      replace g : pX1_bestArcFrom_l2 dT dW nA nC nF nT nU p0 x2_1 = some o9 := g
      unfold pX1_bestArcFrom_l2 at g
      refine lv_iload_n hx hb dX1_bestArcFrom_2 rfl (lv_at hl 2 rfl) ?_
      refine lv_aload_n hx hb dX1_bestArcFrom_3 rfl (lv_at hl 0 rfl) ?_
      refine va_get (D := (dC, dI)) (ci := 1) (v := .ref nw) (C := RX1) (T := TX1) (N := 6) hx hb hts k1 hown hK hP 0 rfl rfl 0 (by decide) k0 (fun _ h9 => h9) rfl dX1_bestArcFrom_4 ?_
      refine va_get (D := (dC, dI)) (ci := 2) (v := .int nA) (C := RX2) (T := TX2) (N := 7) hx hb hts k3 hown hK hP 1 rfl rfl 1 (by decide) k2 (fun _ h9 => h9) rfl dX1_bestArcFrom_7 ?_
      refine lv_icmp_ge (tgt := 48) hx hb dX1_bestArcFrom_10 (by decide) (fun c9 => ?_) (fun c9 => ?_)
      · have g := ipos c9 g
        cases g
        have h := lpx h
        subst h
        exact hT0 _ rfl _ _ hP hD hS _ (lv_sub hl [0, 1, 2] rfl)
      · have g := ineg c9 g
        refine lv_aload_n hx hb dX1_bestArcFrom_13 rfl (lv_at hl 0 rfl) ?_
        refine va_get (D := (dC, dI)) (ci := 1) (v := .ref nw) (C := RX1) (T := TX1) (N := 6) hx hb hts k1 hown hK hP 0 rfl rfl 0 (by decide) k0 (fun _ h9 => h9) rfl dX1_bestArcFrom_14 ?_
        refine va_get (D := (dC, dI)) (ci := 2) (v := .ref aF) (C := RX2) (T := TX2) (N := 7) hx hb hts k3 hown hK hP 1 rfl rfl 2 (by decide) k4 (fun _ h9 => h9) rfl dX1_bestArcFrom_17 ?_
        refine lv_iload_n hx hb dX1_bestArcFrom_20 rfl (lv_at hl 2 rfl) ?_
        obtain ⟨t2, e9, g⟩ := bd g
        refine q_iald hx hb hK hP 2 0 rfl rfl e9 dX1_bestArcFrom_21 ?_
        refine lv_iload_n hx hb dX1_bestArcFrom_22 rfl (lv_at hl 1 rfl) ?_
        refine lv_icmp_ne (tgt := 42) hx hb dX1_bestArcFrom_23 (by decide) (fun c9 => ?_) (fun c9 => ?_)
        · have g := ineg c9 g
          refine lv_iinc (v := x2_1 + 1) (lv' := [(2, .int (x2_1 + 1)), (0, .ref dr), (1, .int p0)]) hx hb dX1_bestArcFrom_42 hl (k := 2) rfl (by rfl) (by decide) rfl (fun ls hl => ?_)
          refine lv_goto (tgt := 2) hx hb dX1_bestArcFrom_45 (by decide) ?_
          cases g
          exact ih0 _ h _ _ hP hD hS _ (lv_sub hl [1, 2, 0] rfl)
        · have g := ipos c9 g
          refine lv_aload_n hx hb dX1_bestArcFrom_26 rfl (lv_at hl 0 rfl) ?_
          refine lv_iload_n hx hb dX1_bestArcFrom_27 rfl (lv_at hl 2 rfl) ?_
          obtain ⟨r3, e9, g⟩ := bd g
          refine q_callVi (ret := r3) (As := [.int x2_1]) (w1 := wX1 cyI dr nw aF aT aP aC aU aDT aDW dFo dPa dLa nN nA nF nT nP nC nU dT dW) (ws2 := wX1 cyI dr nw aF aT aP aC aU aDT aDW dFo dPa dLa nN nA nF nT nP nC nU dT dW) ⟨hx, hb, hml, hown, hts⟩ (c_X1_weightBy l dC dI cyI dr nw aF aT aP aC aU aDT aDW H.size dFo dPa dLa nN nA nF nT nP nC nU dT dW x2_1 _ e9) (cwV 1 hts gX1_bestArcFrom_X1_weightBy rfl rfl rfl (by decide +kernel) ⟨Nat.le_of_ble_eq_true rfl, Nat.le_of_ble_eq_true rfl⟩) hK hP hD hS hA [0, 1, 2, 3, 4, 5, 6, 7, 8] [] [0, 1, 2, 3, 4, 5, 6, 7, 8] [0] rfl rfl rfl rfl (by decide) rfl rfl rfl 1 0 rfl rfl rfl hl.1 (Nat.le_of_ble_eq_true rfl) (Nat.le_of_ble_eq_true rfl) (Nat.le_of_ble_eq_true rfl) rfl dX1_bestArcFrom_28 (fun H locs hP hD hS => ?_)
          refine lv_aload_n hx hb dX1_bestArcFrom_31 rfl (lv_at hl 0 rfl) ?_
          refine va_get (D := (dC, dI)) (ci := 1) (v := .ref aDW) (C := RX1) (T := TX1) (N := 6) hx hb hts k1 hown hK hP 0 rfl rfl 2 (by decide) k5 (fun _ h9 => h9) rfl dX1_bestArcFrom_32 ?_
          refine lv_iload_n hx hb dX1_bestArcFrom_35 rfl (lv_at hl 1 rfl) ?_
          obtain ⟨t4, e9, g⟩ := bd g
          refine q_iald hx hb hK hP 8 0 rfl rfl e9 dX1_bestArcFrom_36 ?_
          refine lv_icmp_ne (tgt := 42) hx hb dX1_bestArcFrom_37 (by decide) (fun c9 => ?_) (fun c9 => ?_)
          · have g := ineg c9 g
            refine lv_iinc (v := x2_1 + 1) (lv' := [(2, .int (x2_1 + 1)), (0, .ref dr), (1, .int p0)]) hx hb dX1_bestArcFrom_42 hl (k := 2) rfl (by rfl) (by decide) rfl (fun ls hl => ?_)
            refine lv_goto (tgt := 2) hx hb dX1_bestArcFrom_45 (by decide) ?_
            cases g
            exact ih0 _ h _ _ hP hD hS _ (lv_sub hl [1, 2, 0] rfl)
          · have g := ipos c9 g
            refine lv_iload_n hx hb dX1_bestArcFrom_40 rfl (lv_at hl 2 rfl) ?_
            cases g
            have h := lpx h
            subst h
            have h := selr h8
            cases h
            exact q_iret hQ hx hb hr hlocks hP hK hD hS dX1_bestArcFrom_41
  exact hL0 N _  e0 _ _ hP hD hS _ (lv_sub hl [1, 2, 0] rfl)
set_option maxHeartbeats 4000000 in
set_option maxRecDepth 100000 in
theorem c_X1_weighWaysTo (l : Launch) (dC : Nat → ClassId) (dI : Nat → Nat → Nat) (cyI : ClassId) (dr nw aF aT aP aC aU aDT aDW : Nat) (sz : Nat) (dFo dPa dLa nN nA : Int32) (nF nT nP nC nU dT dW : Nat → Int32) (p0 : Int32) (N : Nat) (res : (Nat → Int32)) (h : pX1_weighWaysTo N nN nA nF nT nC nU dT dW p0 = some res) : Met l yX1_weighWaysTo wsX1_weighWaysTo { frames := 3, cells := 0, slots := 0, locals := 64 } (va_Pc [.ref dr, .int p0] (zPre (dC, dI) (wX1 cyI dr nw aF aT aP aC aU aDT aDW dFo dPa dLa nN nA nF nT nP nC nU dT dW) [(cyI, .int)] sz)) (zQv (dC, dI) (wX1 cyI dr nw aF aT aP aC aU aDT aDW dFo dPa dLa nN nA nF nT nP nC nU dT res) [(cyI, .int)] (va_A (wX1 cyI dr nw aF aT aP aC aU aDT aDW dFo dPa dLa nN nA nF nT nP nC nU dT dW) sz)) 0 0 (va_A (wX1 cyI dr nw aF aT aP aC aU aDT aDW dFo dPa dLa nN nA nF nT nP nC nU dT dW) sz) := by
  refine q_ofWv (cc := cX1_weighWaysTo) (maxL := 6) (rt := none) (by decide) rfl (Nat.le_of_ble_eq_true rfl) ?_
  intro p e s m args below meth c ls A Q H locs hQ hx hb hr hts hown hlocks hml hA hK hP hD hS hl
  have hl : lv_has ls 6 [(0, .ref dr), (1, .int p0)] := hl
  have k0 := hts (.fieldLink RX1 28 "ConvexConduit$Drivers" "network" "LConvexConduit$Network;") (by decide +kernel)
  have k1 : ∀ w ∈ u_ws RX1 TX1 6, w ∈ wsX1_weighWaysTo := by decide +kernel
  have k2 := hts (.fieldLink RX1 46 "ConvexConduit$Network" "nodes" "I") (by decide +kernel)
  have k3 : ∀ w ∈ u_ws RX2 TX2 7, w ∈ wsX1_weighWaysTo := by decide +kernel
  have k4 := hts (.fieldLink RX1 15 "ConvexConduit$Drivers" "weightToTarget" "[I") (by decide +kernel)
  have k5 := hts (.constant RX1 41 (1000000)) (by decide +kernel)
  have k6 := hts (.fieldLink RX1 32 "ConvexConduit$Network" "arcs" "I") (by decide +kernel)
  have k7 := hts (.fieldLink RX1 53 "ConvexConduit$Network" "from" "[I") (by decide +kernel)
  unfold pX1_weighWaysTo at h
  refine lv_iconst (v := 0) hx hb dX1_weighWaysTo_0 (by decide) ?_
  refine lv_istore_n (lv' := [(2, .int 0), (0, .ref dr), (1, .int p0)]) hx hb dX1_weighWaysTo_1 rfl hl (by decide) rfl (fun ls hl => ?_)
  obtain ⟨x2_5, dW_6, e0, h⟩ := bd2 h
  have hT0 : ∀ (H : Heap) (locs : List Loc), va_P (dC, dI) vwCl (wX1 cyI dr nw aF aT aP aC aU aDT aDW dFo dPa dLa nN nA nF nT nP nC nU dT dW_6) H → va_D A (wX1 cyI dr nw aF aT aP aC aU aDT aDW dFo dPa dLa nN nA nF nT nP nC nU dT dW_6) → va_S A s.heap H locs → ∀ ls : Array Slot, lv_has ls 6 [(0, .ref dr), (1, .int p0), (2, .int x2_5)] → W p l e { frames := 3, cells := 0, slots := 0, locals := 64 } s m args below meth c H locs 0 0 Q (F0 m 36 ls []) := by
    intro H locs hP hD hS ls hl
    refine lv_iconst (v := 1) hx hb dX1_weighWaysTo_36 (by decide) ?_
    refine lv_istore_n (lv' := [(2, .int 1), (0, .ref dr), (1, .int p0)]) hx hb dX1_weighWaysTo_37 rfl hl (by decide) rfl (fun ls hl => ?_)
    refine lv_iconst (v := 0) hx hb dX1_weighWaysTo_38 (by decide) ?_
    refine lv_istore_n (lv' := [(3, .int 0), (2, .int 1), (0, .ref dr), (1, .int p0)]) hx hb dX1_weighWaysTo_39 rfl hl (by decide) rfl (fun ls hl => ?_)
    obtain ⟨x2_21, x3_22, dW_23, e1, h⟩ := bd3 h
    have hT1 : ∀ (H : Heap) (locs : List Loc), va_P (dC, dI) vwCl (wX1 cyI dr nw aF aT aP aC aU aDT aDW dFo dPa dLa nN nA nF nT nP nC nU dT dW_23) H → va_D A (wX1 cyI dr nw aF aT aP aC aU aDT aDW dFo dPa dLa nN nA nF nT nP nC nU dT dW_23) → va_S A s.heap H locs → ∀ ls : Array Slot, lv_has ls 6 [(0, .ref dr), (1, .int p0), (2, .int x2_21), (3, .int x3_22)] → W p l e { frames := 3, cells := 0, slots := 0, locals := 64 } s m args below meth c H locs 0 0 Q (F0 m 131 ls []) := by
      intro H locs hP hD hS ls hl
      cases h
      exact q_vret hQ hx hb hr hlocks hP hK hD hS dX1_weighWaysTo_131
    have hL1 : ∀ (n9 : Nat) (x2_7 : Int32) (x3_8 : Int32) (dW_9 : Nat → Int32), lp (un3 (pX1_weighWaysTo_l40 N dT nA nC nF nN nT nU)) n9 ((x2_7, x3_8, dW_9)) = some ((x2_21, x3_22, dW_23)) → ∀ (H : Heap) (locs : List Loc), va_P (dC, dI) vwCl (wX1 cyI dr nw aF aT aP aC aU aDT aDW dFo dPa dLa nN nA nF nT nP nC nU dT dW_9) H → va_D A (wX1 cyI dr nw aF aT aP aC aU aDT aDW dFo dPa dLa nN nA nF nT nP nC nU dT dW_9) → va_S A s.heap H locs → ∀ ls : Array Slot, lv_has ls 6 [(0, .ref dr), (1, .int p0), (2, .int x2_7), (3, .int x3_8)] → W p l e { frames := 3, cells := 0, slots := 0, locals := 64 } s m args below meth c H locs 0 0 Q (F0 m 40 ls []) := by
      intro n9
      induction n9 with
      | zero =>
        intro x2_7 x3_8 dW_9 h
        exact lp0 h
      | succ n9 ih1 =>
        intro x2_7 x3_8 dW_9 h H locs hP hD hS ls hl
        obtain ⟨o9, g, h⟩ := lps h
        replace g : pX1_weighWaysTo_l40 N dT nA nC nF nN nT nU x2_7 x3_8 dW_9 = some o9 := g
        unfold pX1_weighWaysTo_l40 at g
        refine lv_iload_n hx hb dX1_weighWaysTo_40 rfl (lv_at hl 3 rfl) ?_
        refine lv_aload_n hx hb dX1_weighWaysTo_41 rfl (lv_at hl 0 rfl) ?_
        refine va_get (D := (dC, dI)) (ci := 1) (v := .ref nw) (C := RX1) (T := TX1) (N := 6) hx hb hts k1 hown hK hP 0 rfl rfl 0 (by decide) k0 (fun _ h9 => h9) rfl dX1_weighWaysTo_42 ?_
        refine va_get (D := (dC, dI)) (ci := 2) (v := .int nN) (C := RX2) (T := TX2) (N := 7) hx hb hts k3 hown hK hP 1 rfl rfl 0 (by decide) k2 (fun _ h9 => h9) rfl dX1_weighWaysTo_45 ?_
        refine lv_icmp_ge (tgt := 131) hx hb dX1_weighWaysTo_48 (by decide) (fun c9 => ?_) (fun c9 => ?_)
        · have g := ipos c9 g
          cases g
          have h := lpx h
          cases h
          exact hT1 _ _ hP hD hS _ (lv_sub hl [0, 1, 2, 3] rfl)
        · have g := ineg c9 g
          refine lv_iload_n hx hb dX1_weighWaysTo_51 rfl (lv_at hl 2 rfl) ?_
          refine lv_if_eq (tgt := 131) hx hb dX1_weighWaysTo_52 (by decide) (fun c9 => ?_) (fun c9 => ?_)
          · have g := ipos c9 g
            cases g
            have h := lpx h
            cases h
            exact hT1 _ _ hP hD hS _ (lv_sub hl [0, 1, 2, 3] rfl)
          · have g := ineg c9 g
            refine lv_iconst (v := 0) hx hb dX1_weighWaysTo_55 (by decide) ?_
            refine lv_istore_n (lv' := [(2, .int 0), (0, .ref dr), (1, .int p0), (3, .int x3_8)]) hx hb dX1_weighWaysTo_56 rfl hl (by decide) rfl (fun ls hl => ?_)
            refine lv_iconst (v := 0) hx hb dX1_weighWaysTo_57 (by decide) ?_
            refine lv_istore (lv' := [(4, .int 0), (2, .int 0), (0, .ref dr), (1, .int p0), (3, .int x3_8)]) hx hb dX1_weighWaysTo_58 hl (by decide) rfl (fun ls hl => ?_)
            obtain ⟨x2_18, x4_19, dW_20, e2, g⟩ := bd3 g
            have hT2 : ∀ (H : Heap) (locs : List Loc), va_P (dC, dI) vwCl (wX1 cyI dr nw aF aT aP aC aU aDT aDW dFo dPa dLa nN nA nF nT nP nC nU dT dW_20) H → va_D A (wX1 cyI dr nw aF aT aP aC aU aDT aDW dFo dPa dLa nN nA nF nT nP nC nU dT dW_20) → va_S A s.heap H locs → ∀ ls : Array Slot, lv_has ls 6 [(0, .ref dr), (1, .int p0), (2, .int x2_18), (3, .int x3_8), (4, .int x4_19)] → W p l e { frames := 3, cells := 0, slots := 0, locals := 64 } s m args below meth c H locs 0 0 Q (F0 m 125 ls []) := by
              intro H locs hP hD hS ls hl
              refine lv_iinc (v := x3_8 + 1) (lv' := [(3, .int (x3_8 + 1)), (0, .ref dr), (1, .int p0), (2, .int x2_18), (4, .int x4_19)]) hx hb dX1_weighWaysTo_125 hl (k := 3) rfl (by rfl) (by decide) rfl (fun ls hl => ?_)
              refine lv_goto (tgt := 40) hx hb dX1_weighWaysTo_128 (by decide) ?_
              cases g
              exact ih1 _ _ _ h _ _ hP hD hS _ (lv_sub hl [1, 2, 3, 0] rfl)
            have hL2 : ∀ (n9 : Nat) (x2_10 : Int32) (x4_11 : Int32) (dW_12 : Nat → Int32), lp (un3 (pX1_weighWaysTo_l60 dT nA nC nF nT nU)) n9 ((x2_10, x4_11, dW_12)) = some ((x2_18, x4_19, dW_20)) → ∀ (H : Heap) (locs : List Loc), va_P (dC, dI) vwCl (wX1 cyI dr nw aF aT aP aC aU aDT aDW dFo dPa dLa nN nA nF nT nP nC nU dT dW_12) H → va_D A (wX1 cyI dr nw aF aT aP aC aU aDT aDW dFo dPa dLa nN nA nF nT nP nC nU dT dW_12) → va_S A s.heap H locs → ∀ ls : Array Slot, lv_has ls 6 [(0, .ref dr), (1, .int p0), (2, .int x2_10), (3, .int x3_8), (4, .int x4_11)] → W p l e { frames := 3, cells := 0, slots := 0, locals := 64 } s m args below meth c H locs 0 0 Q (F0 m 60 ls []) := by
              intro n9
              induction n9 with
              | zero =>
                intro x2_10 x4_11 dW_12 h
                exact lp0 h
              | succ n9 ih2 =>
                intro x2_10 x4_11 dW_12 h H locs hP hD hS ls hl
                obtain ⟨o9, g, h⟩ := lps h
                replace g : pX1_weighWaysTo_l60 dT nA nC nF nT nU x2_10 x4_11 dW_12 = some o9 := g
                unfold pX1_weighWaysTo_l60 at g
                refine lv_iload hx hb dX1_weighWaysTo_60 (lv_at hl 4 rfl) ?_
                refine lv_aload_n hx hb dX1_weighWaysTo_62 rfl (lv_at hl 0 rfl) ?_
                refine va_get (D := (dC, dI)) (ci := 1) (v := .ref nw) (C := RX1) (T := TX1) (N := 6) hx hb hts k1 hown hK hP 0 rfl rfl 0 (by decide) k0 (fun _ h9 => h9) rfl dX1_weighWaysTo_63 ?_
                refine va_get (D := (dC, dI)) (ci := 2) (v := .int nA) (C := RX2) (T := TX2) (N := 7) hx hb hts k3 hown hK hP 1 rfl rfl 1 (by decide) k6 (fun _ h9 => h9) rfl dX1_weighWaysTo_66 ?_
                refine lv_icmp_ge (tgt := 125) hx hb dX1_weighWaysTo_69 (by decide) (fun c9 => ?_) (fun c9 => ?_)
                · have g := ipos c9 g
                  cases g
                  have h := lpx h
                  cases h
                  exact hT2 _ _ hP hD hS _ (lv_sub hl [0, 1, 2, 3, 4] rfl)
                · have g := ineg c9 g
                  refine lv_aload_n hx hb dX1_weighWaysTo_72 rfl (lv_at hl 0 rfl) ?_
                  refine lv_iload hx hb dX1_weighWaysTo_73 (lv_at hl 4 rfl) ?_
                  obtain ⟨r13, e9, g⟩ := bd g
                  refine q_callVi (ret := r13) (As := [.int x4_11]) (w1 := wX1 cyI dr nw aF aT aP aC aU aDT aDW dFo dPa dLa nN nA nF nT nP nC nU dT dW_12) (ws2 := wX1 cyI dr nw aF aT aP aC aU aDT aDW dFo dPa dLa nN nA nF nT nP nC nU dT dW_12) ⟨hx, hb, hml, hown, hts⟩ (c_X1_weightBy l dC dI cyI dr nw aF aT aP aC aU aDT aDW H.size dFo dPa dLa nN nA nF nT nP nC nU dT dW_12 x4_11 _ e9) (cwV 1 hts gX1_weighWaysTo_X1_weightBy rfl rfl rfl (by decide +kernel) ⟨Nat.le_of_ble_eq_true rfl, Nat.le_of_ble_eq_true rfl⟩) hK hP hD hS hA [0, 1, 2, 3, 4, 5, 6, 7, 8] [] [0, 1, 2, 3, 4, 5, 6, 7, 8] [0] rfl rfl rfl rfl (by decide) rfl rfl rfl 1 0 rfl rfl rfl hl.1 (Nat.le_of_ble_eq_true rfl) (Nat.le_of_ble_eq_true rfl) (Nat.le_of_ble_eq_true rfl) rfl dX1_weighWaysTo_75 (fun H locs hP hD hS => ?_)
                  refine lv_istore (lv' := [(5, .int r13), (0, .ref dr), (1, .int p0), (2, .int x2_10), (3, .int x3_8), (4, .int x4_11)]) hx hb dX1_weighWaysTo_78 hl (by decide) rfl (fun ls hl => ?_)
                  refine lv_iload hx hb dX1_weighWaysTo_80 (lv_at hl 0 rfl) ?_
                  refine lv_aload_n hx hb dX1_weighWaysTo_82 rfl (lv_at hl 1 rfl) ?_
                  refine va_get (D := (dC, dI)) (ci := 1) (v := .ref aDW) (C := RX1) (T := TX1) (N := 6) hx hb hts k1 hown hK hP 0 rfl rfl 2 (by decide) k4 (fun _ h9 => h9) rfl dX1_weighWaysTo_83 ?_
                  refine lv_aload_n hx hb dX1_weighWaysTo_86 rfl (lv_at hl 1 rfl) ?_
                  refine va_get (D := (dC, dI)) (ci := 1) (v := .ref nw) (C := RX1) (T := TX1) (N := 6) hx hb hts k1 hown hK hP 0 rfl rfl 0 (by decide) k0 (fun _ h9 => h9) rfl dX1_weighWaysTo_87 ?_
                  refine va_get (D := (dC, dI)) (ci := 2) (v := .ref aF) (C := RX2) (T := TX2) (N := 7) hx hb hts k3 hown hK hP 1 rfl rfl 2 (by decide) k7 (fun _ h9 => h9) rfl dX1_weighWaysTo_90 ?_
                  refine lv_iload hx hb dX1_weighWaysTo_93 (lv_at hl 5 rfl) ?_
                  obtain ⟨t14, e9, g⟩ := bd g
                  refine q_iald hx hb hK hP 2 0 rfl rfl e9 dX1_weighWaysTo_95 ?_
                  obtain ⟨t15, e9, g⟩ := bd g
                  refine q_iald hx hb hK hP 8 0 rfl rfl e9 dX1_weighWaysTo_96 ?_
                  refine lv_icmp_ge (tgt := 119) hx hb dX1_weighWaysTo_97 (by decide) (fun c9 => ?_) (fun c9 => ?_)
                  · have g := ipos c9 g
                    refine lv_iinc (v := x4_11 + 1) (lv' := [(4, .int (x4_11 + 1)), (5, .int r13), (0, .ref dr), (1, .int p0), (2, .int x2_10), (3, .int x3_8)]) hx hb dX1_weighWaysTo_119 hl (k := 5) rfl (by rfl) (by decide) rfl (fun ls hl => ?_)
                    refine lv_goto (tgt := 60) hx hb dX1_weighWaysTo_122 (by decide) ?_
                    cases g
                    exact ih2 _ _ _ h _ _ hP hD hS _ (lv_sub hl [2, 3, 4, 5, 0] rfl)
                  · have g := ineg c9 g
                    refine lv_aload_n hx hb dX1_weighWaysTo_100 rfl (lv_at hl 1 rfl) ?_
                    refine va_get (D := (dC, dI)) (ci := 1) (v := .ref aDW) (C := RX1) (T := TX1) (N := 6) hx hb hts k1 hown hK hP 0 rfl rfl 2 (by decide) k4 (fun _ h9 => h9) rfl dX1_weighWaysTo_101 ?_
                    refine lv_aload_n hx hb dX1_weighWaysTo_104 rfl (lv_at hl 1 rfl) ?_
                    refine va_get (D := (dC, dI)) (ci := 1) (v := .ref nw) (C := RX1) (T := TX1) (N := 6) hx hb hts k1 hown hK hP 0 rfl rfl 0 (by decide) k0 (fun _ h9 => h9) rfl dX1_weighWaysTo_105 ?_
                    refine va_get (D := (dC, dI)) (ci := 2) (v := .ref aF) (C := RX2) (T := TX2) (N := 7) hx hb hts k3 hown hK hP 1 rfl rfl 2 (by decide) k7 (fun _ h9 => h9) rfl dX1_weighWaysTo_108 ?_
                    refine lv_iload hx hb dX1_weighWaysTo_111 (lv_at hl 5 rfl) ?_
                    obtain ⟨t16, e9, g⟩ := bd g
                    refine q_iald hx hb hK hP 2 0 rfl rfl e9 dX1_weighWaysTo_113 ?_
                    refine lv_iload hx hb dX1_weighWaysTo_114 (lv_at hl 0 rfl) ?_
                    obtain ⟨dW_17, e9, g⟩ := bd g
                    refine q_iast (ws2 := wX1 cyI dr nw aF aT aP aC aU aDT aDW dFo dPa dLa nN nA nF nT nP nC nU dT dW_17) hx hb hK hP hD hS 8 0 rfl rfl e9 dX1_weighWaysTo_116 rfl (fun H locs hP hD hS => ?_)
                    refine lv_iconst (v := 1) hx hb dX1_weighWaysTo_117 (by decide) ?_
                    refine lv_istore_n (lv' := [(2, .int 1), (5, .int r13), (0, .ref dr), (1, .int p0), (3, .int x3_8), (4, .int x4_11)]) hx hb dX1_weighWaysTo_118 rfl hl (by decide) rfl (fun ls hl => ?_)
                    refine lv_iinc (v := x4_11 + 1) (lv' := [(4, .int (x4_11 + 1)), (2, .int 1), (5, .int r13), (0, .ref dr), (1, .int p0), (3, .int x3_8)]) hx hb dX1_weighWaysTo_119 hl (k := 5) rfl (by rfl) (by decide) rfl (fun ls hl => ?_)
                    refine lv_goto (tgt := 60) hx hb dX1_weighWaysTo_122 (by decide) ?_
                    cases g
                    exact ih2 _ _ _ h _ _ hP hD hS _ (lv_sub hl [3, 4, 1, 5, 0] rfl)
            exact hL2 N _ _ _  e2 _ _ hP hD hS _ (lv_sub hl [2, 3, 1, 4, 0] rfl)
    exact hL1 N _ _ _  e1 _ _ hP hD hS _ (lv_sub hl [2, 3, 1, 0] rfl)
  have hL0 : ∀ (n9 : Nat) (x2_1 : Int32) (dW_2 : Nat → Int32), lp (un2 (pX1_weighWaysTo_l2 nN p0)) n9 ((x2_1, dW_2)) = some ((x2_5, dW_6)) → ∀ (H : Heap) (locs : List Loc), va_P (dC, dI) vwCl (wX1 cyI dr nw aF aT aP aC aU aDT aDW dFo dPa dLa nN nA nF nT nP nC nU dT dW_2) H → va_D A (wX1 cyI dr nw aF aT aP aC aU aDT aDW dFo dPa dLa nN nA nF nT nP nC nU dT dW_2) → va_S A s.heap H locs → ∀ ls : Array Slot, lv_has ls 6 [(0, .ref dr), (1, .int p0), (2, .int x2_1)] → W p l e { frames := 3, cells := 0, slots := 0, locals := 64 } s m args below meth c H locs 0 0 Q (F0 m 2 ls []) := by
    intro n9
    induction n9 with
    | zero =>
      intro x2_1 dW_2 h
      exact lp0 h
    | succ n9 ih0 =>
      intro x2_1 dW_2 h H locs hP hD hS ls hl
      obtain ⟨o9, g, h⟩ := lps h
      replace g : pX1_weighWaysTo_l2 nN p0 x2_1 dW_2 = some o9 := g
      unfold pX1_weighWaysTo_l2 at g
      refine lv_iload_n hx hb dX1_weighWaysTo_2 rfl (lv_at hl 2 rfl) ?_
      refine lv_aload_n hx hb dX1_weighWaysTo_3 rfl (lv_at hl 0 rfl) ?_
      refine va_get (D := (dC, dI)) (ci := 1) (v := .ref nw) (C := RX1) (T := TX1) (N := 6) hx hb hts k1 hown hK hP 0 rfl rfl 0 (by decide) k0 (fun _ h9 => h9) rfl dX1_weighWaysTo_4 ?_
      refine va_get (D := (dC, dI)) (ci := 2) (v := .int nN) (C := RX2) (T := TX2) (N := 7) hx hb hts k3 hown hK hP 1 rfl rfl 0 (by decide) k2 (fun _ h9 => h9) rfl dX1_weighWaysTo_7 ?_
      refine lv_icmp_ge (tgt := 36) hx hb dX1_weighWaysTo_10 (by decide) (fun c9 => ?_) (fun c9 => ?_)
      · have g := ipos c9 g
        cases g
        have h := lpx h
        cases h
        exact hT0 _ _ hP hD hS _ (lv_sub hl [0, 1, 2] rfl)
      · have g := ineg c9 g
        refine lv_aload_n hx hb dX1_weighWaysTo_13 rfl (lv_at hl 0 rfl) ?_
        refine va_get (D := (dC, dI)) (ci := 1) (v := .ref aDW) (C := RX1) (T := TX1) (N := 6) hx hb hts k1 hown hK hP 0 rfl rfl 2 (by decide) k4 (fun _ h9 => h9) rfl dX1_weighWaysTo_14 ?_
        refine lv_iload_n hx hb dX1_weighWaysTo_17 rfl (lv_at hl 2 rfl) ?_
        refine lv_iload_n hx hb dX1_weighWaysTo_18 rfl (lv_at hl 2 rfl) ?_
        refine lv_iload_n hx hb dX1_weighWaysTo_19 rfl (lv_at hl 1 rfl) ?_
        refine lv_icmp_ne (tgt := 27) hx hb dX1_weighWaysTo_20 (by decide) (fun c9 => ?_) (fun c9 => ?_)
        · have g := ineg c9 g
          refine lv_ldc (own := RX1) (v := 1000000) hx hb hown k5 dX1_weighWaysTo_27 ?_
          obtain ⟨dW_3, e9, g⟩ := bd g
          refine q_iast (ws2 := wX1 cyI dr nw aF aT aP aC aU aDT aDW dFo dPa dLa nN nA nF nT nP nC nU dT dW_3) hx hb hK hP hD hS 8 0 rfl rfl e9 dX1_weighWaysTo_29 rfl (fun H locs hP hD hS => ?_)
          refine lv_iinc (v := x2_1 + 1) (lv' := [(2, .int (x2_1 + 1)), (0, .ref dr), (1, .int p0)]) hx hb dX1_weighWaysTo_30 hl (k := 2) rfl (by rfl) (by decide) rfl (fun ls hl => ?_)
          refine lv_goto (tgt := 2) hx hb dX1_weighWaysTo_33 (by decide) ?_
          cases g
          exact ih0 _ _ h _ _ hP hD hS _ (lv_sub hl [1, 2, 0] rfl)
        · have g := ipos c9 g
          refine lv_iconst (v := 0) hx hb dX1_weighWaysTo_23 (by decide) ?_
          refine lv_goto (tgt := 29) hx hb dX1_weighWaysTo_24 (by decide) ?_
          obtain ⟨dW_4, e9, g⟩ := bd g
          refine q_iast (ws2 := wX1 cyI dr nw aF aT aP aC aU aDT aDW dFo dPa dLa nN nA nF nT nP nC nU dT dW_4) hx hb hK hP hD hS 8 0 rfl rfl e9 dX1_weighWaysTo_29 rfl (fun H locs hP hD hS => ?_)
          refine lv_iinc (v := x2_1 + 1) (lv' := [(2, .int (x2_1 + 1)), (0, .ref dr), (1, .int p0)]) hx hb dX1_weighWaysTo_30 hl (k := 2) rfl (by rfl) (by decide) rfl (fun ls hl => ?_)
          refine lv_goto (tgt := 2) hx hb dX1_weighWaysTo_33 (by decide) ?_
          cases g
          exact ih0 _ _ h _ _ hP hD hS _ (lv_sub hl [1, 2, 0] rfl)
  exact hL0 N _ _  e0 _ _ hP hD hS _ (lv_sub hl [1, 2, 0] rfl)
set_option maxHeartbeats 4000000 in
set_option maxRecDepth 100000 in
theorem c_X1_drive (l : Launch) (dC : Nat → ClassId) (dI : Nat → Nat → Nat) (cyI : ClassId) (dr nw aF aT aP aC aU aDT aDW : Nat) (sz : Nat) (dFo dPa dLa nN nA : Int32) (nF nT nP nC nU dT dW : Nat → Int32) (p0 p1 : Int32) (N : Nat) (res : Int32 × (Nat → Int32)) (h : pX1_drive N nN nA nF nT nC nU dT dW p0 p1 = some res) : Met l yX1_drive wsX1_drive { frames := 4, cells := 0, slots := 0, locals := 86 } (va_Pc [.ref dr, .int p0, .int p1] (zPre (dC, dI) (wX1 cyI dr nw aF aT aP aC aU aDT aDW dFo dPa dLa nN nA nF nT nP nC nU dT dW) [(cyI, .int)] sz)) (zQi (dC, dI) (wX1 cyI dr nw aF aT aP aC aU aDT aDW dFo dPa dLa nN nA nF nT nP nC nU res.2 dW) [(cyI, .int)] (res.1) (va_A (wX1 cyI dr nw aF aT aP aC aU aDT aDW dFo dPa dLa nN nA nF nT nP nC nU dT dW) sz)) 0 0 (va_A (wX1 cyI dr nw aF aT aP aC aU aDT aDW dFo dPa dLa nN nA nF nT nP nC nU dT dW) sz) := by
  refine q_ofWi (cc := cX1_drive) (maxL := 7) (rt := (some .int)) (by decide) rfl (Nat.le_of_ble_eq_true rfl) ?_
  intro p e s m args below meth c ls A Q H locs hQ hx hb hr hts hown hlocks hml hA hK hP hD hS hl
  have hl : lv_has ls 7 [(0, .ref dr), (1, .int p0), (2, .int p1)] := hl
  have k0 := hts (.fieldLink RX1 28 "ConvexConduit$Drivers" "network" "LConvexConduit$Network;") (by decide +kernel)
  have k1 : ∀ w ∈ u_ws RX1 TX1 6, w ∈ wsX1_drive := by decide +kernel
  have k2 := hts (.fieldLink RX1 46 "ConvexConduit$Network" "nodes" "I") (by decide +kernel)
  have k3 : ∀ w ∈ u_ws RX2 TX2 7, w ∈ wsX1_drive := by decide +kernel
  have k4 := hts (.fieldLink RX1 59 "ConvexConduit$Network" "to" "[I") (by decide +kernel)
  have k5 := hts (.fieldLink RX1 9 "ConvexConduit$Drivers" "taken" "[I") (by decide +kernel)
  unfold pX1_drive at h
  refine lv_iconst (v := 0) hx hb dX1_drive_0 (by decide) ?_
  refine lv_istore_n (lv' := [(3, .int 0), (0, .ref dr), (1, .int p0), (2, .int p1)]) hx hb dX1_drive_1 rfl hl (by decide) rfl (fun ls hl => ?_)
  refine lv_iload_n hx hb dX1_drive_2 rfl (lv_at hl 2 rfl) ?_
  refine lv_istore (lv' := [(4, .int p0), (3, .int 0), (0, .ref dr), (1, .int p0), (2, .int p1)]) hx hb dX1_drive_3 hl (by decide) rfl (fun ls hl => ?_)
  refine lv_iconst (v := 0) hx hb dX1_drive_5 (by decide) ?_
  refine lv_istore (lv' := [(5, .int 0), (4, .int p0), (3, .int 0), (0, .ref dr), (1, .int p0), (2, .int p1)]) hx hb dX1_drive_6 hl (by decide) rfl (fun ls hl => ?_)
  obtain ⟨o0, e0, h8⟩ := bd h
  have hT0 : ∀ (x3_10 : Int32) (x4_11 : Int32) (x5_12 : Int32) (dT_13 : Nat → Int32), o0 = .inl ((x3_10, x4_11, x5_12, dT_13)) → ∀ (H : Heap) (locs : List Loc), va_P (dC, dI) vwCl (wX1 cyI dr nw aF aT aP aC aU aDT aDW dFo dPa dLa nN nA nF nT nP nC nU dT_13 dW) H → va_D A (wX1 cyI dr nw aF aT aP aC aU aDT aDW dFo dPa dLa nN nA nF nT nP nC nU dT_13 dW) → va_S A s.heap H locs → ∀ ls : Array Slot, lv_has ls 7 [(0, .ref dr), (1, .int p0), (2, .int p1), (3, .int x3_10), (4, .int x4_11), (5, .int x5_12)] → W p l e { frames := 4, cells := 0, slots := 0, locals := 86 } s m args below meth c H locs 0 0 Q (F0 m 80 ls []) := by
    intro x3_10 x4_11 x5_12 dT_13 ho H locs hP hD hS ls hl
    rw [ho] at h8
    have h := h8
    refine lv_iload_n hx hb dX1_drive_80 rfl (lv_at hl 3 rfl) ?_
    cases h
    exact q_iret hQ hx hb hr hlocks hP hK hD hS dX1_drive_81
  have hL0 : ∀ (n9 : Nat) (x3_1 : Int32) (x4_2 : Int32) (x5_3 : Int32) (dT_4 : Nat → Int32), lp (un4 (pX1_drive_l8 N dW nA nC nF nN nT nU p1)) n9 ((x3_1, x4_2, x5_3, dT_4)) = some o0 → ∀ (H : Heap) (locs : List Loc), va_P (dC, dI) vwCl (wX1 cyI dr nw aF aT aP aC aU aDT aDW dFo dPa dLa nN nA nF nT nP nC nU dT_4 dW) H → va_D A (wX1 cyI dr nw aF aT aP aC aU aDT aDW dFo dPa dLa nN nA nF nT nP nC nU dT_4 dW) → va_S A s.heap H locs → ∀ ls : Array Slot, lv_has ls 7 [(0, .ref dr), (1, .int p0), (2, .int p1), (3, .int x3_1), (4, .int x4_2), (5, .int x5_3)] → W p l e { frames := 4, cells := 0, slots := 0, locals := 86 } s m args below meth c H locs 0 0 Q (F0 m 8 ls []) := by
    intro n9
    induction n9 with
    | zero =>
      intro x3_1 x4_2 x5_3 dT_4 h
      exact lp0 h
    | succ n9 ih0 =>
      intro x3_1 x4_2 x5_3 dT_4 h H locs hP hD hS ls hl
      obtain ⟨o9, g, h⟩ := lps h
      replace g : pX1_drive_l8 N dW nA nC nF nN nT nU p1 x3_1 x4_2 x5_3 dT_4 = some o9 := g
      unfold pX1_drive_l8 at g
      refine lv_iload hx hb dX1_drive_8 (lv_at hl 5 rfl) ?_
      refine lv_aload_n hx hb dX1_drive_10 rfl (lv_at hl 0 rfl) ?_
      refine va_get (D := (dC, dI)) (ci := 1) (v := .ref nw) (C := RX1) (T := TX1) (N := 6) hx hb hts k1 hown hK hP 0 rfl rfl 0 (by decide) k0 (fun _ h9 => h9) rfl dX1_drive_11 ?_
      refine va_get (D := (dC, dI)) (ci := 2) (v := .int nN) (C := RX2) (T := TX2) (N := 7) hx hb hts k3 hown hK hP 1 rfl rfl 0 (by decide) k2 (fun _ h9 => h9) rfl dX1_drive_14 ?_
      refine lv_icmp_ge (tgt := 80) hx hb dX1_drive_17 (by decide) (fun c9 => ?_) (fun c9 => ?_)
      · have g := ipos c9 g
        cases g
        have h := lpx h
        subst h
        exact hT0 _ _ _ _ rfl _ _ hP hD hS _ (lv_sub hl [0, 1, 2, 3, 4, 5] rfl)
      · have g := ineg c9 g
        refine lv_iload hx hb dX1_drive_20 (lv_at hl 4 rfl) ?_
        refine lv_iload_n hx hb dX1_drive_22 rfl (lv_at hl 2 rfl) ?_
        refine lv_icmp_eq (tgt := 80) hx hb dX1_drive_23 (by decide) (fun c9 => ?_) (fun c9 => ?_)
        · have g := ipos c9 g
          cases g
          have h := lpx h
          subst h
          exact hT0 _ _ _ _ rfl _ _ hP hD hS _ (lv_sub hl [0, 1, 2, 3, 4, 5] rfl)
        · have g := ineg c9 g
          refine lv_aload_n hx hb dX1_drive_26 rfl (lv_at hl 0 rfl) ?_
          refine lv_iload hx hb dX1_drive_27 (lv_at hl 4 rfl) ?_
          obtain ⟨r5, e9, g⟩ := bd g
          refine q_callVi (ret := r5) (As := [.int x4_2]) (w1 := wX1 cyI dr nw aF aT aP aC aU aDT aDW dFo dPa dLa nN nA nF nT nP nC nU dT_4 dW) (ws2 := wX1 cyI dr nw aF aT aP aC aU aDT aDW dFo dPa dLa nN nA nF nT nP nC nU dT_4 dW) ⟨hx, hb, hml, hown, hts⟩ (c_X1_bestArcFrom l dC dI cyI dr nw aF aT aP aC aU aDT aDW H.size dFo dPa dLa nN nA nF nT nP nC nU dT_4 dW x4_2 N _ e9) (cwV 1 hts gX1_drive_X1_bestArcFrom rfl rfl rfl (by decide +kernel) ⟨Nat.le_of_ble_eq_true rfl, Nat.le_of_ble_eq_true rfl⟩) hK hP hD hS hA [0, 1, 2, 3, 4, 5, 6, 7, 8] [] [0, 1, 2, 3, 4, 5, 6, 7, 8] [0] rfl rfl rfl rfl (by decide) rfl rfl rfl 1 0 rfl rfl rfl hl.1 (Nat.le_of_ble_eq_true rfl) (Nat.le_of_ble_eq_true rfl) (Nat.le_of_ble_eq_true rfl) rfl dX1_drive_29 (fun H locs hP hD hS => ?_)
          refine lv_istore (lv' := [(6, .int r5), (0, .ref dr), (1, .int p0), (2, .int p1), (3, .int x3_1), (4, .int x4_2), (5, .int x5_3)]) hx hb dX1_drive_32 hl (by decide) rfl (fun ls hl => ?_)
          refine lv_iload hx hb dX1_drive_34 (lv_at hl 0 rfl) ?_
          refine lv_iconst (v := -1) hx hb dX1_drive_36 (by decide) ?_
          refine lv_icmp_ne (tgt := 42) hx hb dX1_drive_37 (by decide) (fun c9 => ?_) (fun c9 => ?_)
          · have g := ineg c9 g
            refine lv_iload_n hx hb dX1_drive_42 rfl (lv_at hl 4 rfl) ?_
            refine lv_aload_n hx hb dX1_drive_43 rfl (lv_at hl 1 rfl) ?_
            refine lv_iload hx hb dX1_drive_44 (lv_at hl 0 rfl) ?_
            obtain ⟨r6, e9, g⟩ := bd g
            refine q_callVi (ret := r6) (As := [.int r5]) (w1 := wX1 cyI dr nw aF aT aP aC aU aDT aDW dFo dPa dLa nN nA nF nT nP nC nU dT_4 dW) (ws2 := wX1 cyI dr nw aF aT aP aC aU aDT aDW dFo dPa dLa nN nA nF nT nP nC nU dT_4 dW) ⟨hx, hb, hml, hown, hts⟩ (c_X1_nextPrice l dC dI cyI dr nw aF aT aP aC aU aDT aDW H.size dFo dPa dLa nN nA nF nT nP nC nU dT_4 dW r5 _ e9) (cwV 1 hts gX1_drive_X1_nextPrice rfl rfl rfl (by decide +kernel) ⟨Nat.le_of_ble_eq_true rfl, Nat.le_of_ble_eq_true rfl⟩) hK hP hD hS hA [0, 1, 2, 3, 4, 5, 6, 7, 8] [] [0, 1, 2, 3, 4, 5, 6, 7, 8] [0] rfl rfl rfl rfl (by decide) rfl rfl rfl 1 0 rfl rfl rfl hl.1 (Nat.le_of_ble_eq_true rfl) (Nat.le_of_ble_eq_true rfl) (Nat.le_of_ble_eq_true rfl) rfl dX1_drive_46 (fun H locs hP hD hS => ?_)
            refine lv_iadd hx hb dX1_drive_49 ?_
            refine lv_istore_n (lv' := [(3, .int (x3_1 + r6)), (6, .int r5), (0, .ref dr), (1, .int p0), (2, .int p1), (4, .int x4_2), (5, .int x5_3)]) hx hb dX1_drive_50 rfl hl (by decide) rfl (fun ls hl => ?_)
            refine lv_aload_n hx hb dX1_drive_51 rfl (lv_at hl 2 rfl) ?_
            refine va_get (D := (dC, dI)) (ci := 1) (v := .ref nw) (C := RX1) (T := TX1) (N := 6) hx hb hts k1 hown hK hP 0 rfl rfl 0 (by decide) k0 (fun _ h9 => h9) rfl dX1_drive_52 ?_
            refine va_get (D := (dC, dI)) (ci := 2) (v := .ref aT) (C := RX2) (T := TX2) (N := 7) hx hb hts k3 hown hK hP 1 rfl rfl 3 (by decide) k4 (fun _ h9 => h9) rfl dX1_drive_55 ?_
            refine lv_iload hx hb dX1_drive_58 (lv_at hl 1 rfl) ?_
            obtain ⟨t7, e9, g⟩ := bd g
            refine q_iald hx hb hK hP 3 0 rfl rfl e9 dX1_drive_60 ?_
            refine lv_istore (lv' := [(4, .int t7), (3, .int (x3_1 + r6)), (6, .int r5), (0, .ref dr), (1, .int p0), (2, .int p1), (5, .int x5_3)]) hx hb dX1_drive_61 hl (by decide) rfl (fun ls hl => ?_)
            refine lv_aload_n hx hb dX1_drive_63 rfl (lv_at hl 3 rfl) ?_
            refine va_get (D := (dC, dI)) (ci := 1) (v := .ref aDT) (C := RX1) (T := TX1) (N := 6) hx hb hts k1 hown hK hP 0 rfl rfl 1 (by decide) k5 (fun _ h9 => h9) rfl dX1_drive_64 ?_
            refine lv_iload hx hb dX1_drive_67 (lv_at hl 2 rfl) ?_
            refine lv_dup2_11 hx hb dX1_drive_69 rfl rfl ?_
            obtain ⟨t8, e9, g⟩ := bd g
            refine q_iald hx hb hK hP 7 0 rfl rfl e9 dX1_drive_70 ?_
            refine lv_iconst (v := 1) hx hb dX1_drive_71 (by decide) ?_
            refine lv_iadd hx hb dX1_drive_72 ?_
            obtain ⟨dT_9, e9, g⟩ := bd g
            refine q_iast (ws2 := wX1 cyI dr nw aF aT aP aC aU aDT aDW dFo dPa dLa nN nA nF nT nP nC nU dT_9 dW) hx hb hK hP hD hS 7 0 rfl rfl e9 dX1_drive_73 rfl (fun H locs hP hD hS => ?_)
            refine lv_iinc (v := x5_3 + 1) (lv' := [(5, .int (x5_3 + 1)), (4, .int t7), (3, .int (x3_1 + r6)), (6, .int r5), (0, .ref dr), (1, .int p0), (2, .int p1)]) hx hb dX1_drive_74 hl (k := 6) rfl (by rfl) (by decide) rfl (fun ls hl => ?_)
            refine lv_goto (tgt := 8) hx hb dX1_drive_77 (by decide) ?_
            cases g
            exact ih0 _ _ _ _ h _ _ hP hD hS _ (lv_sub hl [4, 5, 6, 2, 1, 0] rfl)
          · have g := ipos c9 g
            refine lv_iload_n hx hb dX1_drive_40 rfl (lv_at hl 4 rfl) ?_
            cases g
            have h := lpx h
            subst h
            have h := selr h8
            cases h
            exact q_iret hQ hx hb hr hlocks hP hK hD hS dX1_drive_41
  exact hL0 N _ _ _ _  e0 _ _ hP hD hS _ (lv_sub hl [3, 4, 5, 2, 1, 0] rfl)
set_option maxHeartbeats 4000000 in
set_option maxRecDepth 100000 in
theorem c_X1_comeOneByOne (l : Launch) (dC : Nat → ClassId) (dI : Nat → Nat → Nat) (cyI : ClassId) (dr nw aF aT aP aC aU aDT aDW : Nat) (sz : Nat) (dFo dPa dLa nN nA : Int32) (nF nT nP nC nU dT dW : Nat → Int32) (p0 p1 p2 : Int32) (N : Nat) (res : Int32 × Int32 × Int32 × (Nat → Int32) × (Nat → Int32)) (h : pX1_comeOneByOne N nN nA nF nT nC nU dT dW p0 p1 p2 = some res) : Met l yX1_comeOneByOne wsX1_comeOneByOne { frames := 5, cells := 0, slots := 0, locals := 112 } (va_Pc [.ref dr, .int p0, .int p1, .int p2] (zPre (dC, dI) (wX1 cyI dr nw aF aT aP aC aU aDT aDW dFo dPa dLa nN nA nF nT nP nC nU dT dW) [(cyI, .int)] sz)) (zQv (dC, dI) (wX1 cyI dr nw aF aT aP aC aU aDT aDW res.1 res.2.1 res.2.2.1 nN nA nF nT nP nC nU res.2.2.2.1 res.2.2.2.2) [(cyI, .int)] (va_A (wX1 cyI dr nw aF aT aP aC aU aDT aDW dFo dPa dLa nN nA nF nT nP nC nU dT dW) sz)) 0 0 (va_A (wX1 cyI dr nw aF aT aP aC aU aDT aDW dFo dPa dLa nN nA nF nT nP nC nU dT dW) sz) := by
  refine q_ofWv (cc := cX1_comeOneByOne) (maxL := 5) (rt := none) (by decide) rfl (Nat.le_of_ble_eq_true rfl) ?_
  intro p e s m args below meth c ls A Q H locs hQ hx hb hr hts hown hlocks hml hA hK hP hD hS hl
  have hl : lv_has ls 5 [(0, .ref dr), (1, .int p0), (2, .int p1), (3, .int p2)] := hl
  have k0 := hts (.fieldLink RX1 28 "ConvexConduit$Drivers" "network" "LConvexConduit$Network;") (by decide +kernel)
  have k1 : ∀ w ∈ u_ws RX1 TX1 6, w ∈ wsX1_comeOneByOne := by decide +kernel
  have k2 := hts (.fieldLink RX1 32 "ConvexConduit$Network" "arcs" "I") (by decide +kernel)
  have k3 : ∀ w ∈ u_ws RX2 TX2 7, w ∈ wsX1_comeOneByOne := by decide +kernel
  have k4 := hts (.fieldLink RX1 9 "ConvexConduit$Drivers" "taken" "[I") (by decide +kernel)
  have k5 := hts (.fieldLink RX1 18 "ConvexConduit$Drivers" "found" "I") (by decide +kernel)
  have k6 := hts (.fieldLink RX1 22 "ConvexConduit$Drivers" "paidByAll" "I") (by decide +kernel)
  have k7 := hts (.fieldLink RX1 25 "ConvexConduit$Drivers" "paidLast" "I") (by decide +kernel)
  have k8 := hts (.fieldLink RX1 15 "ConvexConduit$Drivers" "weightToTarget" "[I") (by decide +kernel)
  have k9 := hts (.constant RX1 41 (1000000)) (by decide +kernel)
  unfold pX1_comeOneByOne at h
  refine lv_iconst (v := 0) hx hb dX1_comeOneByOne_0 (by decide) ?_
  refine lv_istore (lv' := [(4, .int 0), (0, .ref dr), (1, .int p0), (2, .int p1), (3, .int p2)]) hx hb dX1_comeOneByOne_1 hl (by decide) rfl (fun ls hl => ?_)
  obtain ⟨x4_4, dT_5, e0, h⟩ := bd2 h
  have hT0 : ∀ (H : Heap) (locs : List Loc), va_P (dC, dI) vwCl (wX1 cyI dr nw aF aT aP aC aU aDT aDW dFo dPa dLa nN nA nF nT nP nC nU dT_5 dW) H → va_D A (wX1 cyI dr nw aF aT aP aC aU aDT aDW dFo dPa dLa nN nA nF nT nP nC nU dT_5 dW) → va_S A s.heap H locs → ∀ ls : Array Slot, lv_has ls 5 [(0, .ref dr), (1, .int p0), (2, .int p1), (3, .int p2), (4, .int x4_4)] → W p l e { frames := 5, cells := 0, slots := 0, locals := 112 } s m args below meth c H locs 0 0 Q (F0 m 29 ls []) := by
    intro H locs hP hD hS ls hl
    refine lv_aload_n hx hb dX1_comeOneByOne_29 rfl (lv_at hl 0 rfl) ?_
    refine lv_iconst (v := 0) hx hb dX1_comeOneByOne_30 (by decide) ?_
    refine va_put (D := (dC, dI)) (ci := 1) (v := .int 0) (ty := .int) (C := RX1) (T := TX1) (N := 6) hx hb hts k1 tyX1 tyX1_ok nmX1 hown hK hP hD hS 0 rfl rfl 3 (by decide) k5 (fun _ h9 => h9) rfl (by decide +kernel) rfl rfl (Nat.le_of_ble_eq_true rfl) dX1_comeOneByOne_31 (fun H locs hP hD hS => ?_)
    have hP : va_P (dC, dI) vwCl (wX1 cyI dr nw aF aT aP aC aU aDT aDW 0 dPa dLa nN nA nF nT nP nC nU dT_5 dW) H := hP
    have hD : va_D A (wX1 cyI dr nw aF aT aP aC aU aDT aDW 0 dPa dLa nN nA nF nT nP nC nU dT_5 dW) := hD
    refine lv_aload_n hx hb dX1_comeOneByOne_34 rfl (lv_at hl 0 rfl) ?_
    refine lv_iconst (v := 0) hx hb dX1_comeOneByOne_35 (by decide) ?_
    refine va_put (D := (dC, dI)) (ci := 1) (v := .int 0) (ty := .int) (C := RX1) (T := TX1) (N := 6) hx hb hts k1 tyX1 tyX1_ok nmX1 hown hK hP hD hS 0 rfl rfl 4 (by decide) k6 (fun _ h9 => h9) rfl (by decide +kernel) rfl rfl (Nat.le_of_ble_eq_true rfl) dX1_comeOneByOne_36 (fun H locs hP hD hS => ?_)
    have hP : va_P (dC, dI) vwCl (wX1 cyI dr nw aF aT aP aC aU aDT aDW 0 0 dLa nN nA nF nT nP nC nU dT_5 dW) H := hP
    have hD : va_D A (wX1 cyI dr nw aF aT aP aC aU aDT aDW 0 0 dLa nN nA nF nT nP nC nU dT_5 dW) := hD
    refine lv_aload_n hx hb dX1_comeOneByOne_39 rfl (lv_at hl 0 rfl) ?_
    refine lv_iconst (v := -1) hx hb dX1_comeOneByOne_40 (by decide) ?_
    refine va_put (D := (dC, dI)) (ci := 1) (v := .int ((-1))) (ty := .int) (C := RX1) (T := TX1) (N := 6) hx hb hts k1 tyX1 tyX1_ok nmX1 hown hK hP hD hS 0 rfl rfl 5 (by decide) k7 (fun _ h9 => h9) rfl (by decide +kernel) rfl rfl (Nat.le_of_ble_eq_true rfl) dX1_comeOneByOne_41 (fun H locs hP hD hS => ?_)
    have hP : va_P (dC, dI) vwCl (wX1 cyI dr nw aF aT aP aC aU aDT aDW 0 0 ((-1)) nN nA nF nT nP nC nU dT_5 dW) H := hP
    have hD : va_D A (wX1 cyI dr nw aF aT aP aC aU aDT aDW 0 0 ((-1)) nN nA nF nT nP nC nU dT_5 dW) := hD
    refine lv_iconst (v := 0) hx hb dX1_comeOneByOne_44 (by decide) ?_
    refine lv_istore (lv' := [(4, .int 0), (0, .ref dr), (1, .int p0), (2, .int p1), (3, .int p2)]) hx hb dX1_comeOneByOne_45 hl (by decide) rfl (fun ls hl => ?_)
    obtain ⟨o1, e1, h8⟩ := bd h
    have hT1 : ∀ (x4_16 : Int32) (dFo_17 : Int32) (dPa_18 : Int32) (dLa_19 : Int32) (dT_20 : Nat → Int32) (dW_21 : Nat → Int32), o1 = .inl ((x4_16, dFo_17, dPa_18, dLa_19, dT_20, dW_21)) → ∀ (H : Heap) (locs : List Loc), va_P (dC, dI) vwCl (wX1 cyI dr nw aF aT aP aC aU aDT aDW dFo_17 dPa_18 dLa_19 nN nA nF nT nP nC nU dT_20 dW_21) H → va_D A (wX1 cyI dr nw aF aT aP aC aU aDT aDW dFo_17 dPa_18 dLa_19 nN nA nF nT nP nC nU dT_20 dW_21) → va_S A s.heap H locs → ∀ ls : Array Slot, lv_has ls 5 [(0, .ref dr), (1, .int p0), (2, .int p1), (3, .int p2), (4, .int x4_16)] → W p l e { frames := 5, cells := 0, slots := 0, locals := 112 } s m args below meth c H locs 0 0 Q (F0 m 109 ls []) := by
      intro x4_16 dFo_17 dPa_18 dLa_19 dT_20 dW_21 ho H locs hP hD hS ls hl
      rw [ho] at h8
      have h := h8
      cases h
      exact q_vret hQ hx hb hr hlocks hP hK hD hS dX1_comeOneByOne_109
    have hL1 : ∀ (n9 : Nat) (x4_6 : Int32) (dFo_7 : Int32) (dPa_8 : Int32) (dLa_9 : Int32) (dT_10 : Nat → Int32) (dW_11 : Nat → Int32), lp (un6 (pX1_comeOneByOne_l47 N nA nC nF nN nT nU p0 p1 p2)) n9 ((x4_6, dFo_7, dPa_8, dLa_9, dT_10, dW_11)) = some o1 → ∀ (H : Heap) (locs : List Loc), va_P (dC, dI) vwCl (wX1 cyI dr nw aF aT aP aC aU aDT aDW dFo_7 dPa_8 dLa_9 nN nA nF nT nP nC nU dT_10 dW_11) H → va_D A (wX1 cyI dr nw aF aT aP aC aU aDT aDW dFo_7 dPa_8 dLa_9 nN nA nF nT nP nC nU dT_10 dW_11) → va_S A s.heap H locs → ∀ ls : Array Slot, lv_has ls 5 [(0, .ref dr), (1, .int p0), (2, .int p1), (3, .int p2), (4, .int x4_6)] → W p l e { frames := 5, cells := 0, slots := 0, locals := 112 } s m args below meth c H locs 0 0 Q (F0 m 47 ls []) := by
      intro n9
      induction n9 with
      | zero =>
        intro x4_6 dFo_7 dPa_8 dLa_9 dT_10 dW_11 h
        exact lp0 h
      | succ n9 ih1 =>
        intro x4_6 dFo_7 dPa_8 dLa_9 dT_10 dW_11 h H locs hP hD hS ls hl
        obtain ⟨o9, g, h⟩ := lps h
        replace g : pX1_comeOneByOne_l47 N nA nC nF nN nT nU p0 p1 p2 x4_6 dFo_7 dPa_8 dLa_9 dT_10 dW_11 = some o9 := g
        unfold pX1_comeOneByOne_l47 at g
        refine lv_iload hx hb dX1_comeOneByOne_47 (lv_at hl 4 rfl) ?_
        refine lv_iload_n hx hb dX1_comeOneByOne_49 rfl (lv_at hl 3 rfl) ?_
        refine lv_icmp_ge (tgt := 109) hx hb dX1_comeOneByOne_50 (by decide) (fun c9 => ?_) (fun c9 => ?_)
        · have g := ipos c9 g
          cases g
          have h := lpx h
          subst h
          exact hT1 _ _ _ _ _ _ rfl _ _ hP hD hS _ (lv_sub hl [0, 1, 2, 3, 4] rfl)
        · have g := ineg c9 g
          refine lv_aload_n hx hb dX1_comeOneByOne_53 rfl (lv_at hl 0 rfl) ?_
          refine lv_iload_n hx hb dX1_comeOneByOne_54 rfl (lv_at hl 2 rfl) ?_
          obtain ⟨dW_12, e9, g⟩ := bd g
          refine q_callVv (As := [.int p1]) (w1 := wX1 cyI dr nw aF aT aP aC aU aDT aDW dFo_7 dPa_8 dLa_9 nN nA nF nT nP nC nU dT_10 dW_12) (ws2 := wX1 cyI dr nw aF aT aP aC aU aDT aDW dFo_7 dPa_8 dLa_9 nN nA nF nT nP nC nU dT_10 dW_12) ⟨hx, hb, hml, hown, hts⟩ (c_X1_weighWaysTo l dC dI cyI dr nw aF aT aP aC aU aDT aDW H.size dFo_7 dPa_8 dLa_9 nN nA nF nT nP nC nU dT_10 dW_11 p1 N _ e9) (cwV 1 hts gX1_comeOneByOne_X1_weighWaysTo rfl rfl rfl (by decide +kernel) ⟨Nat.le_of_ble_eq_true rfl, Nat.le_of_ble_eq_true rfl⟩) hK hP hD hS hA [0, 1, 2, 3, 4, 5, 6, 7, 8] [] [0, 1, 2, 3, 4, 5, 6, 7, 8] [0] rfl rfl rfl rfl (by decide) rfl rfl rfl 1 0 rfl rfl rfl hl.1 (Nat.le_of_ble_eq_true rfl) (Nat.le_of_ble_eq_true rfl) (Nat.le_of_ble_eq_true rfl) rfl dX1_comeOneByOne_55 (fun H locs hP hD hS => ?_)
          refine lv_aload_n hx hb dX1_comeOneByOne_58 rfl (lv_at hl 0 rfl) ?_
          refine va_get (D := (dC, dI)) (ci := 1) (v := .ref aDW) (C := RX1) (T := TX1) (N := 6) hx hb hts k1 hown hK hP 0 rfl rfl 2 (by decide) k8 (fun _ h9 => h9) rfl dX1_comeOneByOne_59 ?_
          refine lv_iload_n hx hb dX1_comeOneByOne_62 rfl (lv_at hl 1 rfl) ?_
          obtain ⟨t13, e9, g⟩ := bd g
          refine q_iald hx hb hK hP 8 0 rfl rfl e9 dX1_comeOneByOne_63 ?_
          refine lv_ldc (own := RX1) (v := 1000000) hx hb hown k9 dX1_comeOneByOne_64 ?_
          refine lv_icmp_lt (tgt := 70) hx hb dX1_comeOneByOne_66 (by decide) (fun c9 => ?_) (fun c9 => ?_)
          · have g := ipos c9 g
            refine lv_aload_n hx hb dX1_comeOneByOne_70 rfl (lv_at hl 0 rfl) ?_
            refine lv_aload_n hx hb dX1_comeOneByOne_71 rfl (lv_at hl 0 rfl) ?_
            refine lv_iload_n hx hb dX1_comeOneByOne_72 rfl (lv_at hl 1 rfl) ?_
            refine lv_iload_n hx hb dX1_comeOneByOne_73 rfl (lv_at hl 2 rfl) ?_
            obtain ⟨r14, dT_15, e9, g⟩ := bd2 g
            refine q_callVi (ret := r14) (As := [.int p0, .int p1]) (w1 := wX1 cyI dr nw aF aT aP aC aU aDT aDW dFo_7 dPa_8 dLa_9 nN nA nF nT nP nC nU dT_15 dW_12) (ws2 := wX1 cyI dr nw aF aT aP aC aU aDT aDW dFo_7 dPa_8 dLa_9 nN nA nF nT nP nC nU dT_15 dW_12) ⟨hx, hb, hml, hown, hts⟩ (c_X1_drive l dC dI cyI dr nw aF aT aP aC aU aDT aDW H.size dFo_7 dPa_8 dLa_9 nN nA nF nT nP nC nU dT_10 dW_12 p0 p1 N _ e9) (cwV 2 hts gX1_comeOneByOne_X1_drive rfl rfl rfl (by decide +kernel) ⟨Nat.le_of_ble_eq_true rfl, Nat.le_of_ble_eq_true rfl⟩) hK hP hD hS hA [0, 1, 2, 3, 4, 5, 6, 7, 8] [] [0, 1, 2, 3, 4, 5, 6, 7, 8] [0] rfl rfl rfl rfl (by decide) rfl rfl rfl 1 0 rfl rfl rfl hl.1 (Nat.le_of_ble_eq_true rfl) (Nat.le_of_ble_eq_true rfl) (Nat.le_of_ble_eq_true rfl) rfl dX1_comeOneByOne_74 (fun H locs hP hD hS => ?_)
            refine va_put (D := (dC, dI)) (ci := 1) (v := .int r14) (ty := .int) (C := RX1) (T := TX1) (N := 6) hx hb hts k1 tyX1 tyX1_ok nmX1 hown hK hP hD hS 0 rfl rfl 5 (by decide) k7 (fun _ h9 => h9) rfl (by decide +kernel) rfl rfl (Nat.le_of_ble_eq_true rfl) dX1_comeOneByOne_77 (fun H locs hP hD hS => ?_)
            have hP : va_P (dC, dI) vwCl (wX1 cyI dr nw aF aT aP aC aU aDT aDW dFo_7 dPa_8 r14 nN nA nF nT nP nC nU dT_15 dW_12) H := hP
            have hD : va_D A (wX1 cyI dr nw aF aT aP aC aU aDT aDW dFo_7 dPa_8 r14 nN nA nF nT nP nC nU dT_15 dW_12) := hD
            refine lv_aload_n hx hb dX1_comeOneByOne_80 rfl (lv_at hl 0 rfl) ?_
            refine lv_dup hx hb dX1_comeOneByOne_81 rfl ?_
            refine va_get (D := (dC, dI)) (ci := 1) (v := .int dPa_8) (C := RX1) (T := TX1) (N := 6) hx hb hts k1 hown hK hP 0 rfl rfl 4 (by decide) k6 (fun _ h9 => h9) rfl dX1_comeOneByOne_82 ?_
            refine lv_aload_n hx hb dX1_comeOneByOne_85 rfl (lv_at hl 0 rfl) ?_
            refine va_get (D := (dC, dI)) (ci := 1) (v := .int r14) (C := RX1) (T := TX1) (N := 6) hx hb hts k1 hown hK hP 0 rfl rfl 5 (by decide) k7 (fun _ h9 => h9) rfl dX1_comeOneByOne_86 ?_
            refine lv_iadd hx hb dX1_comeOneByOne_89 ?_
            refine va_put (D := (dC, dI)) (ci := 1) (v := .int (dPa_8 + r14)) (ty := .int) (C := RX1) (T := TX1) (N := 6) hx hb hts k1 tyX1 tyX1_ok nmX1 hown hK hP hD hS 0 rfl rfl 4 (by decide) k6 (fun _ h9 => h9) rfl (by decide +kernel) rfl rfl (Nat.le_of_ble_eq_true rfl) dX1_comeOneByOne_90 (fun H locs hP hD hS => ?_)
            have hP : va_P (dC, dI) vwCl (wX1 cyI dr nw aF aT aP aC aU aDT aDW dFo_7 (dPa_8 + r14) r14 nN nA nF nT nP nC nU dT_15 dW_12) H := hP
            have hD : va_D A (wX1 cyI dr nw aF aT aP aC aU aDT aDW dFo_7 (dPa_8 + r14) r14 nN nA nF nT nP nC nU dT_15 dW_12) := hD
            refine lv_aload_n hx hb dX1_comeOneByOne_93 rfl (lv_at hl 0 rfl) ?_
            refine lv_dup hx hb dX1_comeOneByOne_94 rfl ?_
            refine va_get (D := (dC, dI)) (ci := 1) (v := .int dFo_7) (C := RX1) (T := TX1) (N := 6) hx hb hts k1 hown hK hP 0 rfl rfl 3 (by decide) k5 (fun _ h9 => h9) rfl dX1_comeOneByOne_95 ?_
            refine lv_iconst (v := 1) hx hb dX1_comeOneByOne_98 (by decide) ?_
            refine lv_iadd hx hb dX1_comeOneByOne_99 ?_
            refine va_put (D := (dC, dI)) (ci := 1) (v := .int (dFo_7 + 1)) (ty := .int) (C := RX1) (T := TX1) (N := 6) hx hb hts k1 tyX1 tyX1_ok nmX1 hown hK hP hD hS 0 rfl rfl 3 (by decide) k5 (fun _ h9 => h9) rfl (by decide +kernel) rfl rfl (Nat.le_of_ble_eq_true rfl) dX1_comeOneByOne_100 (fun H locs hP hD hS => ?_)
            have hP : va_P (dC, dI) vwCl (wX1 cyI dr nw aF aT aP aC aU aDT aDW (dFo_7 + 1) (dPa_8 + r14) r14 nN nA nF nT nP nC nU dT_15 dW_12) H := hP
            have hD : va_D A (wX1 cyI dr nw aF aT aP aC aU aDT aDW (dFo_7 + 1) (dPa_8 + r14) r14 nN nA nF nT nP nC nU dT_15 dW_12) := hD
            refine lv_iinc (v := x4_6 + 1) (lv' := [(4, .int (x4_6 + 1)), (0, .ref dr), (1, .int p0), (2, .int p1), (3, .int p2)]) hx hb dX1_comeOneByOne_103 hl (k := 4) rfl (by rfl) (by decide) rfl (fun ls hl => ?_)
            refine lv_goto (tgt := 47) hx hb dX1_comeOneByOne_106 (by decide) ?_
            cases g
            exact ih1 _ _ _ _ _ _ h _ _ hP hD hS _ (lv_sub hl [1, 2, 3, 4, 0] rfl)
          · have g := ineg c9 g
            cases g
            have h := lpx h
            subst h
            have h := selr h8
            cases h
            exact q_vret hQ hx hb hr hlocks hP hK hD hS dX1_comeOneByOne_69
    exact hL1 N _ _ _ _ _ _  e1 _ _ hP hD hS _ (lv_sub hl [1, 2, 3, 4, 0] rfl)
  have hL0 : ∀ (n9 : Nat) (x4_1 : Int32) (dT_2 : Nat → Int32), lp (un2 (pX1_comeOneByOne_l3 nA)) n9 ((x4_1, dT_2)) = some ((x4_4, dT_5)) → ∀ (H : Heap) (locs : List Loc), va_P (dC, dI) vwCl (wX1 cyI dr nw aF aT aP aC aU aDT aDW dFo dPa dLa nN nA nF nT nP nC nU dT_2 dW) H → va_D A (wX1 cyI dr nw aF aT aP aC aU aDT aDW dFo dPa dLa nN nA nF nT nP nC nU dT_2 dW) → va_S A s.heap H locs → ∀ ls : Array Slot, lv_has ls 5 [(0, .ref dr), (1, .int p0), (2, .int p1), (3, .int p2), (4, .int x4_1)] → W p l e { frames := 5, cells := 0, slots := 0, locals := 112 } s m args below meth c H locs 0 0 Q (F0 m 3 ls []) := by
    intro n9
    induction n9 with
    | zero =>
      intro x4_1 dT_2 h
      exact lp0 h
    | succ n9 ih0 =>
      intro x4_1 dT_2 h H locs hP hD hS ls hl
      obtain ⟨o9, g, h⟩ := lps h
      replace g : pX1_comeOneByOne_l3 nA x4_1 dT_2 = some o9 := g
      unfold pX1_comeOneByOne_l3 at g
      refine lv_iload hx hb dX1_comeOneByOne_3 (lv_at hl 4 rfl) ?_
      refine lv_aload_n hx hb dX1_comeOneByOne_5 rfl (lv_at hl 0 rfl) ?_
      refine va_get (D := (dC, dI)) (ci := 1) (v := .ref nw) (C := RX1) (T := TX1) (N := 6) hx hb hts k1 hown hK hP 0 rfl rfl 0 (by decide) k0 (fun _ h9 => h9) rfl dX1_comeOneByOne_6 ?_
      refine va_get (D := (dC, dI)) (ci := 2) (v := .int nA) (C := RX2) (T := TX2) (N := 7) hx hb hts k3 hown hK hP 1 rfl rfl 1 (by decide) k2 (fun _ h9 => h9) rfl dX1_comeOneByOne_9 ?_
      refine lv_icmp_ge (tgt := 29) hx hb dX1_comeOneByOne_12 (by decide) (fun c9 => ?_) (fun c9 => ?_)
      · have g := ipos c9 g
        cases g
        have h := lpx h
        cases h
        exact hT0 _ _ hP hD hS _ (lv_sub hl [0, 1, 2, 3, 4] rfl)
      · have g := ineg c9 g
        refine lv_aload_n hx hb dX1_comeOneByOne_15 rfl (lv_at hl 0 rfl) ?_
        refine va_get (D := (dC, dI)) (ci := 1) (v := .ref aDT) (C := RX1) (T := TX1) (N := 6) hx hb hts k1 hown hK hP 0 rfl rfl 1 (by decide) k4 (fun _ h9 => h9) rfl dX1_comeOneByOne_16 ?_
        refine lv_iload hx hb dX1_comeOneByOne_19 (lv_at hl 4 rfl) ?_
        refine lv_iconst (v := 0) hx hb dX1_comeOneByOne_21 (by decide) ?_
        obtain ⟨dT_3, e9, g⟩ := bd g
        refine q_iast (ws2 := wX1 cyI dr nw aF aT aP aC aU aDT aDW dFo dPa dLa nN nA nF nT nP nC nU dT_3 dW) hx hb hK hP hD hS 7 0 rfl rfl e9 dX1_comeOneByOne_22 rfl (fun H locs hP hD hS => ?_)
        refine lv_iinc (v := x4_1 + 1) (lv' := [(4, .int (x4_1 + 1)), (0, .ref dr), (1, .int p0), (2, .int p1), (3, .int p2)]) hx hb dX1_comeOneByOne_23 hl (k := 4) rfl (by rfl) (by decide) rfl (fun ls hl => ?_)
        refine lv_goto (tgt := 3) hx hb dX1_comeOneByOne_26 (by decide) ?_
        cases g
        exact ih0 _ _ h _ _ hP hD hS _ (lv_sub hl [1, 2, 3, 4, 0] rfl)
  exact hL0 N _ _  e0 _ _ hP hD hS _ (lv_sub hl [1, 2, 3, 4, 0] rfl)
