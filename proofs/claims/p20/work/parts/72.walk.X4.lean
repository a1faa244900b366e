set_option maxHeartbeats 4000000 in
set_option maxRecDepth 100000 in
theorem c_X4_isNoWidth (l : Launch) (dC : Nat → ClassId) (dI : Nat → Nat → Nat) (sz : Nat) (p0 : Int32) (res : Bool) (h : pX4_isNoWidth p0 = some res) : Met l yX4_isNoWidth wsX4_isNoWidth { frames := 0, cells := 0, slots := 0, locals := 0 } (va_Pc [.int p0] (zPre (dC, dI) ([]) [] sz)) (zQi (dC, dI) ([]) [] (b2i res) (va_A ([]) sz)) 0 0 (va_A ([]) sz) := by
  refine q_ofWi (cc := cX4_isNoWidth) (maxL := 1) (rt := (some .boolean)) (by decide) rfl (Nat.le_of_ble_eq_true rfl) ?_
  intro p e s m args below meth c ls A Q H locs hQ hx hb hr hts hown hlocks hml hA hK hP hD hS hl
  have hl : lv_has ls 1 [(0, .int p0)] := hl
  unfold pX4_isNoWidth at h
  refine lv_iload_n hx hb dX4_isNoWidth_0 rfl (lv_at hl 0 rfl) ?_
  refine lv_iconst (v := 1) hx hb dX4_isNoWidth_1 (by decide) ?_
  refine lv_icmp_lt (tgt := 10) hx hb dX4_isNoWidth_2 (by decide) (fun c9 => ?_) (fun c9 => ?_)
  · have h := ipos c9 h
    refine lv_iconst (v := 1) hx hb dX4_isNoWidth_10 (by decide) ?_
    refine lv_goto (tgt := 15) hx hb dX4_isNoWidth_11 (by decide) ?_
    cases h
    exact q_zret (b := true) hQ hx hb hr hlocks hP hK hD hS dX4_isNoWidth_15
  · have h := ineg c9 h
    refine lv_iload_n hx hb dX4_isNoWidth_5 rfl (lv_at hl 0 rfl) ?_
    refine lv_iconst (v := 5) hx hb dX4_isNoWidth_6 (by decide) ?_
    refine lv_icmp_le (tgt := 14) hx hb dX4_isNoWidth_7 (by decide) (fun c9 => ?_) (fun c9 => ?_)
    · have h := ipos c9 h
      refine lv_iconst (v := 0) hx hb dX4_isNoWidth_14 (by decide) ?_
      cases h
      exact q_zret (b := false) hQ hx hb hr hlocks hP hK hD hS dX4_isNoWidth_15
    · have h := ineg c9 h
      refine lv_iconst (v := 1) hx hb dX4_isNoWidth_10 (by decide) ?_
      refine lv_goto (tgt := 15) hx hb dX4_isNoWidth_11 (by decide) ?_
      cases h
      exact q_zret (b := true) hQ hx hb hr hlocks hP hK hD hS dX4_isNoWidth_15
set_option maxHeartbeats 4000000 in
set_option maxRecDepth 100000 in
theorem c_X4_refuseOtherThanNode (l : Launch) (dC : Nat → ClassId) (dI : Nat → Nat → Nat) (cyI cyZ : ClassId) (ob nw aF aT aP aC aU cf aO aL aH aD aB uc aUT aUD aUB dr aDT aDW : Nat) (sz : Nat) (xS xT xA nN nA dFo dPa dLa : Int32) (nF nT nP nC nU cO cL cH cD cB uT uD uB dT dW : Nat → Int32) (p0 : Int32) (res : Unit) (h : pX4_refuseOtherThanNode nN p0 = some (.inr res)) : Met l yX4_refuseOtherThanNode wsX4_refuseOtherThanNode { frames := 0, cells := 0, slots := 0, locals := 0 } (va_Pc [.ref ob, .int p0] (zPre (dC, dI) (wX4 cyI cyZ ob nw aF aT aP aC aU cf aO aL aH aD aB uc aUT aUD aUB dr aDT aDW xS xT xA nN nA dFo dPa dLa nF nT nP nC nU cO cL cH cD cB uT uD uB dT dW) [(cyI, .int), (cyZ, .boolean)] sz)) (zQv (dC, dI) (wX4 cyI cyZ ob nw aF aT aP aC aU cf aO aL aH aD aB uc aUT aUD aUB dr aDT aDW xS xT xA nN nA dFo dPa dLa nF nT nP nC nU cO cL cH cD cB uT uD uB dT dW) [(cyI, .int), (cyZ, .boolean)] (va_A (wX4 cyI cyZ ob nw aF aT aP aC aU cf aO aL aH aD aB uc aUT aUD aUB dr aDT aDW xS xT xA nN nA dFo dPa dLa nF nT nP nC nU cO cL cH cD cB uT uD uB dT dW) sz)) 0 0 (va_A (wX4 cyI cyZ ob nw aF aT aP aC aU cf aO aL aH aD aB uc aUT aUD aUB dr aDT aDW xS xT xA nN nA dFo dPa dLa nF nT nP nC nU cO cL cH cD cB uT uD uB dT dW) sz) := by
  refine q_ofWv (cc := cX4_refuseOtherThanNode) (maxL := 2) (rt := none) (by decide) rfl (Nat.le_of_ble_eq_true rfl) ?_
  intro p e s m args below meth c ls A Q H locs hQ hx hb hr hts hown hlocks hml hA hK hP hD hS hl
  have hl : lv_has ls 2 [(0, .ref ob), (1, .int p0)] := hl
  have k0 := hts (.classLink RX4 101 (zEx 1)) (by decide +kernel)
  have k1 := hts (.initialized (zEx 1)) (by decide +kernel)
  have k2 : ∀ w ∈ (vx_at0 RX4 103 (zEx 1) zNm).filter goodWord, w.before args s = true := fun w hw => hts w ((show ∀ w ∈ (vx_at0 RX4 103 (zEx 1) zNm).filter goodWord, w ∈ wsX4_refuseOtherThanNode by decide +kernel) w hw)
  have k3 := hts (.fieldLink RX4 33 "ConvexConduit" "network" "LConvexConduit$Network;") (by decide +kernel)
  have k4 : ∀ w ∈ u_ws RX4 TX4 7, w ∈ wsX4_refuseOtherThanNode := by decide +kernel
  have k5 := hts (.fieldLink RX4 98 "ConvexConduit$Network" "nodes" "I") (by decide +kernel)
  have k6 : ∀ w ∈ u_ws RX2 TX2 7, w ∈ wsX4_refuseOtherThanNode := by decide +kernel
  unfold pX4_refuseOtherThanNode at h
  refine lv_iload_n hx hb dX4_refuseOtherThanNode_0 rfl (lv_at hl 1 rfl) ?_
  refine lv_if_lt (tgt := 15) hx hb dX4_refuseOtherThanNode_1 (by decide) (fun c9 => ?_) (fun c9 => ?_)
  · have h := ipos c9 h
    cases h
  · have h := ineg c9 h
    refine lv_iload_n hx hb dX4_refuseOtherThanNode_4 rfl (lv_at hl 1 rfl) ?_
    refine lv_aload_n hx hb dX4_refuseOtherThanNode_5 rfl (lv_at hl 0 rfl) ?_
    refine va_get (D := (dC, dI)) (ci := 4) (v := .ref nw) (C := RX4) (T := TX4) (N := 7) hx hb hts k4 hown hK hP 0 rfl rfl 0 (by decide) k3 (fun _ h9 => h9) rfl dX4_refuseOtherThanNode_6 ?_
    refine va_get (D := (dC, dI)) (ci := 2) (v := .int nN) (C := RX2) (T := TX2) (N := 7) hx hb hts k6 hown hK hP 1 rfl rfl 0 (by decide) k5 (fun _ h9 => h9) rfl dX4_refuseOtherThanNode_9 ?_
    refine lv_icmp_lt (tgt := 23) hx hb dX4_refuseOtherThanNode_12 (by decide) (fun c9 => ?_) (fun c9 => ?_)
    · have h := ipos c9 h
      have h := rgtr h
      cases h
      exact q_vret hQ hx hb hr hlocks hP hK hD hS dX4_refuseOtherThanNode_23
    · have h := ineg c9 h
      cases h
set_option maxHeartbeats 4000000 in
set_option maxRecDepth 100000 in
theorem cx_X4_refuseOtherThanNode (l : Launch) (hfl : l.stackTraces = false) (dC : Nat → ClassId) (dI : Nat → Nat → Nat) (cyI cyZ : ClassId) (ob nw aF aT aP aC aU cf aO aL aH aD aB uc aUT aUD aUB dr aDT aDW : Nat) (sz : Nat) (xS xT xA nN nA dFo dPa dLa : Int32) (nF nT nP nC nU cO cL cH cD cB uT uD uB dT dW : Nat → Int32) (p0 : Int32) (k : Nat) (h : pX4_refuseOtherThanNode nN p0 = some (.inl k)) : vx_Met l yX4_refuseOtherThanNode wsX4_refuseOtherThanNode { frames := 6, cells := 1, slots := 6, locals := 81 } (va_Pc [.ref ob, .int p0] (zPreX (dC, dI) (wX4 cyI cyZ ob nw aF aT aP aC aU cf aO aL aH aD aB uc aUT aUD aUB dr aDT aDW xS xT xA nN nA dFo dPa dLa nF nT nP nC nU cO cL cH cD cB uT uD uB dT dW) [(cyI, .int), (cyZ, .boolean)] sz)) (zNv (va_A (wX4 cyI cyZ ob nw aF aT aP aC aU cf aO aL aH aD aB uc aUT aUD aUB dr aDT aDW xS xT xA nN nA dFo dPa dLa nF nT nP nC nU cO cL cH cD cB uT uD uB dT dW) sz)) (zX (dC, dI) (wX4 cyI cyZ ob nw aF aT aP aC aU cf aO aL aH aD aB uc aUT aUD aUB dr aDT aDW xS xT xA nN nA dFo dPa dLa nF nT nP nC nU cO cL cH cD cB uT uD uB dT dW) [(cyI, .int), (cyZ, .boolean)] k (va_A (wX4 cyI cyZ ob nw aF aT aP aC aU cf aO aL aH aD aB uc aUT aUD aUB dr aDT aDW xS xT xA nN nA dFo dPa dLa nF nT nP nC nU cO cL cH cD cB uT uD uB dT dW) sz)) 1 6 (va_A (wX4 cyI cyZ ob nw aF aT aP aC aU cf aO aL aH aD aB uc aUT aUD aUB dr aDT aDW xS xT xA nN nA dFo dPa dLa nF nT nP nC nU cO cL cH cD cB uT uD uB dT dW) sz) := by
  refine q_ofXt (cc := cX4_refuseOtherThanNode) (maxL := 2) (rt := none) (by decide) rfl (Nat.le_of_ble_eq_true rfl) ?_
  intro p e s m args below meth c ls A Q H locs hQ hx hb hr hts hown hlocks hml hA hK hP hD hS hl hout hXc
  have hl : lv_has ls 2 [(0, .ref ob), (1, .int p0)] := hl
  have k0 := hts (.classLink RX4 101 (zEx 1)) (by decide +kernel)
  have k1 := hts (.initialized (zEx 1)) (by decide +kernel)
  have k2 : ∀ w ∈ (vx_at0 RX4 103 (zEx 1) zNm).filter goodWord, w.before args s = true := fun w hw => hts w ((show ∀ w ∈ (vx_at0 RX4 103 (zEx 1) zNm).filter goodWord, w ∈ wsX4_refuseOtherThanNode by decide +kernel) w hw)
  have k3 := hts (.fieldLink RX4 33 "ConvexConduit" "network" "LConvexConduit$Network;") (by decide +kernel)
  have k4 : ∀ w ∈ u_ws RX4 TX4 7, w ∈ wsX4_refuseOtherThanNode := by decide +kernel
  have k5 := hts (.fieldLink RX4 98 "ConvexConduit$Network" "nodes" "I") (by decide +kernel)
  have k6 : ∀ w ∈ u_ws RX2 TX2 7, w ∈ wsX4_refuseOtherThanNode := by decide +kernel
  unfold pX4_refuseOtherThanNode at h
  refine lv_iload_n hx hb dX4_refuseOtherThanNode_0 rfl (lv_at hl 1 rfl) ?_
  refine lv_if_lt (tgt := 15) hx hb dX4_refuseOtherThanNode_1 (by decide) (fun c9 => ?_) (fun c9 => ?_)
  · have h := ipos c9 h
    cases h
    exact q_throw hQ hx hb hfl hlocks hown (by decide +kernel) k0 k1 k2 (by decide +kernel) (by decide +kernel) hXc hout hK hP hD hS (hl.1.trans hml.symm) (Nat.le_of_ble_eq_true rfl) (Nat.le_of_ble_eq_true rfl) (Nat.le_of_ble_eq_true rfl) (Nat.le_of_ble_eq_true rfl) (Nat.le_of_ble_eq_true rfl) (Nat.le_of_ble_eq_true rfl) dX4_refuseOtherThanNode_15 dX4_refuseOtherThanNode_18 dX4_refuseOtherThanNode_19 dX4_refuseOtherThanNode_22
  · have h := ineg c9 h
    refine lv_iload_n hx hb dX4_refuseOtherThanNode_4 rfl (lv_at hl 1 rfl) ?_
    refine lv_aload_n hx hb dX4_refuseOtherThanNode_5 rfl (lv_at hl 0 rfl) ?_
    refine va_get (D := (dC, dI)) (ci := 4) (v := .ref nw) (C := RX4) (T := TX4) (N := 7) hx hb hts k4 hown hK hP 0 rfl rfl 0 (by decide) k3 (fun _ h9 => h9) rfl dX4_refuseOtherThanNode_6 ?_
    refine va_get (D := (dC, dI)) (ci := 2) (v := .int nN) (C := RX2) (T := TX2) (N := 7) hx hb hts k6 hown hK hP 1 rfl rfl 0 (by decide) k5 (fun _ h9 => h9) rfl dX4_refuseOtherThanNode_9 ?_
    refine lv_icmp_lt (tgt := 23) hx hb dX4_refuseOtherThanNode_12 (by decide) (fun c9 => ?_) (fun c9 => ?_)
    · have h := ipos c9 h
      exact rgtl h
    · have h := ineg c9 h
      cases h
      exact q_throw hQ hx hb hfl hlocks hown (by decide +kernel) k0 k1 k2 (by decide +kernel) (by decide +kernel) hXc hout hK hP hD hS (hl.1.trans hml.symm) (Nat.le_of_ble_eq_true rfl) (Nat.le_of_ble_eq_true rfl) (Nat.le_of_ble_eq_true rfl) (Nat.le_of_ble_eq_true rfl) (Nat.le_of_ble_eq_true rfl) (Nat.le_of_ble_eq_true rfl) dX4_refuseOtherThanNode_15 dX4_refuseOtherThanNode_18 dX4_refuseOtherThanNode_19 dX4_refuseOtherThanNode_22
set_option maxHeartbeats 4000000 in
set_option maxRecDepth 100000 in
theorem c_X4_refuseOtherThanArc (l : Launch) (dC : Nat → ClassId) (dI : Nat → Nat → Nat) (cyI cyZ : ClassId) (ob nw aF aT aP aC aU cf aO aL aH aD aB uc aUT aUD aUB dr aDT aDW : Nat) (sz : Nat) (xS xT xA nN nA dFo dPa dLa : Int32) (nF nT nP nC nU cO cL cH cD cB uT uD uB dT dW : Nat → Int32) (p0 : Int32) (res : Unit) (h : pX4_refuseOtherThanArc nA p0 = some (.inr res)) : Met l yX4_refuseOtherThanArc wsX4_refuseOtherThanArc { frames := 0, cells := 0, slots := 0, locals := 0 } (va_Pc [.ref ob, .int p0] (zPre (dC, dI) (wX4 cyI cyZ ob nw aF aT aP aC aU cf aO aL aH aD aB uc aUT aUD aUB dr aDT aDW xS xT xA nN nA dFo dPa dLa nF nT nP nC nU cO cL cH cD cB uT uD uB dT dW) [(cyI, .int), (cyZ, .boolean)] sz)) (zQv (dC, dI) (wX4 cyI cyZ ob nw aF aT aP aC aU cf aO aL aH aD aB uc aUT aUD aUB dr aDT aDW xS xT xA nN nA dFo dPa dLa nF nT nP nC nU cO cL cH cD cB uT uD uB dT dW) [(cyI, .int), (cyZ, .boolean)] (va_A (wX4 cyI cyZ ob nw aF aT aP aC aU cf aO aL aH aD aB uc aUT aUD aUB dr aDT aDW xS xT xA nN nA dFo dPa dLa nF nT nP nC nU cO cL cH cD cB uT uD uB dT dW) sz)) 0 0 (va_A (wX4 cyI cyZ ob nw aF aT aP aC aU cf aO aL aH aD aB uc aUT aUD aUB dr aDT aDW xS xT xA nN nA dFo dPa dLa nF nT nP nC nU cO cL cH cD cB uT uD uB dT dW) sz) := by
  refine q_ofWv (cc := cX4_refuseOtherThanArc) (maxL := 2) (rt := none) (by decide) rfl (Nat.le_of_ble_eq_true rfl) ?_
  intro p e s m args below meth c ls A Q H locs hQ hx hb hr hts hown hlocks hml hA hK hP hD hS hl
  have hl : lv_has ls 2 [(0, .ref ob), (1, .int p0)] := hl
  have k0 := hts (.classLink RX4 101 (zEx 1)) (by decide +kernel)
  have k1 := hts (.initialized (zEx 1)) (by decide +kernel)
  have k2 : ∀ w ∈ (vx_at0 RX4 103 (zEx 1) zNm).filter goodWord, w.before args s = true := fun w hw => hts w ((show ∀ w ∈ (vx_at0 RX4 103 (zEx 1) zNm).filter goodWord, w ∈ wsX4_refuseOtherThanArc by decide +kernel) w hw)
  have k3 := hts (.fieldLink RX4 33 "ConvexConduit" "network" "LConvexConduit$Network;") (by decide +kernel)
  have k4 : ∀ w ∈ u_ws RX4 TX4 7, w ∈ wsX4_refuseOtherThanArc := by decide +kernel
  have k5 := hts (.fieldLink RX4 70 "ConvexConduit$Network" "arcs" "I") (by decide +kernel)
  have k6 : ∀ w ∈ u_ws RX2 TX2 7, w ∈ wsX4_refuseOtherThanArc := by decide +kernel
  unfold pX4_refuseOtherThanArc at h
  refine lv_iload_n hx hb dX4_refuseOtherThanArc_0 rfl (lv_at hl 1 rfl) ?_
  refine lv_if_lt (tgt := 15) hx hb dX4_refuseOtherThanArc_1 (by decide) (fun c9 => ?_) (fun c9 => ?_)
  · have h := ipos c9 h
    cases h
  · have h := ineg c9 h
    refine lv_iload_n hx hb dX4_refuseOtherThanArc_4 rfl (lv_at hl 1 rfl) ?_
    refine lv_aload_n hx hb dX4_refuseOtherThanArc_5 rfl (lv_at hl 0 rfl) ?_
    refine va_get (D := (dC, dI)) (ci := 4) (v := .ref nw) (C := RX4) (T := TX4) (N := 7) hx hb hts k4 hown hK hP 0 rfl rfl 0 (by decide) k3 (fun _ h9 => h9) rfl dX4_refuseOtherThanArc_6 ?_
    refine va_get (D := (dC, dI)) (ci := 2) (v := .int nA) (C := RX2) (T := TX2) (N := 7) hx hb hts k6 hown hK hP 1 rfl rfl 1 (by decide) k5 (fun _ h9 => h9) rfl dX4_refuseOtherThanArc_9 ?_
    refine lv_icmp_lt (tgt := 23) hx hb dX4_refuseOtherThanArc_12 (by decide) (fun c9 => ?_) (fun c9 => ?_)
    · have h := ipos c9 h
      have h := rgtr h
      cases h
      exact q_vret hQ hx hb hr hlocks hP hK hD hS dX4_refuseOtherThanArc_23
    · have h := ineg c9 h
      cases h
set_option maxHeartbeats 4000000 in
set_option maxRecDepth 100000 in
theorem cx_X4_refuseOtherThanArc (l : Launch) (hfl : l.stackTraces = false) (dC : Nat → ClassId) (dI : Nat → Nat → Nat) (cyI cyZ : ClassId) (ob nw aF aT aP aC aU cf aO aL aH aD aB uc aUT aUD aUB dr aDT aDW : Nat) (sz : Nat) (xS xT xA nN nA dFo dPa dLa : Int32) (nF nT nP nC nU cO cL cH cD cB uT uD uB dT dW : Nat → Int32) (p0 : Int32) (k : Nat) (h : pX4_refuseOtherThanArc nA p0 = some (.inl k)) : vx_Met l yX4_refuseOtherThanArc wsX4_refuseOtherThanArc { frames := 6, cells := 1, slots := 6, locals := 81 } (va_Pc [.ref ob, .int p0] (zPreX (dC, dI) (wX4 cyI cyZ ob nw aF aT aP aC aU cf aO aL aH aD aB uc aUT aUD aUB dr aDT aDW xS xT xA nN nA dFo dPa dLa nF nT nP nC nU cO cL cH cD cB uT uD uB dT dW) [(cyI, .int), (cyZ, .boolean)] sz)) (zNv (va_A (wX4 cyI cyZ ob nw aF aT aP aC aU cf aO aL aH aD aB uc aUT aUD aUB dr aDT aDW xS xT xA nN nA dFo dPa dLa nF nT nP nC nU cO cL cH cD cB uT uD uB dT dW) sz)) (zX (dC, dI) (wX4 cyI cyZ ob nw aF aT aP aC aU cf aO aL aH aD aB uc aUT aUD aUB dr aDT aDW xS xT xA nN nA dFo dPa dLa nF nT nP nC nU cO cL cH cD cB uT uD uB dT dW) [(cyI, .int), (cyZ, .boolean)] k (va_A (wX4 cyI cyZ ob nw aF aT aP aC aU cf aO aL aH aD aB uc aUT aUD aUB dr aDT aDW xS xT xA nN nA dFo dPa dLa nF nT nP nC nU cO cL cH cD cB uT uD uB dT dW) sz)) 1 6 (va_A (wX4 cyI cyZ ob nw aF aT aP aC aU cf aO aL aH aD aB uc aUT aUD aUB dr aDT aDW xS xT xA nN nA dFo dPa dLa nF nT nP nC nU cO cL cH cD cB uT uD uB dT dW) sz) := by
  refine q_ofXt (cc := cX4_refuseOtherThanArc) (maxL := 2) (rt := none) (by decide) rfl (Nat.le_of_ble_eq_true rfl) ?_
  intro p e s m args below meth c ls A Q H locs hQ hx hb hr hts hown hlocks hml hA hK hP hD hS hl hout hXc
  have hl : lv_has ls 2 [(0, .ref ob), (1, .int p0)] := hl
  have k0 := hts (.classLink RX4 101 (zEx 1)) (by decide +kernel)
  have k1 := hts (.initialized (zEx 1)) (by decide +kernel)
  have k2 : ∀ w ∈ (vx_at0 RX4 103 (zEx 1) zNm).filter goodWord, w.before args s = true := fun w hw => hts w ((show ∀ w ∈ (vx_at0 RX4 103 (zEx 1) zNm).filter goodWord, w ∈ wsX4_refuseOtherThanArc by decide +kernel) w hw)
  have k3 := hts (.fieldLink RX4 33 "ConvexConduit" "network" "LConvexConduit$Network;") (by decide +kernel)
  have k4 : ∀ w ∈ u_ws RX4 TX4 7, w ∈ wsX4_refuseOtherThanArc := by decide +kernel
  have k5 := hts (.fieldLink RX4 70 "ConvexConduit$Network" "arcs" "I") (by decide +kernel)
  have k6 : ∀ w ∈ u_ws RX2 TX2 7, w ∈ wsX4_refuseOtherThanArc := by decide +kernel
  unfold pX4_refuseOtherThanArc at h
  refine lv_iload_n hx hb dX4_refuseOtherThanArc_0 rfl (lv_at hl 1 rfl) ?_
  refine lv_if_lt (tgt := 15) hx hb dX4_refuseOtherThanArc_1 (by decide) (fun c9 => ?_) (fun c9 => ?_)
  · have h := ipos c9 h
    cases h
    exact q_throw hQ hx hb hfl hlocks hown (by decide +kernel) k0 k1 k2 (by decide +kernel) (by decide +kernel) hXc hout hK hP hD hS (hl.1.trans hml.symm) (Nat.le_of_ble_eq_true rfl) (Nat.le_of_ble_eq_true rfl) (Nat.le_of_ble_eq_true rfl) (Nat.le_of_ble_eq_true rfl) (Nat.le_of_ble_eq_true rfl) (Nat.le_of_ble_eq_true rfl) dX4_refuseOtherThanArc_15 dX4_refuseOtherThanArc_18 dX4_refuseOtherThanArc_19 dX4_refuseOtherThanArc_22
  · have h := ineg c9 h
    refine lv_iload_n hx hb dX4_refuseOtherThanArc_4 rfl (lv_at hl 1 rfl) ?_
    refine lv_aload_n hx hb dX4_refuseOtherThanArc_5 rfl (lv_at hl 0 rfl) ?_
    refine va_get (D := (dC, dI)) (ci := 4) (v := .ref nw) (C := RX4) (T := TX4) (N := 7) hx hb hts k4 hown hK hP 0 rfl rfl 0 (by decide) k3 (fun _ h9 => h9) rfl dX4_refuseOtherThanArc_6 ?_
    refine va_get (D := (dC, dI)) (ci := 2) (v := .int nA) (C := RX2) (T := TX2) (N := 7) hx hb hts k6 hown hK hP 1 rfl rfl 1 (by decide) k5 (fun _ h9 => h9) rfl dX4_refuseOtherThanArc_9 ?_
    refine lv_icmp_lt (tgt := 23) hx hb dX4_refuseOtherThanArc_12 (by decide) (fun c9 => ?_) (fun c9 => ?_)
    · have h := ipos c9 h
      exact rgtl h
    · have h := ineg c9 h
      cases h
      exact q_throw hQ hx hb hfl hlocks hown (by decide +kernel) k0 k1 k2 (by decide +kernel) (by decide +kernel) hXc hout hK hP hD hS (hl.1.trans hml.symm) (Nat.le_of_ble_eq_true rfl) (Nat.le_of_ble_eq_true rfl) (Nat.le_of_ble_eq_true rfl) (Nat.le_of_ble_eq_true rfl) (Nat.le_of_ble_eq_true rfl) (Nat.le_of_ble_eq_true rfl) dX4_refuseOtherThanArc_15 dX4_refuseOtherThanArc_18 dX4_refuseOtherThanArc_19 dX4_refuseOtherThanArc_22
set_option maxHeartbeats 4000000 in
set_option maxRecDepth 100000 in
theorem c_X4_nodes (l : Launch) (dC : Nat → ClassId) (dI : Nat → Nat → Nat) (cyI cyZ : ClassId) (ob nw aF aT aP aC aU cf aO aL aH aD aB uc aUT aUD aUB dr aDT aDW : Nat) (sz : Nat) (xS xT xA nN nA dFo dPa dLa : Int32) (nF nT nP nC nU cO cL cH cD cB uT uD uB dT dW : Nat → Int32) (res : Int32) (h : pX4_nodes nN = some res) : Met l yX4_nodes wsX4_nodes { frames := 0, cells := 0, slots := 0, locals := 0 } (va_Pc [.ref ob] (zPre (dC, dI) (wX4 cyI cyZ ob nw aF aT aP aC aU cf aO aL aH aD aB uc aUT aUD aUB dr aDT aDW xS xT xA nN nA dFo dPa dLa nF nT nP nC nU cO cL cH cD cB uT uD uB dT dW) [(cyI, .int), (cyZ, .boolean)] sz)) (zQi (dC, dI) (wX4 cyI cyZ ob nw aF aT aP aC aU cf aO aL aH aD aB uc aUT aUD aUB dr aDT aDW xS xT xA nN nA dFo dPa dLa nF nT nP nC nU cO cL cH cD cB uT uD uB dT dW) [(cyI, .int), (cyZ, .boolean)] (res) (va_A (wX4 cyI cyZ ob nw aF aT aP aC aU cf aO aL aH aD aB uc aUT aUD aUB dr aDT aDW xS xT xA nN nA dFo dPa dLa nF nT nP nC nU cO cL cH cD cB uT uD uB dT dW) sz)) 0 0 (va_A (wX4 cyI cyZ ob nw aF aT aP aC aU cf aO aL aH aD aB uc aUT aUD aUB dr aDT aDW xS xT xA nN nA dFo dPa dLa nF nT nP nC nU cO cL cH cD cB uT uD uB dT dW) sz) := by
  refine q_ofWi (cc := cX4_nodes) (maxL := 1) (rt := (some .int)) (by decide) rfl (Nat.le_of_ble_eq_true rfl) ?_
  intro p e s m args below meth c ls A Q H locs hQ hx hb hr hts hown hlocks hml hA hK hP hD hS hl
  have hl : lv_has ls 1 [(0, .ref ob)] := hl
  have k0 := hts (.fieldLink RX4 33 "ConvexConduit" "network" "LConvexConduit$Network;") (by decide +kernel)
  have k1 : ∀ w ∈ u_ws RX4 TX4 7, w ∈ wsX4_nodes := by decide +kernel
  have k2 := hts (.fieldLink RX4 98 "ConvexConduit$Network" "nodes" "I") (by decide +kernel)
  have k3 : ∀ w ∈ u_ws RX2 TX2 7, w ∈ wsX4_nodes := by decide +kernel
  unfold pX4_nodes at h
  refine lv_aload_n hx hb dX4_nodes_0 rfl (lv_at hl 0 rfl) ?_
  refine va_get (D := (dC, dI)) (ci := 4) (v := .ref nw) (C := RX4) (T := TX4) (N := 7) hx hb hts k1 hown hK hP 0 rfl rfl 0 (by decide) k0 (fun _ h9 => h9) rfl dX4_nodes_1 ?_
  refine va_get (D := (dC, dI)) (ci := 2) (v := .int nN) (C := RX2) (T := TX2) (N := 7) hx hb hts k3 hown hK hP 1 rfl rfl 0 (by decide) k2 (fun _ h9 => h9) rfl dX4_nodes_4 ?_
  cases h
  exact q_iret hQ hx hb hr hlocks hP hK hD hS dX4_nodes_7
set_option maxHeartbeats 4000000 in
set_option maxRecDepth 100000 in
theorem c_X4_arcs (l : Launch) (dC : Nat → ClassId) (dI : Nat → Nat → Nat) (cyI cyZ : ClassId) (ob nw aF aT aP aC aU cf aO aL aH aD aB uc aUT aUD aUB dr aDT aDW : Nat) (sz : Nat) (xS xT xA nN nA dFo dPa dLa : Int32) (nF nT nP nC nU cO cL cH cD cB uT uD uB dT dW : Nat → Int32) (res : Int32) (h : pX4_arcs nA = some res) : Met l yX4_arcs wsX4_arcs { frames := 0, cells := 0, slots := 0, locals := 0 } (va_Pc [.ref ob] (zPre (dC, dI) (wX4 cyI cyZ ob nw aF aT aP aC aU cf aO aL aH aD aB uc aUT aUD aUB dr aDT aDW xS xT xA nN nA dFo dPa dLa nF nT nP nC nU cO cL cH cD cB uT uD uB dT dW) [(cyI, .int), (cyZ, .boolean)] sz)) (zQi (dC, dI) (wX4 cyI cyZ ob nw aF aT aP aC aU cf aO aL aH aD aB uc aUT aUD aUB dr aDT aDW xS xT xA nN nA dFo dPa dLa nF nT nP nC nU cO cL cH cD cB uT uD uB dT dW) [(cyI, .int), (cyZ, .boolean)] (res) (va_A (wX4 cyI cyZ ob nw aF aT aP aC aU cf aO aL aH aD aB uc aUT aUD aUB dr aDT aDW xS xT xA nN nA dFo dPa dLa nF nT nP nC nU cO cL cH cD cB uT uD uB dT dW) sz)) 0 0 (va_A (wX4 cyI cyZ ob nw aF aT aP aC aU cf aO aL aH aD aB uc aUT aUD aUB dr aDT aDW xS xT xA nN nA dFo dPa dLa nF nT nP nC nU cO cL cH cD cB uT uD uB dT dW) sz) := by
  refine q_ofWi (cc := cX4_arcs) (maxL := 1) (rt := (some .int)) (by decide) rfl (Nat.le_of_ble_eq_true rfl) ?_
  intro p e s m args below meth c ls A Q H locs hQ hx hb hr hts hown hlocks hml hA hK hP hD hS hl
  have hl : lv_has ls 1 [(0, .ref ob)] := hl
  have k0 := hts (.fieldLink RX4 33 "ConvexConduit" "network" "LConvexConduit$Network;") (by decide +kernel)
  have k1 : ∀ w ∈ u_ws RX4 TX4 7, w ∈ wsX4_arcs := by decide +kernel
  have k2 := hts (.fieldLink RX4 70 "ConvexConduit$Network" "arcs" "I") (by decide +kernel)
  have k3 : ∀ w ∈ u_ws RX2 TX2 7, w ∈ wsX4_arcs := by decide +kernel
  unfold pX4_arcs at h
  refine lv_aload_n hx hb dX4_arcs_0 rfl (lv_at hl 0 rfl) ?_
  refine va_get (D := (dC, dI)) (ci := 4) (v := .ref nw) (C := RX4) (T := TX4) (N := 7) hx hb hts k1 hown hK hP 0 rfl rfl 0 (by decide) k0 (fun _ h9 => h9) rfl dX4_arcs_1 ?_
  refine va_get (D := (dC, dI)) (ci := 2) (v := .int nA) (C := RX2) (T := TX2) (N := 7) hx hb hts k3 hown hK hP 1 rfl rfl 1 (by decide) k2 (fun _ h9 => h9) rfl dX4_arcs_4 ?_
  cases h
  exact q_iret hQ hx hb hr hlocks hP hK hD hS dX4_arcs_7
set_option maxHeartbeats 4000000 in
set_option maxRecDepth 100000 in
theorem c_X4_most (l : Launch) (dC : Nat → ClassId) (dI : Nat → Nat → Nat) (cyI cyZ : ClassId) (ob nw aF aT aP aC aU cf aO aL aH aD aB uc aUT aUD aUB dr aDT aDW : Nat) (sz : Nat) (xS xT xA nN nA dFo dPa dLa : Int32) (nF nT nP nC nU cO cL cH cD cB uT uD uB dT dW : Nat → Int32) (N : Nat) (res : Int32 × (Nat → Int32) × (Nat → Int32) × (Nat → Int32) × (Nat → Int32)) (h : pX4_most N xS xT nN nA nF nT nC cO cL cH cB = some res) : Met l yX4_most wsX4_most { frames := 6, cells := 0, slots := 0, locals := 143 } (va_Pc [.ref ob] (zPre (dC, dI) (wX4 cyI cyZ ob nw aF aT aP aC aU cf aO aL aH aD aB uc aUT aUD aUB dr aDT aDW xS xT xA nN nA dFo dPa dLa nF nT nP nC nU cO cL cH cD cB uT uD uB dT dW) [(cyI, .int), (cyZ, .boolean)] sz)) (zQi (dC, dI) (wX4 cyI cyZ ob nw aF aT aP aC aU cf aO aL aH aD aB uc aUT aUD aUB dr aDT aDW xS xT xA nN nA dFo dPa dLa nF nT nP nC nU res.2.1 res.2.2.1 res.2.2.2.1 cD res.2.2.2.2 uT uD uB dT dW) [(cyI, .int), (cyZ, .boolean)] (res.1) (va_A (wX4 cyI cyZ ob nw aF aT aP aC aU cf aO aL aH aD aB uc aUT aUD aUB dr aDT aDW xS xT xA nN nA dFo dPa dLa nF nT nP nC nU cO cL cH cD cB uT uD uB dT dW) sz)) 0 0 (va_A (wX4 cyI cyZ ob nw aF aT aP aC aU cf aO aL aH aD aB uc aUT aUD aUB dr aDT aDW xS xT xA nN nA dFo dPa dLa nF nT nP nC nU cO cL cH cD cB uT uD uB dT dW) sz) := by
  refine q_ofWi (cc := cX4_most) (maxL := 1) (rt := (some .int)) (by decide) rfl (Nat.le_of_ble_eq_true rfl) ?_
  intro p e s m args below meth c ls A Q H locs hQ hx hb hr hts hown hlocks hml hA hK hP hD hS hl
  have hl : lv_has ls 1 [(0, .ref ob)] := hl
  have k0 := hts (.fieldLink RX4 42 "ConvexConduit" "cheapest" "LConvexConduit$CheapestFlow;") (by decide +kernel)
  have k1 : ∀ w ∈ u_ws RX4 TX4 7, w ∈ wsX4_most := by decide +kernel
  have k2 := hts (.fieldLink RX4 9 "ConvexConduit" "source" "I") (by decide +kernel)
  have k3 := hts (.fieldLink RX4 13 "ConvexConduit" "target" "I") (by decide +kernel)
  unfold pX4_most at h
  refine lv_aload_n hx hb dX4_most_0 rfl (lv_at hl 0 rfl) ?_
  refine va_get (D := (dC, dI)) (ci := 4) (v := .ref cf) (C := RX4) (T := TX4) (N := 7) hx hb hts k1 hown hK hP 0 rfl rfl 1 (by decide) k0 (fun _ h9 => h9) rfl dX4_most_1 ?_
  refine lv_aload_n hx hb dX4_most_4 rfl (lv_at hl 0 rfl) ?_
  refine va_get (D := (dC, dI)) (ci := 4) (v := .int xS) (C := RX4) (T := TX4) (N := 7) hx hb hts k1 hown hK hP 0 rfl rfl 4 (by decide) k2 (fun _ h9 => h9) rfl dX4_most_5 ?_
  refine lv_aload_n hx hb dX4_most_8 rfl (lv_at hl 0 rfl) ?_
  refine va_get (D := (dC, dI)) (ci := 4) (v := .int xT) (C := RX4) (T := TX4) (N := 7) hx hb hts k1 hown hK hP 0 rfl rfl 5 (by decide) k3 (fun _ h9 => h9) rfl dX4_most_9 ?_
  obtain ⟨r1, cO_2, cL_3, cH_4, cB_5, e9, h⟩ := bd5 h
  refine q_callVi (ret := r1) (As := [.int xS, .int xT]) (w1 := wX0 cyI cf nw aF aT aP aC aU aO aL aH aD aB nN nA nF nT nP nC nU cO_2 cL_3 cH_4 cD cB_5) (ws2 := wX4 cyI cyZ ob nw aF aT aP aC aU cf aO aL aH aD aB uc aUT aUD aUB dr aDT aDW xS xT xA nN nA dFo dPa dLa nF nT nP nC nU cO_2 cL_3 cH_4 cD cB_5 uT uD uB dT dW) ⟨hx, hb, hml, hown, hts⟩ (c_X0_greatestAmount l dC dI cyI cf nw aF aT aP aC aU aO aL aH aD aB H.size nN nA nF nT nP nC nU cO cL cH cD cB xS xT N _ e9) (cwV 2 hts gX4_most_X0_greatestAmount rfl rfl rfl (by decide +kernel) ⟨Nat.le_of_ble_eq_true rfl, Nat.le_of_ble_eq_true rfl⟩) hK hP hD hS hA [7, 1, 2, 3, 4, 5, 6, 8, 9, 10, 11, 12] [0, 13, 14, 15, 16, 17, 18, 19] [0, 9, 10, 11, 12, 13, 14, 8, 15, 16, 17, 18, 19, 1, 2, 3, 4, 5, 6, 7] [0] rfl rfl rfl rfl (by decide) rfl rfl rfl 0 0 rfl rfl rfl hl.1 (Nat.le_of_ble_eq_true rfl) (Nat.le_of_ble_eq_true rfl) (Nat.le_of_ble_eq_true rfl) rfl dX4_most_12 (fun H locs hP hD hS => ?_)
  cases h
  exact q_iret hQ hx hb hr hlocks hP hK hD hS dX4_most_15
set_option maxHeartbeats 4000000 in
set_option maxRecDepth 100000 in
theorem c_X4_cost (l : Launch) (dC : Nat → ClassId) (dI : Nat → Nat → Nat) (cyI cyZ : ClassId) (ob nw aF aT aP aC aU cf aO aL aH aD aB uc aUT aUD aUB dr aDT aDW : Nat) (sz : Nat) (xS xT xA nN nA dFo dPa dLa : Int32) (nF nT nP nC nU cO cL cH cD cB uT uD uB dT dW : Nat → Int32) (N : Nat) (res : Int32 × (Nat → Int32) × (Nat → Int32) × (Nat → Int32) × (Nat → Int32) × (Nat → Int32)) (h : pX4_cost N xS xT xA nN nA nF nT nC nU cO cL cH cD cB = some res) : Met l yX4_cost wsX4_cost { frames := 6, cells := 0, slots := 0, locals := 136 } (va_Pc [.ref ob] (zPre (dC, dI) (wX4 cyI cyZ ob nw aF aT aP aC aU cf aO aL aH aD aB uc aUT aUD aUB dr aDT aDW xS xT xA nN nA dFo dPa dLa nF nT nP nC nU cO cL cH cD cB uT uD uB dT dW) [(cyI, .int), (cyZ, .boolean)] sz)) (zQi (dC, dI) (wX4 cyI cyZ ob nw aF aT aP aC aU cf aO aL aH aD aB uc aUT aUD aUB dr aDT aDW xS xT xA nN nA dFo dPa dLa nF nT nP nC nU res.2.1 res.2.2.1 res.2.2.2.1 res.2.2.2.2.1 res.2.2.2.2.2 uT uD uB dT dW) [(cyI, .int), (cyZ, .boolean)] (res.1) (va_A (wX4 cyI cyZ ob nw aF aT aP aC aU cf aO aL aH aD aB uc aUT aUD aUB dr aDT aDW xS xT xA nN nA dFo dPa dLa nF nT nP nC nU cO cL cH cD cB uT uD uB dT dW) sz)) 0 0 (va_A (wX4 cyI cyZ ob nw aF aT aP aC aU cf aO aL aH aD aB uc aUT aUD aUB dr aDT aDW xS xT xA nN nA dFo dPa dLa nF nT nP nC nU cO cL cH cD cB uT uD uB dT dW) sz) := by
  refine q_ofWi (cc := cX4_cost) (maxL := 1) (rt := (some .int)) (by decide) rfl (Nat.le_of_ble_eq_true rfl) ?_
  intro p e s m args below meth c ls A Q H locs hQ hx hb hr hts hown hlocks hml hA hK hP hD hS hl
  have hl : lv_has ls 1 [(0, .ref ob)] := hl
  have k0 := hts (.fieldLink RX4 42 "ConvexConduit" "cheapest" "LConvexConduit$CheapestFlow;") (by decide +kernel)
  have k1 : ∀ w ∈ u_ws RX4 TX4 7, w ∈ wsX4_cost := by decide +kernel
  have k2 := hts (.fieldLink RX4 9 "ConvexConduit" "source" "I") (by decide +kernel)
  have k3 := hts (.fieldLink RX4 13 "ConvexConduit" "target" "I") (by decide +kernel)
  have k4 := hts (.fieldLink RX4 16 "ConvexConduit" "amount" "I") (by decide +kernel)
  unfold pX4_cost at h
  refine lv_aload_n hx hb dX4_cost_0 rfl (lv_at hl 0 rfl) ?_
  refine va_get (D := (dC, dI)) (ci := 4) (v := .ref cf) (C := RX4) (T := TX4) (N := 7) hx hb hts k1 hown hK hP 0 rfl rfl 1 (by decide) k0 (fun _ h9 => h9) rfl dX4_cost_1 ?_
  refine lv_aload_n hx hb dX4_cost_4 rfl (lv_at hl 0 rfl) ?_
  refine va_get (D := (dC, dI)) (ci := 4) (v := .int xS) (C := RX4) (T := TX4) (N := 7) hx hb hts k1 hown hK hP 0 rfl rfl 4 (by decide) k2 (fun _ h9 => h9) rfl dX4_cost_5 ?_
  refine lv_aload_n hx hb dX4_cost_8 rfl (lv_at hl 0 rfl) ?_
  refine va_get (D := (dC, dI)) (ci := 4) (v := .int xT) (C := RX4) (T := TX4) (N := 7) hx hb hts k1 hown hK hP 0 rfl rfl 5 (by decide) k3 (fun _ h9 => h9) rfl dX4_cost_9 ?_
  refine lv_aload_n hx hb dX4_cost_12 rfl (lv_at hl 0 rfl) ?_
  refine va_get (D := (dC, dI)) (ci := 4) (v := .int xA) (C := RX4) (T := TX4) (N := 7) hx hb hts k1 hown hK hP 0 rfl rfl 6 (by decide) k4 (fun _ h9 => h9) rfl dX4_cost_13 ?_
  obtain ⟨b1, cO_2, cL_3, cH_4, cD_5, cB_6, e9, h⟩ := bd6 h
  refine q_callVi (ret := b2i b1) (As := [.int xS, .int xT, .int xA]) (w1 := wX0 cyI cf nw aF aT aP aC aU aO aL aH aD aB nN nA nF nT nP nC nU cO_2 cL_3 cH_4 cD_5 cB_6) (ws2 := wX4 cyI cyZ ob nw aF aT aP aC aU cf aO aL aH aD aB uc aUT aUD aUB dr aDT aDW xS xT xA nN nA dFo dPa dLa nF nT nP nC nU cO_2 cL_3 cH_4 cD_5 cB_6 uT uD uB dT dW) ⟨hx, hb, hml, hown, hts⟩ (c_X0_meet l dC dI cyI cf nw aF aT aP aC aU aO aL aH aD aB H.size nN nA nF nT nP nC nU cO cL cH cD cB xS xT xA N _ e9) (cwV 3 hts gX4_cost_X0_meet rfl rfl rfl (by decide +kernel) ⟨Nat.le_of_ble_eq_true rfl, Nat.le_of_ble_eq_true rfl⟩) hK hP hD hS hA [7, 1, 2, 3, 4, 5, 6, 8, 9, 10, 11, 12] [0, 13, 14, 15, 16, 17, 18, 19] [0, 9, 10, 11, 12, 13, 14, 8, 15, 16, 17, 18, 19, 1, 2, 3, 4, 5, 6, 7] [0] rfl rfl rfl rfl (by decide) rfl rfl rfl 0 0 rfl rfl rfl hl.1 (Nat.le_of_ble_eq_true rfl) (Nat.le_of_ble_eq_true rfl) (Nat.le_of_ble_eq_true rfl) rfl dX4_cost_16 (fun H locs hP hD hS => ?_)
  refine lv_if_ne (tgt := 24) hx hb dX4_cost_19 (by decide) (fun c9 => ?_) (fun c9 => ?_)
  · have h := ineg c9 h
    refine lv_aload_n hx hb dX4_cost_24 rfl (lv_at hl 0 rfl) ?_
    refine va_get (D := (dC, dI)) (ci := 4) (v := .ref cf) (C := RX4) (T := TX4) (N := 7) hx hb hts k1 hown hK hP 0 rfl rfl 1 (by decide) k0 (fun _ h9 => h9) rfl dX4_cost_25 ?_
    obtain ⟨r7, e9, h⟩ := bd h
    refine q_callVi (ret := r7) (As := []) (w1 := wX0 cyI cf nw aF aT aP aC aU aO aL aH aD aB nN nA nF nT nP nC nU cO_2 cL_3 cH_4 cD_5 cB_6) (ws2 := wX4 cyI cyZ ob nw aF aT aP aC aU cf aO aL aH aD aB uc aUT aUD aUB dr aDT aDW xS xT xA nN nA dFo dPa dLa nF nT nP nC nU cO_2 cL_3 cH_4 cD_5 cB_6 uT uD uB dT dW) ⟨hx, hb, hml, hown, hts⟩ (c_X0_totalPrice l dC dI cyI cf nw aF aT aP aC aU aO aL aH aD aB H.size nN nA nF nT nP nC nU cO_2 cL_3 cH_4 cD_5 cB_6 N _ e9) (cwV 0 hts gX4_cost_X0_totalPrice rfl rfl rfl (by decide +kernel) ⟨Nat.le_of_ble_eq_true rfl, Nat.le_of_ble_eq_true rfl⟩) hK hP hD hS hA [7, 1, 2, 3, 4, 5, 6, 8, 9, 10, 11, 12] [0, 13, 14, 15, 16, 17, 18, 19] [0, 9, 10, 11, 12, 13, 14, 8, 15, 16, 17, 18, 19, 1, 2, 3, 4, 5, 6, 7] [0] rfl rfl rfl rfl (by decide) rfl rfl rfl 0 0 rfl rfl rfl hl.1 (Nat.le_of_ble_eq_true rfl) (Nat.le_of_ble_eq_true rfl) (Nat.le_of_ble_eq_true rfl) rfl dX4_cost_28 (fun H locs hP hD hS => ?_)
    cases h
    exact q_iret hQ hx hb hr hlocks hP hK hD hS dX4_cost_31
  · have h := ipos c9 h
    refine lv_iconst (v := -1) hx hb dX4_cost_22 (by decide) ?_
    cases h
    exact q_iret hQ hx hb hr hlocks hP hK hD hS dX4_cost_23
set_option maxHeartbeats 4000000 in
set_option maxRecDepth 100000 in
theorem c_X4_costByCircles (l : Launch) (dC : Nat → ClassId) (dI : Nat → Nat → Nat) (cyI cyZ : ClassId) (ob nw aF aT aP aC aU cf aO aL aH aD aB uc aUT aUD aUB dr aDT aDW : Nat) (sz : Nat) (xS xT xA nN nA dFo dPa dLa : Int32) (nF nT nP nC nU cO cL cH cD cB uT uD uB dT dW : Nat → Int32) (N : Nat) (res : Int32 × (Nat → Int32) × (Nat → Int32) × (Nat → Int32)) (h : pX4_costByCircles N xS xT xA nN nA nF nT nC nU uT uD uB = some res) : Met l yX4_costByCircles wsX4_costByCircles { frames := 5, cells := 0, slots := 0, locals := 120 } (va_Pc [.ref ob] (zPre (dC, dI) (wX4 cyI cyZ ob nw aF aT aP aC aU cf aO aL aH aD aB uc aUT aUD aUB dr aDT aDW xS xT xA nN nA dFo dPa dLa nF nT nP nC nU cO cL cH cD cB uT uD uB dT dW) [(cyI, .int), (cyZ, .boolean)] sz)) (zQi (dC, dI) (wX4 cyI cyZ ob nw aF aT aP aC aU cf aO aL aH aD aB uc aUT aUD aUB dr aDT aDW xS xT xA nN nA dFo dPa dLa nF nT nP nC nU cO cL cH cD cB res.2.1 res.2.2.1 res.2.2.2 dT dW) [(cyI, .int), (cyZ, .boolean)] (res.1) (va_A (wX4 cyI cyZ ob nw aF aT aP aC aU cf aO aL aH aD aB uc aUT aUD aUB dr aDT aDW xS xT xA nN nA dFo dPa dLa nF nT nP nC nU cO cL cH cD cB uT uD uB dT dW) sz)) 0 0 (va_A (wX4 cyI cyZ ob nw aF aT aP aC aU cf aO aL aH aD aB uc aUT aUD aUB dr aDT aDW xS xT xA nN nA dFo dPa dLa nF nT nP nC nU cO cL cH cD cB uT uD uB dT dW) sz) := by
  refine q_ofWi (cc := cX4_costByCircles) (maxL := 1) (rt := (some .int)) (by decide) rfl (Nat.le_of_ble_eq_true rfl) ?_
  intro p e s m args below meth c ls A Q H locs hQ hx hb hr hts hown hlocks hml hA hK hP hD hS hl
  have hl : lv_has ls 1 [(0, .ref ob)] := hl
  have k0 := hts (.fieldLink RX4 49 "ConvexConduit" "circles" "LConvexConduit$UnitCircles;") (by decide +kernel)
  have k1 : ∀ w ∈ u_ws RX4 TX4 7, w ∈ wsX4_costByCircles := by decide +kernel
  have k2 := hts (.fieldLink RX4 9 "ConvexConduit" "source" "I") (by decide +kernel)
  have k3 := hts (.fieldLink RX4 13 "ConvexConduit" "target" "I") (by decide +kernel)
  have k4 := hts (.fieldLink RX4 16 "ConvexConduit" "amount" "I") (by decide +kernel)
  unfold pX4_costByCircles at h
  refine lv_aload_n hx hb dX4_costByCircles_0 rfl (lv_at hl 0 rfl) ?_
  refine va_get (D := (dC, dI)) (ci := 4) (v := .ref uc) (C := RX4) (T := TX4) (N := 7) hx hb hts k1 hown hK hP 0 rfl rfl 2 (by decide) k0 (fun _ h9 => h9) rfl dX4_costByCircles_1 ?_
  refine lv_aload_n hx hb dX4_costByCircles_4 rfl (lv_at hl 0 rfl) ?_
  refine va_get (D := (dC, dI)) (ci := 4) (v := .int xS) (C := RX4) (T := TX4) (N := 7) hx hb hts k1 hown hK hP 0 rfl rfl 4 (by decide) k2 (fun _ h9 => h9) rfl dX4_costByCircles_5 ?_
  refine lv_aload_n hx hb dX4_costByCircles_8 rfl (lv_at hl 0 rfl) ?_
  refine va_get (D := (dC, dI)) (ci := 4) (v := .int xT) (C := RX4) (T := TX4) (N := 7) hx hb hts k1 hown hK hP 0 rfl rfl 5 (by decide) k3 (fun _ h9 => h9) rfl dX4_costByCircles_9 ?_
  refine lv_aload_n hx hb dX4_costByCircles_12 rfl (lv_at hl 0 rfl) ?_
  refine va_get (D := (dC, dI)) (ci := 4) (v := .int xA) (C := RX4) (T := TX4) (N := 7) hx hb hts k1 hown hK hP 0 rfl rfl 6 (by decide) k4 (fun _ h9 => h9) rfl dX4_costByCircles_13 ?_
  obtain ⟨r1, uT_2, uD_3, uB_4, e9, h⟩ := bd4 h
  refine q_callVi (ret := r1) (As := [.int xS, .int xT, .int xA]) (w1 := wX3 cyI cyZ uc nw aF aT aP aC aU aUT aUD aUB nN nA nF nT nP nC nU uT_2 uD_3 uB_4) (ws2 := wX4 cyI cyZ ob nw aF aT aP aC aU cf aO aL aH aD aB uc aUT aUD aUB dr aDT aDW xS xT xA nN nA dFo dPa dLa nF nT nP nC nU cO cL cH cD cB uT_2 uD_3 uB_4 dT dW) ⟨hx, hb, hml, hown, hts⟩ (c_X3_leastPrice l dC dI cyI cyZ uc nw aF aT aP aC aU aUT aUD aUB H.size nN nA nF nT nP nC nU uT uD uB xS xT xA N _ e9) (cwV 3 hts gX4_costByCircles_X3_leastPrice rfl rfl rfl (by decide +kernel) ⟨Nat.le_of_ble_eq_true rfl, Nat.le_of_ble_eq_true rfl⟩) hK hP hD hS hA [13, 1, 2, 3, 4, 5, 6, 14, 15, 16] [0, 7, 8, 9, 10, 11, 12, 17, 18, 19] [0, 11, 12, 13, 14, 15, 16, 1, 2, 3, 4, 5, 6, 10, 17, 18, 19, 7, 8, 9] [0, 1] rfl rfl rfl rfl (by decide) rfl rfl rfl 3 0 rfl rfl rfl hl.1 (Nat.le_of_ble_eq_true rfl) (Nat.le_of_ble_eq_true rfl) (Nat.le_of_ble_eq_true rfl) rfl dX4_costByCircles_16 (fun H locs hP hD hS => ?_)
  cases h
  exact q_iret hQ hx hb hr hlocks hP hK hD hS dX4_costByCircles_19
set_option maxHeartbeats 4000000 in
set_option maxRecDepth 100000 in
theorem c_X4_driven (l : Launch) (dC : Nat → ClassId) (dI : Nat → Nat → Nat) (cyI cyZ : ClassId) (ob nw aF aT aP aC aU cf aO aL aH aD aB uc aUT aUD aUB dr aDT aDW : Nat) (sz : Nat) (xS xT xA nN nA dFo dPa dLa : Int32) (nF nT nP nC nU cO cL cH cD cB uT uD uB dT dW : Nat → Int32) (N : Nat) (res : Int32 × Int32 × Int32 × Int32 × (Nat → Int32) × (Nat → Int32)) (h : pX4_driven N xS xT xA nN nA nF nT nC nU dT dW = some res) : Met l yX4_driven wsX4_driven { frames := 6, cells := 0, slots := 0, locals := 136 } (va_Pc [.ref ob] (zPre (dC, dI) (wX4 cyI cyZ ob nw aF aT aP aC aU cf aO aL aH aD aB uc aUT aUD aUB dr aDT aDW xS xT xA nN nA dFo dPa dLa nF nT nP nC nU cO cL cH cD cB uT uD uB dT dW) [(cyI, .int), (cyZ, .boolean)] sz)) (zQi (dC, dI) (wX4 cyI cyZ ob nw aF aT aP aC aU cf aO aL aH aD aB uc aUT aUD aUB dr aDT aDW xS xT xA nN nA res.2.1 res.2.2.1 res.2.2.2.1 nF nT nP nC nU cO cL cH cD cB uT uD uB res.2.2.2.2.1 res.2.2.2.2.2) [(cyI, .int), (cyZ, .boolean)] (res.1) (va_A (wX4 cyI cyZ ob nw aF aT aP aC aU cf aO aL aH aD aB uc aUT aUD aUB dr aDT aDW xS xT xA nN nA dFo dPa dLa nF nT nP nC nU cO cL cH cD cB uT uD uB dT dW) sz)) 0 0 (va_A (wX4 cyI cyZ ob nw aF aT aP aC aU cf aO aL aH aD aB uc aUT aUD aUB dr aDT aDW xS xT xA nN nA dFo dPa dLa nF nT nP nC nU cO cL cH cD cB uT uD uB dT dW) sz) := by
  refine q_ofWi (cc := cX4_driven) (maxL := 1) (rt := (some .int)) (by decide) rfl (Nat.le_of_ble_eq_true rfl) ?_
  intro p e s m args below meth c ls A Q H locs hQ hx hb hr hts hown hlocks hml hA hK hP hD hS hl
  have hl : lv_has ls 1 [(0, .ref ob)] := hl
  have k0 := hts (.fieldLink RX4 56 "ConvexConduit" "drivers" "LConvexConduit$Drivers;") (by decide +kernel)
  have k1 : ∀ w ∈ u_ws RX4 TX4 7, w ∈ wsX4_driven := by decide +kernel
  have k2 := hts (.fieldLink RX4 9 "ConvexConduit" "source" "I") (by decide +kernel)
  have k3 := hts (.fieldLink RX4 13 "ConvexConduit" "target" "I") (by decide +kernel)
  have k4 := hts (.fieldLink RX4 16 "ConvexConduit" "amount" "I") (by decide +kernel)
  have k5 := hts (.fieldLink RX4 137 "ConvexConduit$Drivers" "found" "I") (by decide +kernel)
  have k6 : ∀ w ∈ u_ws RX1 TX1 6, w ∈ wsX4_driven := by decide +kernel
  have k7 := hts (.fieldLink RX4 140 "ConvexConduit$Drivers" "paidByAll" "I") (by decide +kernel)
  unfold pX4_driven at h
  refine lv_aload_n hx hb dX4_driven_0 rfl (lv_at hl 0 rfl) ?_
  refine va_get (D := (dC, dI)) (ci := 4) (v := .ref dr) (C := RX4) (T := TX4) (N := 7) hx hb hts k1 hown hK hP 0 rfl rfl 3 (by decide) k0 (fun _ h9 => h9) rfl dX4_driven_1 ?_
  refine lv_aload_n hx hb dX4_driven_4 rfl (lv_at hl 0 rfl) ?_
  refine va_get (D := (dC, dI)) (ci := 4) (v := .int xS) (C := RX4) (T := TX4) (N := 7) hx hb hts k1 hown hK hP 0 rfl rfl 4 (by decide) k2 (fun _ h9 => h9) rfl dX4_driven_5 ?_
  refine lv_aload_n hx hb dX4_driven_8 rfl (lv_at hl 0 rfl) ?_
  refine va_get (D := (dC, dI)) (ci := 4) (v := .int xT) (C := RX4) (T := TX4) (N := 7) hx hb hts k1 hown hK hP 0 rfl rfl 5 (by decide) k3 (fun _ h9 => h9) rfl dX4_driven_9 ?_
  refine lv_aload_n hx hb dX4_driven_12 rfl (lv_at hl 0 rfl) ?_
  refine va_get (D := (dC, dI)) (ci := 4) (v := .int xA) (C := RX4) (T := TX4) (N := 7) hx hb hts k1 hown hK hP 0 rfl rfl 6 (by decide) k4 (fun _ h9 => h9) rfl dX4_driven_13 ?_
  obtain ⟨dFo_1, dPa_2, dLa_3, dT_4, dW_5, e9, h⟩ := bd5 h
  refine q_callVv (As := [.int xS, .int xT, .int xA]) (w1 := wX1 cyI dr nw aF aT aP aC aU aDT aDW dFo_1 dPa_2 dLa_3 nN nA nF nT nP nC nU dT_4 dW_5) (ws2 := wX4 cyI cyZ ob nw aF aT aP aC aU cf aO aL aH aD aB uc aUT aUD aUB dr aDT aDW xS xT xA nN nA dFo_1 dPa_2 dLa_3 nF nT nP nC nU cO cL cH cD cB uT uD uB dT_4 dW_5) ⟨hx, hb, hml, hown, hts⟩ (c_X1_comeOneByOne l dC dI cyI dr nw aF aT aP aC aU aDT aDW H.size dFo dPa dLa nN nA nF nT nP nC nU dT dW xS xT xA N _ e9) (cwV 3 hts gX4_driven_X1_comeOneByOne rfl rfl rfl (by decide +kernel) ⟨Nat.le_of_ble_eq_true rfl, Nat.le_of_ble_eq_true rfl⟩) hK hP hD hS hA [17, 1, 2, 3, 4, 5, 6, 18, 19] [0, 7, 8, 9, 10, 11, 12, 13, 14, 15, 16] [0, 12, 13, 14, 15, 16, 17, 1, 2, 3, 4, 5, 6, 7, 8, 9, 10, 11, 18, 19] [0] rfl rfl rfl rfl (by decide) rfl rfl rfl 1 0 rfl rfl rfl hl.1 (Nat.le_of_ble_eq_true rfl) (Nat.le_of_ble_eq_true rfl) (Nat.le_of_ble_eq_true rfl) rfl dX4_driven_16 (fun H locs hP hD hS => ?_)
  refine lv_aload_n hx hb dX4_driven_19 rfl (lv_at hl 0 rfl) ?_
  refine va_get (D := (dC, dI)) (ci := 4) (v := .ref dr) (C := RX4) (T := TX4) (N := 7) hx hb hts k1 hown hK hP 0 rfl rfl 3 (by decide) k0 (fun _ h9 => h9) rfl dX4_driven_20 ?_
  refine va_get (D := (dC, dI)) (ci := 1) (v := .int dFo_1) (C := RX1) (T := TX1) (N := 6) hx hb hts k6 hown hK hP 17 rfl rfl 3 (by decide) k5 (fun _ h9 => h9) rfl dX4_driven_23 ?_
  refine lv_aload_n hx hb dX4_driven_26 rfl (lv_at hl 0 rfl) ?_
  refine va_get (D := (dC, dI)) (ci := 4) (v := .int xA) (C := RX4) (T := TX4) (N := 7) hx hb hts k1 hown hK hP 0 rfl rfl 6 (by decide) k4 (fun _ h9 => h9) rfl dX4_driven_27 ?_
  refine lv_icmp_ge (tgt := 37) hx hb dX4_driven_30 (by decide) (fun c9 => ?_) (fun c9 => ?_)
  · have h := ipos c9 h
    refine lv_aload_n hx hb dX4_driven_37 rfl (lv_at hl 0 rfl) ?_
    refine va_get (D := (dC, dI)) (ci := 4) (v := .ref dr) (C := RX4) (T := TX4) (N := 7) hx hb hts k1 hown hK hP 0 rfl rfl 3 (by decide) k0 (fun _ h9 => h9) rfl dX4_driven_38 ?_
    refine va_get (D := (dC, dI)) (ci := 1) (v := .int dPa_2) (C := RX1) (T := TX1) (N := 6) hx hb hts k6 hown hK hP 17 rfl rfl 4 (by decide) k7 (fun _ h9 => h9) rfl dX4_driven_41 ?_
    cases h
    exact q_iret hQ hx hb hr hlocks hP hK hD hS dX4_driven_44
  · have h := ineg c9 h
    refine lv_iconst (v := -1) hx hb dX4_driven_33 (by decide) ?_
    refine lv_goto (tgt := 44) hx hb dX4_driven_34 (by decide) ?_
    cases h
    exact q_iret hQ hx hb hr hlocks hP hK hD hS dX4_driven_44
set_option maxHeartbeats 4000000 in
set_option maxRecDepth 100000 in
theorem c_X4_lastPaid (l : Launch) (dC : Nat → ClassId) (dI : Nat → Nat → Nat) (cyI cyZ : ClassId) (ob nw aF aT aP aC aU cf aO aL aH aD aB uc aUT aUD aUB dr aDT aDW : Nat) (sz : Nat) (xS xT xA nN nA dFo dPa dLa : Int32) (nF nT nP nC nU cO cL cH cD cB uT uD uB dT dW : Nat → Int32) (N : Nat) (res : Int32 × Int32 × Int32 × Int32 × (Nat → Int32) × (Nat → Int32)) (h : pX4_lastPaid N xS xT xA nN nA nF nT nC nU dT dW = some res) : Met l yX4_lastPaid wsX4_lastPaid { frames := 6, cells := 0, slots := 0, locals := 136 } (va_Pc [.ref ob] (zPre (dC, dI) (wX4 cyI cyZ ob nw aF aT aP aC aU cf aO aL aH aD aB uc aUT aUD aUB dr aDT aDW xS xT xA nN nA dFo dPa dLa nF nT nP nC nU cO cL cH cD cB uT uD uB dT dW) [(cyI, .int), (cyZ, .boolean)] sz)) (zQi (dC, dI) (wX4 cyI cyZ ob nw aF aT aP aC aU cf aO aL aH aD aB uc aUT aUD aUB dr aDT aDW xS xT xA nN nA res.2.1 res.2.2.1 res.2.2.2.1 nF nT nP nC nU cO cL cH cD cB uT uD uB res.2.2.2.2.1 res.2.2.2.2.2) [(cyI, .int), (cyZ, .boolean)] (res.1) (va_A (wX4 cyI cyZ ob nw aF aT aP aC aU cf aO aL aH aD aB uc aUT aUD aUB dr aDT aDW xS xT xA nN nA dFo dPa dLa nF nT nP nC nU cO cL cH cD cB uT uD uB dT dW) sz)) 0 0 (va_A (wX4 cyI cyZ ob nw aF aT aP aC aU cf aO aL aH aD aB uc aUT aUD aUB dr aDT aDW xS xT xA nN nA dFo dPa dLa nF nT nP nC nU cO cL cH cD cB uT uD uB dT dW) sz) := by
  refine q_ofWi (cc := cX4_lastPaid) (maxL := 1) (rt := (some .int)) (by decide) rfl (Nat.le_of_ble_eq_true rfl) ?_
  intro p e s m args below meth c ls A Q H locs hQ hx hb hr hts hown hlocks hml hA hK hP hD hS hl
  have hl : lv_has ls 1 [(0, .ref ob)] := hl
  have k0 := hts (.fieldLink RX4 56 "ConvexConduit" "drivers" "LConvexConduit$Drivers;") (by decide +kernel)
  have k1 : ∀ w ∈ u_ws RX4 TX4 7, w ∈ wsX4_lastPaid := by decide +kernel
  have k2 := hts (.fieldLink RX4 9 "ConvexConduit" "source" "I") (by decide +kernel)
  have k3 := hts (.fieldLink RX4 13 "ConvexConduit" "target" "I") (by decide +kernel)
  have k4 := hts (.fieldLink RX4 16 "ConvexConduit" "amount" "I") (by decide +kernel)
  have k5 := hts (.fieldLink RX4 146 "ConvexConduit$Drivers" "paidLast" "I") (by decide +kernel)
  have k6 : ∀ w ∈ u_ws RX1 TX1 6, w ∈ wsX4_lastPaid := by decide +kernel
  unfold pX4_lastPaid at h
  refine lv_aload_n hx hb dX4_lastPaid_0 rfl (lv_at hl 0 rfl) ?_
  refine va_get (D := (dC, dI)) (ci := 4) (v := .ref dr) (C := RX4) (T := TX4) (N := 7) hx hb hts k1 hown hK hP 0 rfl rfl 3 (by decide) k0 (fun _ h9 => h9) rfl dX4_lastPaid_1 ?_
  refine lv_aload_n hx hb dX4_lastPaid_4 rfl (lv_at hl 0 rfl) ?_
  refine va_get (D := (dC, dI)) (ci := 4) (v := .int xS) (C := RX4) (T := TX4) (N := 7) hx hb hts k1 hown hK hP 0 rfl rfl 4 (by decide) k2 (fun _ h9 => h9) rfl dX4_lastPaid_5 ?_
  refine lv_aload_n hx hb dX4_lastPaid_8 rfl (lv_at hl 0 rfl) ?_
  refine va_get (D := (dC, dI)) (ci := 4) (v := .int xT) (C := RX4) (T := TX4) (N := 7) hx hb hts k1 hown hK hP 0 rfl rfl 5 (by decide) k3 (fun _ h9 => h9) rfl dX4_lastPaid_9 ?_
  refine lv_aload_n hx hb dX4_lastPaid_12 rfl (lv_at hl 0 rfl) ?_
  refine va_get (D := (dC, dI)) (ci := 4) (v := .int xA) (C := RX4) (T := TX4) (N := 7) hx hb hts k1 hown hK hP 0 rfl rfl 6 (by decide) k4 (fun _ h9 => h9) rfl dX4_lastPaid_13 ?_
  obtain ⟨dFo_1, dPa_2, dLa_3, dT_4, dW_5, e9, h⟩ := bd5 h
  refine q_callVv (As := [.int xS, .int xT, .int xA]) (w1 := wX1 cyI dr nw aF aT aP aC aU aDT aDW dFo_1 dPa_2 dLa_3 nN nA nF nT nP nC nU dT_4 dW_5) (ws2 := wX4 cyI cyZ ob nw aF aT aP aC aU cf aO aL aH aD aB uc aUT aUD aUB dr aDT aDW xS xT xA nN nA dFo_1 dPa_2 dLa_3 nF nT nP nC nU cO cL cH cD cB uT uD uB dT_4 dW_5) ⟨hx, hb, hml, hown, hts⟩ (c_X1_comeOneByOne l dC dI cyI dr nw aF aT aP aC aU aDT aDW H.size dFo dPa dLa nN nA nF nT nP nC nU dT dW xS xT xA N _ e9) (cwV 3 hts gX4_lastPaid_X1_comeOneByOne rfl rfl rfl (by decide +kernel) ⟨Nat.le_of_ble_eq_true rfl, Nat.le_of_ble_eq_true rfl⟩) hK hP hD hS hA [17, 1, 2, 3, 4, 5, 6, 18, 19] [0, 7, 8, 9, 10, 11, 12, 13, 14, 15, 16] [0, 12, 13, 14, 15, 16, 17, 1, 2, 3, 4, 5, 6, 7, 8, 9, 10, 11, 18, 19] [0] rfl rfl rfl rfl (by decide) rfl rfl rfl 1 0 rfl rfl rfl hl.1 (Nat.le_of_ble_eq_true rfl) (Nat.le_of_ble_eq_true rfl) (Nat.le_of_ble_eq_true rfl) rfl dX4_lastPaid_16 (fun H locs hP hD hS => ?_)
  refine lv_aload_n hx hb dX4_lastPaid_19 rfl (lv_at hl 0 rfl) ?_
  refine va_get (D := (dC, dI)) (ci := 4) (v := .ref dr) (C := RX4) (T := TX4) (N := 7) hx hb hts k1 hown hK hP 0 rfl rfl 3 (by decide) k0 (fun _ h9 => h9) rfl dX4_lastPaid_20 ?_
  refine va_get (D := (dC, dI)) (ci := 1) (v := .int dLa_3) (C := RX1) (T := TX1) (N := 6) hx hb hts k6 hown hK hP 17 rfl rfl 5 (by decide) k5 (fun _ h9 => h9) rfl dX4_lastPaid_23 ?_
  cases h
  exact q_iret hQ hx hb hr hlocks hP hK hD hS dX4_lastPaid_26
set_option maxHeartbeats 4000000 in
set_option maxRecDepth 100000 in
theorem c_X4_arc (l : Launch) (dC : Nat → ClassId) (dI : Nat → Nat → Nat) (cyI cyZ : ClassId) (ob nw aF aT aP aC aU cf aO aL aH aD aB uc aUT aUD aUB dr aDT aDW : Nat) (sz : Nat) (xS xT xA nN nA dFo dPa dLa : Int32) (nF nT nP nC nU cO cL cH cD cB uT uD uB dT dW : Nat → Int32) (p0 p1 p2 p3 : Int32) (N : Nat) (res : Int32 × Int32 × (Nat → Int32) × (Nat → Int32) × (Nat → Int32) × (Nat → Int32) × (Nat → Int32)) (h : pX4_arc N nN nA nF nT nP nC nU p0 p1 p2 p3 = some (.inr res)) : Met l yX4_arc wsX4_arc { frames := 2, cells := 0, slots := 0, locals := 49 } (va_Pc [.ref ob, .int p0, .int p1, .int p2, .int p3] (zPre (dC, dI) (wX4 cyI cyZ ob nw aF aT aP aC aU cf aO aL aH aD aB uc aUT aUD aUB dr aDT aDW xS xT xA nN nA dFo dPa dLa nF nT nP nC nU cO cL cH cD cB uT uD uB dT dW) [(cyI, .int), (cyZ, .boolean)] sz)) (zQi (dC, dI) (wX4 cyI cyZ ob nw aF aT aP aC aU cf aO aL aH aD aB uc aUT aUD aUB dr aDT aDW xS xT xA nN res.2.1 dFo dPa dLa res.2.2.1 res.2.2.2.1 res.2.2.2.2.1 res.2.2.2.2.2.1 res.2.2.2.2.2.2 cO cL cH cD cB uT uD uB dT dW) [(cyI, .int), (cyZ, .boolean)] (res.1) (va_A (wX4 cyI cyZ ob nw aF aT aP aC aU cf aO aL aH aD aB uc aUT aUD aUB dr aDT aDW xS xT xA nN nA dFo dPa dLa nF nT nP nC nU cO cL cH cD cB uT uD uB dT dW) sz)) 0 0 (va_A (wX4 cyI cyZ ob nw aF aT aP aC aU cf aO aL aH aD aB uc aUT aUD aUB dr aDT aDW xS xT xA nN nA dFo dPa dLa nF nT nP nC nU cO cL cH cD cB uT uD uB dT dW) sz) := by
  refine q_ofWi (cc := cX4_arc) (maxL := 5) (rt := (some .int)) (by decide) rfl (Nat.le_of_ble_eq_true rfl) ?_
  intro p e s m args below meth c ls A Q H locs hQ hx hb hr hts hown hlocks hml hA hK hP hD hS hl
  have hl : lv_has ls 5 [(0, .ref ob), (1, .int p0), (2, .int p1), (3, .int p2), (4, .int p3)] := hl
  have k0 := hts (.classLink RX4 67 (zEx 2)) (by decide +kernel)
  have k1 := hts (.initialized (zEx 2)) (by decide +kernel)
  have k2 : ∀ w ∈ (vx_at0 RX4 69 (zEx 2) zNm).filter goodWord, w.before args s = true := fun w hw => hts w ((show ∀ w ∈ (vx_at0 RX4 69 (zEx 2) zNm).filter goodWord, w ∈ wsX4_arc by decide +kernel) w hw)
  have k3 := hts (.fieldLink RX4 33 "ConvexConduit" "network" "LConvexConduit$Network;") (by decide +kernel)
  have k4 : ∀ w ∈ u_ws RX4 TX4 7, w ∈ wsX4_arc := by decide +kernel
  have k5 := hts (.fieldLink RX4 70 "ConvexConduit$Network" "arcs" "I") (by decide +kernel)
  have k6 : ∀ w ∈ u_ws RX2 TX2 7, w ∈ wsX4_arc := by decide +kernel
  have k7 := hts (.classLink RX4 73 (zEx 3)) (by decide +kernel)
  have k8 := hts (.initialized (zEx 3)) (by decide +kernel)
  have k9 : ∀ w ∈ (vx_at0 RX4 75 (zEx 3) zNm).filter goodWord, w.before args s = true := fun w hw => hts w ((show ∀ w ∈ (vx_at0 RX4 75 (zEx 3) zNm).filter goodWord, w ∈ wsX4_arc by decide +kernel) w hw)
  unfold pX4_arc at h
  refine lv_aload_n hx hb dX4_arc_0 rfl (lv_at hl 0 rfl) ?_
  refine lv_iload_n hx hb dX4_arc_1 rfl (lv_at hl 1 rfl) ?_
  obtain ⟨_, e9, h⟩ := bdxr h
  refine q_callVv (As := [.int p0]) (w1 := wX4 cyI cyZ ob nw aF aT aP aC aU cf aO aL aH aD aB uc aUT aUD aUB dr aDT aDW xS xT xA nN nA dFo dPa dLa nF nT nP nC nU cO cL cH cD cB uT uD uB dT dW) (ws2 := wX4 cyI cyZ ob nw aF aT aP aC aU cf aO aL aH aD aB uc aUT aUD aUB dr aDT aDW xS xT xA nN nA dFo dPa dLa nF nT nP nC nU cO cL cH cD cB uT uD uB dT dW) ⟨hx, hb, hml, hown, hts⟩ (c_X4_refuseOtherThanNode l dC dI cyI cyZ ob nw aF aT aP aC aU cf aO aL aH aD aB uc aUT aUD aUB dr aDT aDW H.size xS xT xA nN nA dFo dPa dLa nF nT nP nC nU cO cL cH cD cB uT uD uB dT dW p0 _ e9) (cwV 1 hts gX4_arc_X4_refuseOtherThanNode rfl rfl rfl (by decide +kernel) ⟨Nat.le_of_ble_eq_true rfl, Nat.le_of_ble_eq_true rfl⟩) hK hP hD hS hA [0, 1, 2, 3, 4, 5, 6, 7, 8, 9, 10, 11, 12, 13, 14, 15, 16, 17, 18, 19] [] [0, 1, 2, 3, 4, 5, 6, 7, 8, 9, 10, 11, 12, 13, 14, 15, 16, 17, 18, 19] [0, 1] rfl rfl rfl rfl (by decide) rfl rfl rfl 4 0 rfl rfl rfl hl.1 (Nat.le_of_ble_eq_true rfl) (Nat.le_of_ble_eq_true rfl) (Nat.le_of_ble_eq_true rfl) rfl dX4_arc_2 (fun H locs hP hD hS => ?_)
  refine lv_aload_n hx hb dX4_arc_5 rfl (lv_at hl 0 rfl) ?_
  refine lv_iload_n hx hb dX4_arc_6 rfl (lv_at hl 2 rfl) ?_
  obtain ⟨_, e9, h⟩ := bdxr h
  refine q_callVv (As := [.int p1]) (w1 := wX4 cyI cyZ ob nw aF aT aP aC aU cf aO aL aH aD aB uc aUT aUD aUB dr aDT aDW xS xT xA nN nA dFo dPa dLa nF nT nP nC nU cO cL cH cD cB uT uD uB dT dW) (ws2 := wX4 cyI cyZ ob nw aF aT aP aC aU cf aO aL aH aD aB uc aUT aUD aUB dr aDT aDW xS xT xA nN nA dFo dPa dLa nF nT nP nC nU cO cL cH cD cB uT uD uB dT dW) ⟨hx, hb, hml, hown, hts⟩ (c_X4_refuseOtherThanNode l dC dI cyI cyZ ob nw aF aT aP aC aU cf aO aL aH aD aB uc aUT aUD aUB dr aDT aDW H.size xS xT xA nN nA dFo dPa dLa nF nT nP nC nU cO cL cH cD cB uT uD uB dT dW p1 _ e9) (cwV 1 hts gX4_arc_X4_refuseOtherThanNode rfl rfl rfl (by decide +kernel) ⟨Nat.le_of_ble_eq_true rfl, Nat.le_of_ble_eq_true rfl⟩) hK hP hD hS hA [0, 1, 2, 3, 4, 5, 6, 7, 8, 9, 10, 11, 12, 13, 14, 15, 16, 17, 18, 19] [] [0, 1, 2, 3, 4, 5, 6, 7, 8, 9, 10, 11, 12, 13, 14, 15, 16, 17, 18, 19] [0, 1] rfl rfl rfl rfl (by decide) rfl rfl rfl 4 0 rfl rfl rfl hl.1 (Nat.le_of_ble_eq_true rfl) (Nat.le_of_ble_eq_true rfl) (Nat.le_of_ble_eq_true rfl) rfl dX4_arc_7 (fun H locs hP hD hS => ?_)
  refine lv_iload_n hx hb dX4_arc_10 rfl (lv_at hl 1 rfl) ?_
  refine lv_iload_n hx hb dX4_arc_11 rfl (lv_at hl 2 rfl) ?_
  refine lv_icmp_eq (tgt := 34) hx hb dX4_arc_12 (by decide) (fun c9 => ?_) (fun c9 => ?_)
  · have h := ipos c9 h
    cases h
  · have h := ineg c9 h
    refine lv_iload_n hx hb dX4_arc_15 rfl (lv_at hl 3 rfl) ?_
    obtain ⟨b1, e9, h⟩ := bd h
    refine q_callSi (ret := b2i b1) (As := [.int p2]) ⟨hx, hb, hml, hown, hts⟩ (c_X4_isNoWidth l dC dI H.size p2 _ e9) (va_cwS 1 hts gX4_arc_X4_isNoWidth rfl rfl rfl (by decide +kernel) ⟨Nat.le_of_ble_eq_true rfl, Nat.le_of_ble_eq_true rfl⟩) hK hP hD hS hA [0, 1, 2, 3, 4, 5, 6, 7, 8, 9, 10, 11, 12, 13, 14, 15, 16, 17, 18, 19] rfl rfl rfl hl.1 (Nat.le_of_ble_eq_true rfl) (Nat.le_of_ble_eq_true rfl) (Nat.le_of_ble_eq_true rfl) rfl dX4_arc_16 (fun H locs hP hD hS => ?_)
    refine lv_if_ne (tgt := 34) hx hb dX4_arc_19 (by decide) (fun c9 => ?_) (fun c9 => ?_)
    · have h := ineg c9 h
      cases h
    · have h := ipos c9 h
      refine lv_iload hx hb dX4_arc_22 (lv_at hl 4 rfl) ?_
      refine lv_if_lt (tgt := 34) hx hb dX4_arc_24 (by decide) (fun c9 => ?_) (fun c9 => ?_)
      · have h := ipos c9 h
        cases h
      · have h := ineg c9 h
        refine lv_iload hx hb dX4_arc_27 (lv_at hl 4 rfl) ?_
        refine lv_bipush (v := 99) hx hb dX4_arc_29 (by decide) ?_
        refine lv_icmp_le (tgt := 42) hx hb dX4_arc_31 (by decide) (fun c9 => ?_) (fun c9 => ?_)
        · have h := ipos c9 h
          refine lv_aload_n hx hb dX4_arc_42 rfl (lv_at hl 0 rfl) ?_
          refine va_get (D := (dC, dI)) (ci := 4) (v := .ref nw) (C := RX4) (T := TX4) (N := 7) hx hb hts k4 hown hK hP 0 rfl rfl 0 (by decide) k3 (fun _ h9 => h9) rfl dX4_arc_43 ?_
          refine va_get (D := (dC, dI)) (ci := 2) (v := .int nA) (C := RX2) (T := TX2) (N := 7) hx hb hts k6 hown hK hP 1 rfl rfl 1 (by decide) k5 (fun _ h9 => h9) rfl dX4_arc_46 ?_
          refine lv_bipush (v := 12) hx hb dX4_arc_49 (by decide) ?_
          refine lv_icmp_lt (tgt := 62) hx hb dX4_arc_51 (by decide) (fun c9 => ?_) (fun c9 => ?_)
          · have h := ipos c9 h
            have h := rgtr h
            refine lv_aload_n hx hb dX4_arc_62 rfl (lv_at hl 0 rfl) ?_
            refine va_get (D := (dC, dI)) (ci := 4) (v := .ref nw) (C := RX4) (T := TX4) (N := 7) hx hb hts k4 hown hK hP 0 rfl rfl 0 (by decide) k3 (fun _ h9 => h9) rfl dX4_arc_63 ?_
            refine lv_iload_n hx hb dX4_arc_66 rfl (lv_at hl 1 rfl) ?_
            refine lv_iload_n hx hb dX4_arc_67 rfl (lv_at hl 2 rfl) ?_
            refine lv_iload_n hx hb dX4_arc_68 rfl (lv_at hl 3 rfl) ?_
            refine lv_iload hx hb dX4_arc_69 (lv_at hl 4 rfl) ?_
            obtain ⟨r2, nA_3, nF_4, nT_5, nP_6, nC_7, nU_8, e9, h⟩ := bd7 h
            refine q_callVi (ret := r2) (As := [.int p0, .int p1, .int p2, .int p3]) (w1 := wX2 cyI nw aF aT aP aC aU nN nA_3 nF_4 nT_5 nP_6 nC_7 nU_8) (ws2 := wX4 cyI cyZ ob nw aF aT aP aC aU cf aO aL aH aD aB uc aUT aUD aUB dr aDT aDW xS xT xA nN nA_3 dFo dPa dLa nF_4 nT_5 nP_6 nC_7 nU_8 cO cL cH cD cB uT uD uB dT dW) ⟨hx, hb, hml, hown, hts⟩ (c_X2_addArc l dC dI cyI nw aF aT aP aC aU H.size nN nA nF nT nP nC nU p0 p1 p2 p3 N _ e9) (cwV 4 hts gX4_arc_X2_addArc rfl rfl rfl (by decide +kernel) ⟨Nat.le_of_ble_eq_true rfl, Nat.le_of_ble_eq_true rfl⟩) hK hP hD hS hA [1, 2, 3, 4, 5, 6] [0, 7, 8, 9, 10, 11, 12, 13, 14, 15, 16, 17, 18, 19] [0, 14, 15, 16, 17, 18, 19, 1, 2, 3, 4, 5, 6, 7, 8, 9, 10, 11, 12, 13] [0] rfl rfl rfl rfl (by decide) rfl rfl rfl 2 0 rfl rfl rfl hl.1 (Nat.le_of_ble_eq_true rfl) (Nat.le_of_ble_eq_true rfl) (Nat.le_of_ble_eq_true rfl) rfl dX4_arc_71 (fun H locs hP hD hS => ?_)
            cases h
            exact q_iret hQ hx hb hr hlocks hP hK hD hS dX4_arc_74
          · have h := ineg c9 h
            cases h
        · have h := ineg c9 h
          cases h
set_option maxHeartbeats 4000000 in
set_option maxRecDepth 100000 in
theorem cx_X4_arc (l : Launch) (hfl : l.stackTraces = false) (dC : Nat → ClassId) (dI : Nat → Nat → Nat) (cyI cyZ : ClassId) (ob nw aF aT aP aC aU cf aO aL aH aD aB uc aUT aUD aUB dr aDT aDW : Nat) (sz : Nat) (xS xT xA nN nA dFo dPa dLa : Int32) (nF nT nP nC nU cO cL cH cD cB uT uD uB dT dW : Nat → Int32) (p0 p1 p2 p3 : Int32) (N : Nat) (k : Nat) (h : pX4_arc N nN nA nF nT nP nC nU p0 p1 p2 p3 = some (.inl k)) : vx_Met l yX4_arc wsX4_arc { frames := 7, cells := 1, slots := 6, locals := 102 } (va_Pc [.ref ob, .int p0, .int p1, .int p2, .int p3] (zPreX (dC, dI) (wX4 cyI cyZ ob nw aF aT aP aC aU cf aO aL aH aD aB uc aUT aUD aUB dr aDT aDW xS xT xA nN nA dFo dPa dLa nF nT nP nC nU cO cL cH cD cB uT uD uB dT dW) [(cyI, .int), (cyZ, .boolean)] sz)) (zNi (va_A (wX4 cyI cyZ ob nw aF aT aP aC aU cf aO aL aH aD aB uc aUT aUD aUB dr aDT aDW xS xT xA nN nA dFo dPa dLa nF nT nP nC nU cO cL cH cD cB uT uD uB dT dW) sz)) (zX (dC, dI) (wX4 cyI cyZ ob nw aF aT aP aC aU cf aO aL aH aD aB uc aUT aUD aUB dr aDT aDW xS xT xA nN nA dFo dPa dLa nF nT nP nC nU cO cL cH cD cB uT uD uB dT dW) [(cyI, .int), (cyZ, .boolean)] k (va_A (wX4 cyI cyZ ob nw aF aT aP aC aU cf aO aL aH aD aB uc aUT aUD aUB dr aDT aDW xS xT xA nN nA dFo dPa dLa nF nT nP nC nU cO cL cH cD cB uT uD uB dT dW) sz)) 1 6 (va_A (wX4 cyI cyZ ob nw aF aT aP aC aU cf aO aL aH aD aB uc aUT aUD aUB dr aDT aDW xS xT xA nN nA dFo dPa dLa nF nT nP nC nU cO cL cH cD cB uT uD uB dT dW) sz) := by
  refine q_ofXt (cc := cX4_arc) (maxL := 5) (rt := (some .int)) (by decide) rfl (Nat.le_of_ble_eq_true rfl) ?_
  intro p e s m args below meth c ls A Q H locs hQ hx hb hr hts hown hlocks hml hA hK hP hD hS hl hout hXc
  have hl : lv_has ls 5 [(0, .ref ob), (1, .int p0), (2, .int p1), (3, .int p2), (4, .int p3)] := hl
  have k0 := hts (.classLink RX4 67 (zEx 2)) (by decide +kernel)
  have k1 := hts (.initialized (zEx 2)) (by decide +kernel)
  have k2 : ∀ w ∈ (vx_at0 RX4 69 (zEx 2) zNm).filter goodWord, w.before args s = true := fun w hw => hts w ((show ∀ w ∈ (vx_at0 RX4 69 (zEx 2) zNm).filter goodWord, w ∈ wsX4_arc by decide +kernel) w hw)
  have k3 := hts (.fieldLink RX4 33 "ConvexConduit" "network" "LConvexConduit$Network;") (by decide +kernel)
  have k4 : ∀ w ∈ u_ws RX4 TX4 7, w ∈ wsX4_arc := by decide +kernel
  have k5 := hts (.fieldLink RX4 70 "ConvexConduit$Network" "arcs" "I") (by decide +kernel)
  have k6 : ∀ w ∈ u_ws RX2 TX2 7, w ∈ wsX4_arc := by decide +kernel
  have k7 := hts (.classLink RX4 73 (zEx 3)) (by decide +kernel)
  have k8 := hts (.initialized (zEx 3)) (by decide +kernel)
  have k9 : ∀ w ∈ (vx_at0 RX4 75 (zEx 3) zNm).filter goodWord, w.before args s = true := fun w hw => hts w ((show ∀ w ∈ (vx_at0 RX4 75 (zEx 3) zNm).filter goodWord, w ∈ wsX4_arc by decide +kernel) w hw)
  unfold pX4_arc at h
  refine lv_aload_n hx hb dX4_arc_0 rfl (lv_at hl 0 rfl) ?_
  refine lv_iload_n hx hb dX4_arc_1 rfl (lv_at hl 1 rfl) ?_
  rcases bdxl h with e9 | ⟨_, e9, h⟩
  · exact q_callXv (As := [.int p0]) hQ ⟨hx, hb, hml, hown, hts⟩ hlocks (cx_X4_refuseOtherThanNode l hfl dC dI cyI cyZ ob nw aF aT aP aC aU cf aO aL aH aD aB uc aUT aUD aUB dr aDT aDW H.size xS xT xA nN nA dFo dPa dLa nF nT nP nC nU cO cL cH cD cB uT uD uB dT dW p0 _ e9) (cwV 1 hts gX4_arc_X4_refuseOtherThanNode rfl rfl rfl (by decide +kernel) ⟨Nat.le_of_ble_eq_true rfl, Nat.le_of_ble_eq_true rfl⟩) hXc hout hK hP hD hS hA [0, 1, 2, 3, 4, 5, 6, 7, 8, 9, 10, 11, 12, 13, 14, 15, 16, 17, 18, 19] rfl 4 0 rfl rfl rfl hl.1 (Nat.le_of_ble_eq_true rfl) (Nat.le_of_ble_eq_true rfl) (Nat.le_of_ble_eq_true rfl) (Nat.le_of_ble_eq_true rfl) (Nat.le_of_ble_eq_true rfl) rfl dX4_arc_2
  · refine q_callVv (As := [.int p0]) (w1 := wX4 cyI cyZ ob nw aF aT aP aC aU cf aO aL aH aD aB uc aUT aUD aUB dr aDT aDW xS xT xA nN nA dFo dPa dLa nF nT nP nC nU cO cL cH cD cB uT uD uB dT dW) (ws2 := wX4 cyI cyZ ob nw aF aT aP aC aU cf aO aL aH aD aB uc aUT aUD aUB dr aDT aDW xS xT xA nN nA dFo dPa dLa nF nT nP nC nU cO cL cH cD cB uT uD uB dT dW) ⟨hx, hb, hml, hown, hts⟩ (c_X4_refuseOtherThanNode l dC dI cyI cyZ ob nw aF aT aP aC aU cf aO aL aH aD aB uc aUT aUD aUB dr aDT aDW H.size xS xT xA nN nA dFo dPa dLa nF nT nP nC nU cO cL cH cD cB uT uD uB dT dW p0 _ e9) (cwV 1 hts gX4_arc_X4_refuseOtherThanNode rfl rfl rfl (by decide +kernel) ⟨Nat.le_of_ble_eq_true rfl, Nat.le_of_ble_eq_true rfl⟩) hK hP hD hS hA [0, 1, 2, 3, 4, 5, 6, 7, 8, 9, 10, 11, 12, 13, 14, 15, 16, 17, 18, 19] [] [0, 1, 2, 3, 4, 5, 6, 7, 8, 9, 10, 11, 12, 13, 14, 15, 16, 17, 18, 19] [0, 1] rfl rfl rfl rfl (by decide) rfl rfl rfl 4 0 rfl rfl rfl hl.1 (Nat.le_of_ble_eq_true rfl) (Nat.le_of_ble_eq_true rfl) (Nat.le_of_ble_eq_true rfl) rfl dX4_arc_2 (fun H locs hP hD hS => ?_)
    refine lv_aload_n hx hb dX4_arc_5 rfl (lv_at hl 0 rfl) ?_
    refine lv_iload_n hx hb dX4_arc_6 rfl (lv_at hl 2 rfl) ?_
    rcases bdxl h with e9 | ⟨_, e9, h⟩
    · exact q_callXv (As := [.int p1]) hQ ⟨hx, hb, hml, hown, hts⟩ hlocks (cx_X4_refuseOtherThanNode l hfl dC dI cyI cyZ ob nw aF aT aP aC aU cf aO aL aH aD aB uc aUT aUD aUB dr aDT aDW H.size xS xT xA nN nA dFo dPa dLa nF nT nP nC nU cO cL cH cD cB uT uD uB dT dW p1 _ e9) (cwV 1 hts gX4_arc_X4_refuseOtherThanNode rfl rfl rfl (by decide +kernel) ⟨Nat.le_of_ble_eq_true rfl, Nat.le_of_ble_eq_true rfl⟩) hXc hout hK hP hD hS hA [0, 1, 2, 3, 4, 5, 6, 7, 8, 9, 10, 11, 12, 13, 14, 15, 16, 17, 18, 19] rfl 4 0 rfl rfl rfl hl.1 (Nat.le_of_ble_eq_true rfl) (Nat.le_of_ble_eq_true rfl) (Nat.le_of_ble_eq_true rfl) (Nat.le_of_ble_eq_true rfl) (Nat.le_of_ble_eq_true rfl) rfl dX4_arc_7
    · refine q_callVv (As := [.int p1]) (w1 := wX4 cyI cyZ ob nw aF aT aP aC aU cf aO aL aH aD aB uc aUT aUD aUB dr aDT aDW xS xT xA nN nA dFo dPa dLa nF nT nP nC nU cO cL cH cD cB uT uD uB dT dW) (ws2 := wX4 cyI cyZ ob nw aF aT aP aC aU cf aO aL aH aD aB uc aUT aUD aUB dr aDT aDW xS xT xA nN nA dFo dPa dLa nF nT nP nC nU cO cL cH cD cB uT uD uB dT dW) ⟨hx, hb, hml, hown, hts⟩ (c_X4_refuseOtherThanNode l dC dI cyI cyZ ob nw aF aT aP aC aU cf aO aL aH aD aB uc aUT aUD aUB dr aDT aDW H.size xS xT xA nN nA dFo dPa dLa nF nT nP nC nU cO cL cH cD cB uT uD uB dT dW p1 _ e9) (cwV 1 hts gX4_arc_X4_refuseOtherThanNode rfl rfl rfl (by decide +kernel) ⟨Nat.le_of_ble_eq_true rfl, Nat.le_of_ble_eq_true rfl⟩) hK hP hD hS hA [0, 1, 2, 3, 4, 5, 6, 7, 8, 9, 10, 11, 12, 13, 14, 15, 16, 17, 18, 19] [] [0, 1, 2, 3, 4, 5, 6, 7, 8, 9, 10, 11, 12, 13, 14, 15, 16, 17, 18, 19] [0, 1] rfl rfl rfl rfl (by decide) rfl rfl rfl 4 0 rfl rfl rfl hl.1 (Nat.le_of_ble_eq_true rfl) (Nat.le_of_ble_eq_true rfl) (Nat.le_of_ble_eq_true rfl) rfl dX4_arc_7 (fun H locs hP hD hS => ?_)
      refine lv_iload_n hx hb dX4_arc_10 rfl (lv_at hl 1 rfl) ?_
      refine lv_iload_n hx hb dX4_arc_11 rfl (lv_at hl 2 rfl) ?_
      refine lv_icmp_eq (tgt := 34) hx hb dX4_arc_12 (by decide) (fun c9 => ?_) (fun c9 => ?_)
      · have h := ipos c9 h
        cases h
        exact q_throw hQ hx hb hfl hlocks hown (by decide +kernel) k0 k1 k2 (by decide +kernel) (by decide +kernel) hXc hout hK hP hD hS (hl.1.trans hml.symm) (Nat.le_of_ble_eq_true rfl) (Nat.le_of_ble_eq_true rfl) (Nat.le_of_ble_eq_true rfl) (Nat.le_of_ble_eq_true rfl) (Nat.le_of_ble_eq_true rfl) (Nat.le_of_ble_eq_true rfl) dX4_arc_34 dX4_arc_37 dX4_arc_38 dX4_arc_41
      · have h := ineg c9 h
        refine lv_iload_n hx hb dX4_arc_15 rfl (lv_at hl 3 rfl) ?_
        obtain ⟨b1, e9, h⟩ := bd h
        refine q_callSi (ret := b2i b1) (As := [.int p2]) ⟨hx, hb, hml, hown, hts⟩ (c_X4_isNoWidth l dC dI H.size p2 _ e9) (va_cwS 1 hts gX4_arc_X4_isNoWidth rfl rfl rfl (by decide +kernel) ⟨Nat.le_of_ble_eq_true rfl, Nat.le_of_ble_eq_true rfl⟩) hK hP hD hS hA [0, 1, 2, 3, 4, 5, 6, 7, 8, 9, 10, 11, 12, 13, 14, 15, 16, 17, 18, 19] rfl rfl rfl hl.1 (Nat.le_of_ble_eq_true rfl) (Nat.le_of_ble_eq_true rfl) (Nat.le_of_ble_eq_true rfl) rfl dX4_arc_16 (fun H locs hP hD hS => ?_)
        refine lv_if_ne (tgt := 34) hx hb dX4_arc_19 (by decide) (fun c9 => ?_) (fun c9 => ?_)
        · have h := ineg c9 h
          cases h
          exact q_throw hQ hx hb hfl hlocks hown (by decide +kernel) k0 k1 k2 (by decide +kernel) (by decide +kernel) hXc hout hK hP hD hS (hl.1.trans hml.symm) (Nat.le_of_ble_eq_true rfl) (Nat.le_of_ble_eq_true rfl) (Nat.le_of_ble_eq_true rfl) (Nat.le_of_ble_eq_true rfl) (Nat.le_of_ble_eq_true rfl) (Nat.le_of_ble_eq_true rfl) dX4_arc_34 dX4_arc_37 dX4_arc_38 dX4_arc_41
        · have h := ipos c9 h
          refine lv_iload hx hb dX4_arc_22 (lv_at hl 4 rfl) ?_
          refine lv_if_lt (tgt := 34) hx hb dX4_arc_24 (by decide) (fun c9 => ?_) (fun c9 => ?_)
          · have h := ipos c9 h
            cases h
            exact q_throw hQ hx hb hfl hlocks hown (by decide +kernel) k0 k1 k2 (by decide +kernel) (by decide +kernel) hXc hout hK hP hD hS (hl.1.trans hml.symm) (Nat.le_of_ble_eq_true rfl) (Nat.le_of_ble_eq_true rfl) (Nat.le_of_ble_eq_true rfl) (Nat.le_of_ble_eq_true rfl) (Nat.le_of_ble_eq_true rfl) (Nat.le_of_ble_eq_true rfl) dX4_arc_34 dX4_arc_37 dX4_arc_38 dX4_arc_41
          · have h := ineg c9 h
            refine lv_iload hx hb dX4_arc_27 (lv_at hl 4 rfl) ?_
            refine lv_bipush (v := 99) hx hb dX4_arc_29 (by decide) ?_
            refine lv_icmp_le (tgt := 42) hx hb dX4_arc_31 (by decide) (fun c9 => ?_) (fun c9 => ?_)
            · have h := ipos c9 h
              refine lv_aload_n hx hb dX4_arc_42 rfl (lv_at hl 0 rfl) ?_
              refine va_get (D := (dC, dI)) (ci := 4) (v := .ref nw) (C := RX4) (T := TX4) (N := 7) hx hb hts k4 hown hK hP 0 rfl rfl 0 (by decide) k3 (fun _ h9 => h9) rfl dX4_arc_43 ?_
              refine va_get (D := (dC, dI)) (ci := 2) (v := .int nA) (C := RX2) (T := TX2) (N := 7) hx hb hts k6 hown hK hP 1 rfl rfl 1 (by decide) k5 (fun _ h9 => h9) rfl dX4_arc_46 ?_
              refine lv_bipush (v := 12) hx hb dX4_arc_49 (by decide) ?_
              refine lv_icmp_lt (tgt := 62) hx hb dX4_arc_51 (by decide) (fun c9 => ?_) (fun c9 => ?_)
              · have h := ipos c9 h
                exact rgtl h
              · have h := ineg c9 h
                cases h
                exact q_throw hQ hx hb hfl hlocks hown (by decide +kernel) k7 k8 k9 (by decide +kernel) (by decide +kernel) hXc hout hK hP hD hS (hl.1.trans hml.symm) (Nat.le_of_ble_eq_true rfl) (Nat.le_of_ble_eq_true rfl) (Nat.le_of_ble_eq_true rfl) (Nat.le_of_ble_eq_true rfl) (Nat.le_of_ble_eq_true rfl) (Nat.le_of_ble_eq_true rfl) dX4_arc_54 dX4_arc_57 dX4_arc_58 dX4_arc_61
            · have h := ineg c9 h
              cases h
              exact q_throw hQ hx hb hfl hlocks hown (by decide +kernel) k0 k1 k2 (by decide +kernel) (by decide +kernel) hXc hout hK hP hD hS (hl.1.trans hml.symm) (Nat.le_of_ble_eq_true rfl) (Nat.le_of_ble_eq_true rfl) (Nat.le_of_ble_eq_true rfl) (Nat.le_of_ble_eq_true rfl) (Nat.le_of_ble_eq_true rfl) (Nat.le_of_ble_eq_true rfl) dX4_arc_34 dX4_arc_37 dX4_arc_38 dX4_arc_41
set_option maxHeartbeats 4000000 in
set_option maxRecDepth 100000 in
theorem c_X4_piece (l : Launch) (dC : Nat → ClassId) (dI : Nat → Nat → Nat) (cyI cyZ : ClassId) (ob nw aF aT aP aC aU cf aO aL aH aD aB uc aUT aUD aUB dr aDT aDW : Nat) (sz : Nat) (xS xT xA nN nA dFo dPa dLa : Int32) (nF nT nP nC nU cO cL cH cD cB uT uD uB dT dW : Nat → Int32) (p0 p1 p2 : Int32) (N : Nat) (res : Int32 × (Nat → Int32) × (Nat → Int32) × (Nat → Int32)) (h : pX4_piece N nA nP nC nU p0 p1 p2 = some (.inr res)) : Met l yX4_piece wsX4_piece { frames := 2, cells := 0, slots := 0, locals := 43 } (va_Pc [.ref ob, .int p0, .int p1, .int p2] (zPre (dC, dI) (wX4 cyI cyZ ob nw aF aT aP aC aU cf aO aL aH aD aB uc aUT aUD aUB dr aDT aDW xS xT xA nN nA dFo dPa dLa nF nT nP nC nU cO cL cH cD cB uT uD uB dT dW) [(cyI, .int), (cyZ, .boolean)] sz)) (zQi (dC, dI) (wX4 cyI cyZ ob nw aF aT aP aC aU cf aO aL aH aD aB uc aUT aUD aUB dr aDT aDW xS xT xA nN nA dFo dPa dLa nF nT res.2.1 res.2.2.1 res.2.2.2 cO cL cH cD cB uT uD uB dT dW) [(cyI, .int), (cyZ, .boolean)] (res.1) (va_A (wX4 cyI cyZ ob nw aF aT aP aC aU cf aO aL aH aD aB uc aUT aUD aUB dr aDT aDW xS xT xA nN nA dFo dPa dLa nF nT nP nC nU cO cL cH cD cB uT uD uB dT dW) sz)) 0 0 (va_A (wX4 cyI cyZ ob nw aF aT aP aC aU cf aO aL aH aD aB uc aUT aUD aUB dr aDT aDW xS xT xA nN nA dFo dPa dLa nF nT nP nC nU cO cL cH cD cB uT uD uB dT dW) sz) := by
  refine q_ofWi (cc := cX4_piece) (maxL := 4) (rt := (some .int)) (by decide) rfl (Nat.le_of_ble_eq_true rfl) ?_
  intro p e s m args below meth c ls A Q H locs hQ hx hb hr hts hown hlocks hml hA hK hP hD hS hl
  have hl : lv_has ls 4 [(0, .ref ob), (1, .int p0), (2, .int p1), (3, .int p2)] := hl
  have k0 := hts (.classLink RX4 67 (zEx 2)) (by decide +kernel)
  have k1 := hts (.initialized (zEx 2)) (by decide +kernel)
  have k2 : ∀ w ∈ (vx_at0 RX4 69 (zEx 2) zNm).filter goodWord, w.before args s = true := fun w hw => hts w ((show ∀ w ∈ (vx_at0 RX4 69 (zEx 2) zNm).filter goodWord, w ∈ wsX4_piece by decide +kernel) w hw)
  have k3 := hts (.fieldLink RX4 33 "ConvexConduit" "network" "LConvexConduit$Network;") (by decide +kernel)
  have k4 : ∀ w ∈ u_ws RX4 TX4 7, w ∈ wsX4_piece := by decide +kernel
  have k5 := hts (.fieldLink RX4 87 "ConvexConduit$Network" "pieces" "[I") (by decide +kernel)
  have k6 : ∀ w ∈ u_ws RX2 TX2 7, w ∈ wsX4_piece := by decide +kernel
  have k7 := hts (.fieldLink RX4 95 "ConvexConduit$Network" "capacity" "[I") (by decide +kernel)
  have k8 := hts (.classLink RX4 73 (zEx 3)) (by decide +kernel)
  have k9 := hts (.initialized (zEx 3)) (by decide +kernel)
  have k10 : ∀ w ∈ (vx_at0 RX4 75 (zEx 3) zNm).filter goodWord, w.before args s = true := fun w hw => hts w ((show ∀ w ∈ (vx_at0 RX4 75 (zEx 3) zNm).filter goodWord, w ∈ wsX4_piece by decide +kernel) w hw)
  unfold pX4_piece at h
  refine lv_aload_n hx hb dX4_piece_0 rfl (lv_at hl 0 rfl) ?_
  refine lv_iload_n hx hb dX4_piece_1 rfl (lv_at hl 1 rfl) ?_
  obtain ⟨_, e9, h⟩ := bdxr h
  refine q_callVv (As := [.int p0]) (w1 := wX4 cyI cyZ ob nw aF aT aP aC aU cf aO aL aH aD aB uc aUT aUD aUB dr aDT aDW xS xT xA nN nA dFo dPa dLa nF nT nP nC nU cO cL cH cD cB uT uD uB dT dW) (ws2 := wX4 cyI cyZ ob nw aF aT aP aC aU cf aO aL aH aD aB uc aUT aUD aUB dr aDT aDW xS xT xA nN nA dFo dPa dLa nF nT nP nC nU cO cL cH cD cB uT uD uB dT dW) ⟨hx, hb, hml, hown, hts⟩ (c_X4_refuseOtherThanArc l dC dI cyI cyZ ob nw aF aT aP aC aU cf aO aL aH aD aB uc aUT aUD aUB dr aDT aDW H.size xS xT xA nN nA dFo dPa dLa nF nT nP nC nU cO cL cH cD cB uT uD uB dT dW p0 _ e9) (cwV 1 hts gX4_piece_X4_refuseOtherThanArc rfl rfl rfl (by decide +kernel) ⟨Nat.le_of_ble_eq_true rfl, Nat.le_of_ble_eq_true rfl⟩) hK hP hD hS hA [0, 1, 2, 3, 4, 5, 6, 7, 8, 9, 10, 11, 12, 13, 14, 15, 16, 17, 18, 19] [] [0, 1, 2, 3, 4, 5, 6, 7, 8, 9, 10, 11, 12, 13, 14, 15, 16, 17, 18, 19] [0, 1] rfl rfl rfl rfl (by decide) rfl rfl rfl 4 0 rfl rfl rfl hl.1 (Nat.le_of_ble_eq_true rfl) (Nat.le_of_ble_eq_true rfl) (Nat.le_of_ble_eq_true rfl) rfl dX4_piece_2 (fun H locs hP hD hS => ?_)
  refine lv_iload_n hx hb dX4_piece_5 rfl (lv_at hl 2 rfl) ?_
  obtain ⟨b1, e9, h⟩ := bd h
  refine q_callSi (ret := b2i b1) (As := [.int p1]) ⟨hx, hb, hml, hown, hts⟩ (c_X4_isNoWidth l dC dI H.size p1 _ e9) (va_cwS 1 hts gX4_piece_X4_isNoWidth rfl rfl rfl (by decide +kernel) ⟨Nat.le_of_ble_eq_true rfl, Nat.le_of_ble_eq_true rfl⟩) hK hP hD hS hA [0, 1, 2, 3, 4, 5, 6, 7, 8, 9, 10, 11, 12, 13, 14, 15, 16, 17, 18, 19] rfl rfl rfl hl.1 (Nat.le_of_ble_eq_true rfl) (Nat.le_of_ble_eq_true rfl) (Nat.le_of_ble_eq_true rfl) rfl dX4_piece_6 (fun H locs hP hD hS => ?_)
  refine lv_if_ne (tgt := 30) hx hb dX4_piece_9 (by decide) (fun c9 => ?_) (fun c9 => ?_)
  · have h := ineg c9 h
    cases h
  · have h := ipos c9 h
    refine lv_iload_n hx hb dX4_piece_12 rfl (lv_at hl 3 rfl) ?_
    refine lv_aload_n hx hb dX4_piece_13 rfl (lv_at hl 0 rfl) ?_
    refine va_get (D := (dC, dI)) (ci := 4) (v := .ref nw) (C := RX4) (T := TX4) (N := 7) hx hb hts k4 hown hK hP 0 rfl rfl 0 (by decide) k3 (fun _ h9 => h9) rfl dX4_piece_14 ?_
    refine lv_iload_n hx hb dX4_piece_17 rfl (lv_at hl 1 rfl) ?_
    obtain ⟨r2, e9, h⟩ := bd h
    refine q_callVi (ret := r2) (As := [.int p0]) (w1 := wX2 cyI nw aF aT aP aC aU nN nA nF nT nP nC nU) (ws2 := wX4 cyI cyZ ob nw aF aT aP aC aU cf aO aL aH aD aB uc aUT aUD aUB dr aDT aDW xS xT xA nN nA dFo dPa dLa nF nT nP nC nU cO cL cH cD cB uT uD uB dT dW) ⟨hx, hb, hml, hown, hts⟩ (c_X2_lastPrice l dC dI cyI nw aF aT aP aC aU H.size nN nA nF nT nP nC nU p0 _ e9) (cwV 1 hts gX4_piece_X2_lastPrice rfl rfl rfl (by decide +kernel) ⟨Nat.le_of_ble_eq_true rfl, Nat.le_of_ble_eq_true rfl⟩) hK hP hD hS hA [1, 2, 3, 4, 5, 6] [0, 7, 8, 9, 10, 11, 12, 13, 14, 15, 16, 17, 18, 19] [0, 14, 15, 16, 17, 18, 19, 1, 2, 3, 4, 5, 6, 7, 8, 9, 10, 11, 12, 13] [0] rfl rfl rfl rfl (by decide) rfl rfl rfl 2 0 rfl rfl rfl hl.1 (Nat.le_of_ble_eq_true rfl) (Nat.le_of_ble_eq_true rfl) (Nat.le_of_ble_eq_true rfl) rfl dX4_piece_18 (fun H locs hP hD hS => ?_)
    refine lv_icmp_lt (tgt := 30) hx hb dX4_piece_21 (by decide) (fun c9 => ?_) (fun c9 => ?_)
    · have h := ipos c9 h
      cases h
    · have h := ineg c9 h
      refine lv_iload_n hx hb dX4_piece_24 rfl (lv_at hl 3 rfl) ?_
      refine lv_bipush (v := 99) hx hb dX4_piece_25 (by decide) ?_
      refine lv_icmp_le (tgt := 38) hx hb dX4_piece_27 (by decide) (fun c9 => ?_) (fun c9 => ?_)
      · have h := ipos c9 h
        refine lv_aload_n hx hb dX4_piece_38 rfl (lv_at hl 0 rfl) ?_
        refine va_get (D := (dC, dI)) (ci := 4) (v := .ref nw) (C := RX4) (T := TX4) (N := 7) hx hb hts k4 hown hK hP 0 rfl rfl 0 (by decide) k3 (fun _ h9 => h9) rfl dX4_piece_39 ?_
        refine va_get (D := (dC, dI)) (ci := 2) (v := .ref aP) (C := RX2) (T := TX2) (N := 7) hx hb hts k6 hown hK hP 1 rfl rfl 4 (by decide) k5 (fun _ h9 => h9) rfl dX4_piece_42 ?_
        refine lv_iload_n hx hb dX4_piece_45 rfl (lv_at hl 1 rfl) ?_
        obtain ⟨t3, e9, h⟩ := bd h
        refine q_iald hx hb hK hP 4 0 rfl rfl e9 dX4_piece_46 ?_
        refine lv_iconst (v := 3) hx hb dX4_piece_47 (by decide) ?_
        refine lv_icmp_lt (tgt := 59) hx hb dX4_piece_48 (by decide) (fun c9 => ?_) (fun c9 => ?_)
        · have h := ipos c9 h
          have h := rgtr h
          refine lv_aload_n hx hb dX4_piece_59 rfl (lv_at hl 0 rfl) ?_
          refine va_get (D := (dC, dI)) (ci := 4) (v := .ref nw) (C := RX4) (T := TX4) (N := 7) hx hb hts k4 hown hK hP 0 rfl rfl 0 (by decide) k3 (fun _ h9 => h9) rfl dX4_piece_60 ?_
          refine lv_iload_n hx hb dX4_piece_63 rfl (lv_at hl 1 rfl) ?_
          refine lv_iload_n hx hb dX4_piece_64 rfl (lv_at hl 2 rfl) ?_
          refine lv_iload_n hx hb dX4_piece_65 rfl (lv_at hl 3 rfl) ?_
          obtain ⟨nP_4, nC_5, nU_6, e9, h⟩ := bd3 h
          refine q_callVv (As := [.int p0, .int p1, .int p2]) (w1 := wX2 cyI nw aF aT aP aC aU nN nA nF nT nP_4 nC_5 nU_6) (ws2 := wX4 cyI cyZ ob nw aF aT aP aC aU cf aO aL aH aD aB uc aUT aUD aUB dr aDT aDW xS xT xA nN nA dFo dPa dLa nF nT nP_4 nC_5 nU_6 cO cL cH cD cB uT uD uB dT dW) ⟨hx, hb, hml, hown, hts⟩ (c_X2_addPiece l dC dI cyI nw aF aT aP aC aU H.size nN nA nF nT nP nC nU p0 p1 p2 N _ e9) (cwV 3 hts gX4_piece_X2_addPiece rfl rfl rfl (by decide +kernel) ⟨Nat.le_of_ble_eq_true rfl, Nat.le_of_ble_eq_true rfl⟩) hK hP hD hS hA [1, 2, 3, 4, 5, 6] [0, 7, 8, 9, 10, 11, 12, 13, 14, 15, 16, 17, 18, 19] [0, 14, 15, 16, 17, 18, 19, 1, 2, 3, 4, 5, 6, 7, 8, 9, 10, 11, 12, 13] [0] rfl rfl rfl rfl (by decide) rfl rfl rfl 2 0 rfl rfl rfl hl.1 (Nat.le_of_ble_eq_true rfl) (Nat.le_of_ble_eq_true rfl) (Nat.le_of_ble_eq_true rfl) rfl dX4_piece_66 (fun H locs hP hD hS => ?_)
          refine lv_aload_n hx hb dX4_piece_69 rfl (lv_at hl 0 rfl) ?_
          refine va_get (D := (dC, dI)) (ci := 4) (v := .ref nw) (C := RX4) (T := TX4) (N := 7) hx hb hts k4 hown hK hP 0 rfl rfl 0 (by decide) k3 (fun _ h9 => h9) rfl dX4_piece_70 ?_
          refine va_get (D := (dC, dI)) (ci := 2) (v := .ref aC) (C := RX2) (T := TX2) (N := 7) hx hb hts k6 hown hK hP 1 rfl rfl 5 (by decide) k7 (fun _ h9 => h9) rfl dX4_piece_73 ?_
          refine lv_iload_n hx hb dX4_piece_76 rfl (lv_at hl 1 rfl) ?_
          obtain ⟨t7, e9, h⟩ := bd h
          refine q_iald hx hb hK hP 5 0 rfl rfl e9 dX4_piece_77 ?_
          cases h
          exact q_iret hQ hx hb hr hlocks hP hK hD hS dX4_piece_78
        · have h := ineg c9 h
          cases h
      · have h := ineg c9 h
        cases h
set_option maxHeartbeats 4000000 in
set_option maxRecDepth 100000 in
theorem cx_X4_piece (l : Launch) (hfl : l.stackTraces = false) (dC : Nat → ClassId) (dI : Nat → Nat → Nat) (cyI cyZ : ClassId) (ob nw aF aT aP aC aU cf aO aL aH aD aB uc aUT aUD aUB dr aDT aDW : Nat) (sz : Nat) (xS xT xA nN nA dFo dPa dLa : Int32) (nF nT nP nC nU cO cL cH cD cB uT uD uB dT dW : Nat → Int32) (p0 p1 p2 : Int32) (N : Nat) (k : Nat) (h : pX4_piece N nA nP nC nU p0 p1 p2 = some (.inl k)) : vx_Met l yX4_piece wsX4_piece { frames := 7, cells := 1, slots := 6, locals := 102 } (va_Pc [.ref ob, .int p0, .int p1, .int p2] (zPreX (dC, dI) (wX4 cyI cyZ ob nw aF aT aP aC aU cf aO aL aH aD aB uc aUT aUD aUB dr aDT aDW xS xT xA nN nA dFo dPa dLa nF nT nP nC nU cO cL cH cD cB uT uD uB dT dW) [(cyI, .int), (cyZ, .boolean)] sz)) (zNi (va_A (wX4 cyI cyZ ob nw aF aT aP aC aU cf aO aL aH aD aB uc aUT aUD aUB dr aDT aDW xS xT xA nN nA dFo dPa dLa nF nT nP nC nU cO cL cH cD cB uT uD uB dT dW) sz)) (zX (dC, dI) (wX4 cyI cyZ ob nw aF aT aP aC aU cf aO aL aH aD aB uc aUT aUD aUB dr aDT aDW xS xT xA nN nA dFo dPa dLa nF nT nP nC nU cO cL cH cD cB uT uD uB dT dW) [(cyI, .int), (cyZ, .boolean)] k (va_A (wX4 cyI cyZ ob nw aF aT aP aC aU cf aO aL aH aD aB uc aUT aUD aUB dr aDT aDW xS xT xA nN nA dFo dPa dLa nF nT nP nC nU cO cL cH cD cB uT uD uB dT dW) sz)) 1 6 (va_A (wX4 cyI cyZ ob nw aF aT aP aC aU cf aO aL aH aD aB uc aUT aUD aUB dr aDT aDW xS xT xA nN nA dFo dPa dLa nF nT nP nC nU cO cL cH cD cB uT uD uB dT dW) sz) := by
  refine q_ofXt (cc := cX4_piece) (maxL := 4) (rt := (some .int)) (by decide) rfl (Nat.le_of_ble_eq_true rfl) ?_
  intro p e s m args below meth c ls A Q H locs hQ hx hb hr hts hown hlocks hml hA hK hP hD hS hl hout hXc
  have hl : lv_has ls 4 [(0, .ref ob), (1, .int p0), (2, .int p1), (3, .int p2)] := hl
  have k0 := hts (.classLink RX4 67 (zEx 2)) (by decide +kernel)
  have k1 := hts (.initialized (zEx 2)) (by decide +kernel)
  have k2 : ∀ w ∈ (vx_at0 RX4 69 (zEx 2) zNm).filter goodWord, w.before args s = true := fun w hw => hts w ((show ∀ w ∈ (vx_at0 RX4 69 (zEx 2) zNm).filter goodWord, w ∈ wsX4_piece by decide +kernel) w hw)
  have k3 := hts (.fieldLink RX4 33 "ConvexConduit" "network" "LConvexConduit$Network;") (by decide +kernel)
  have k4 : ∀ w ∈ u_ws RX4 TX4 7, w ∈ wsX4_piece := by decide +kernel
  have k5 := hts (.fieldLink RX4 87 "ConvexConduit$Network" "pieces" "[I") (by decide +kernel)
  have k6 : ∀ w ∈ u_ws RX2 TX2 7, w ∈ wsX4_piece := by decide +kernel
  have k7 := hts (.fieldLink RX4 95 "ConvexConduit$Network" "capacity" "[I") (by decide +kernel)
  have k8 := hts (.classLink RX4 73 (zEx 3)) (by decide +kernel)
  have k9 := hts (.initialized (zEx 3)) (by decide +kernel)
  have k10 : ∀ w ∈ (vx_at0 RX4 75 (zEx 3) zNm).filter goodWord, w.before args s = true := fun w hw => hts w ((show ∀ w ∈ (vx_at0 RX4 75 (zEx 3) zNm).filter goodWord, w ∈ wsX4_piece by decide +kernel) w hw)
  unfold pX4_piece at h
  refine lv_aload_n hx hb dX4_piece_0 rfl (lv_at hl 0 rfl) ?_
  refine lv_iload_n hx hb dX4_piece_1 rfl (lv_at hl 1 rfl) ?_
  rcases bdxl h with e9 | ⟨_, e9, h⟩
  · exact q_callXv (As := [.int p0]) hQ ⟨hx, hb, hml, hown, hts⟩ hlocks (cx_X4_refuseOtherThanArc l hfl dC dI cyI cyZ ob nw aF aT aP aC aU cf aO aL aH aD aB uc aUT aUD aUB dr aDT aDW H.size xS xT xA nN nA dFo dPa dLa nF nT nP nC nU cO cL cH cD cB uT uD uB dT dW p0 _ e9) (cwV 1 hts gX4_piece_X4_refuseOtherThanArc rfl rfl rfl (by decide +kernel) ⟨Nat.le_of_ble_eq_true rfl, Nat.le_of_ble_eq_true rfl⟩) hXc hout hK hP hD hS hA [0, 1, 2, 3, 4, 5, 6, 7, 8, 9, 10, 11, 12, 13, 14, 15, 16, 17, 18, 19] rfl 4 0 rfl rfl rfl hl.1 (Nat.le_of_ble_eq_true rfl) (Nat.le_of_ble_eq_true rfl) (Nat.le_of_ble_eq_true rfl) (Nat.le_of_ble_eq_true rfl) (Nat.le_of_ble_eq_true rfl) rfl dX4_piece_2
  · refine q_callVv (As := [.int p0]) (w1 := wX4 cyI cyZ ob nw aF aT aP aC aU cf aO aL aH aD aB uc aUT aUD aUB dr aDT aDW xS xT xA nN nA dFo dPa dLa nF nT nP nC nU cO cL cH cD cB uT uD uB dT dW) (ws2 := wX4 cyI cyZ ob nw aF aT aP aC aU cf aO aL aH aD aB uc aUT aUD aUB dr aDT aDW xS xT xA nN nA dFo dPa dLa nF nT nP nC nU cO cL cH cD cB uT uD uB dT dW) ⟨hx, hb, hml, hown, hts⟩ (c_X4_refuseOtherThanArc l dC dI cyI cyZ ob nw aF aT aP aC aU cf aO aL aH aD aB uc aUT aUD aUB dr aDT aDW H.size xS xT xA nN nA dFo dPa dLa nF nT nP nC nU cO cL cH cD cB uT uD uB dT dW p0 _ e9) (cwV 1 hts gX4_piece_X4_refuseOtherThanArc rfl rfl rfl (by decide +kernel) ⟨Nat.le_of_ble_eq_true rfl, Nat.le_of_ble_eq_true rfl⟩) hK hP hD hS hA [0, 1, 2, 3, 4, 5, 6, 7, 8, 9, 10, 11, 12, 13, 14, 15, 16, 17, 18, 19] [] [0, 1, 2, 3, 4, 5, 6, 7, 8, 9, 10, 11, 12, 13, 14, 15, 16, 17, 18, 19] [0, 1] rfl rfl rfl rfl (by decide) rfl rfl rfl 4 0 rfl rfl rfl hl.1 (Nat.le_of_ble_eq_true rfl) (Nat.le_of_ble_eq_true rfl) (Nat.le_of_ble_eq_true rfl) rfl dX4_piece_2 (fun H locs hP hD hS => ?_)
    refine lv_iload_n hx hb dX4_piece_5 rfl (lv_at hl 2 rfl) ?_
    obtain ⟨b1, e9, h⟩ := bd h
    refine q_callSi (ret := b2i b1) (As := [.int p1]) ⟨hx, hb, hml, hown, hts⟩ (c_X4_isNoWidth l dC dI H.size p1 _ e9) (va_cwS 1 hts gX4_piece_X4_isNoWidth rfl rfl rfl (by decide +kernel) ⟨Nat.le_of_ble_eq_true rfl, Nat.le_of_ble_eq_true rfl⟩) hK hP hD hS hA [0, 1, 2, 3, 4, 5, 6, 7, 8, 9, 10, 11, 12, 13, 14, 15, 16, 17, 18, 19] rfl rfl rfl hl.1 (Nat.le_of_ble_eq_true rfl) (Nat.le_of_ble_eq_true rfl) (Nat.le_of_ble_eq_true rfl) rfl dX4_piece_6 (fun H locs hP hD hS => ?_)
    refine lv_if_ne (tgt := 30) hx hb dX4_piece_9 (by decide) (fun c9 => ?_) (fun c9 => ?_)
    · have h := ineg c9 h
      cases h
      exact q_throw hQ hx hb hfl hlocks hown (by decide +kernel) k0 k1 k2 (by decide +kernel) (by decide +kernel) hXc hout hK hP hD hS (hl.1.trans hml.symm) (Nat.le_of_ble_eq_true rfl) (Nat.le_of_ble_eq_true rfl) (Nat.le_of_ble_eq_true rfl) (Nat.le_of_ble_eq_true rfl) (Nat.le_of_ble_eq_true rfl) (Nat.le_of_ble_eq_true rfl) dX4_piece_30 dX4_piece_33 dX4_piece_34 dX4_piece_37
    · have h := ipos c9 h
      refine lv_iload_n hx hb dX4_piece_12 rfl (lv_at hl 3 rfl) ?_
      refine lv_aload_n hx hb dX4_piece_13 rfl (lv_at hl 0 rfl) ?_
      refine va_get (D := (dC, dI)) (ci := 4) (v := .ref nw) (C := RX4) (T := TX4) (N := 7) hx hb hts k4 hown hK hP 0 rfl rfl 0 (by decide) k3 (fun _ h9 => h9) rfl dX4_piece_14 ?_
      refine lv_iload_n hx hb dX4_piece_17 rfl (lv_at hl 1 rfl) ?_
      obtain ⟨r2, e9, h⟩ := bd h
      refine q_callVi (ret := r2) (As := [.int p0]) (w1 := wX2 cyI nw aF aT aP aC aU nN nA nF nT nP nC nU) (ws2 := wX4 cyI cyZ ob nw aF aT aP aC aU cf aO aL aH aD aB uc aUT aUD aUB dr aDT aDW xS xT xA nN nA dFo dPa dLa nF nT nP nC nU cO cL cH cD cB uT uD uB dT dW) ⟨hx, hb, hml, hown, hts⟩ (c_X2_lastPrice l dC dI cyI nw aF aT aP aC aU H.size nN nA nF nT nP nC nU p0 _ e9) (cwV 1 hts gX4_piece_X2_lastPrice rfl rfl rfl (by decide +kernel) ⟨Nat.le_of_ble_eq_true rfl, Nat.le_of_ble_eq_true rfl⟩) hK hP hD hS hA [1, 2, 3, 4, 5, 6] [0, 7, 8, 9, 10, 11, 12, 13, 14, 15, 16, 17, 18, 19] [0, 14, 15, 16, 17, 18, 19, 1, 2, 3, 4, 5, 6, 7, 8, 9, 10, 11, 12, 13] [0] rfl rfl rfl rfl (by decide) rfl rfl rfl 2 0 rfl rfl rfl hl.1 (Nat.le_of_ble_eq_true rfl) (Nat.le_of_ble_eq_true rfl) (Nat.le_of_ble_eq_true rfl) rfl dX4_piece_18 (fun H locs hP hD hS => ?_)
      refine lv_icmp_lt (tgt := 30) hx hb dX4_piece_21 (by decide) (fun c9 => ?_) (fun c9 => ?_)
      · have h := ipos c9 h
        cases h
        exact q_throw hQ hx hb hfl hlocks hown (by decide +kernel) k0 k1 k2 (by decide +kernel) (by decide +kernel) hXc hout hK hP hD hS (hl.1.trans hml.symm) (Nat.le_of_ble_eq_true rfl) (Nat.le_of_ble_eq_true rfl) (Nat.le_of_ble_eq_true rfl) (Nat.le_of_ble_eq_true rfl) (Nat.le_of_ble_eq_true rfl) (Nat.le_of_ble_eq_true rfl) dX4_piece_30 dX4_piece_33 dX4_piece_34 dX4_piece_37
      · have h := ineg c9 h
        refine lv_iload_n hx hb dX4_piece_24 rfl (lv_at hl 3 rfl) ?_
        refine lv_bipush (v := 99) hx hb dX4_piece_25 (by decide) ?_
        refine lv_icmp_le (tgt := 38) hx hb dX4_piece_27 (by decide) (fun c9 => ?_) (fun c9 => ?_)
        · have h := ipos c9 h
          refine lv_aload_n hx hb dX4_piece_38 rfl (lv_at hl 0 rfl) ?_
          refine va_get (D := (dC, dI)) (ci := 4) (v := .ref nw) (C := RX4) (T := TX4) (N := 7) hx hb hts k4 hown hK hP 0 rfl rfl 0 (by decide) k3 (fun _ h9 => h9) rfl dX4_piece_39 ?_
          refine va_get (D := (dC, dI)) (ci := 2) (v := .ref aP) (C := RX2) (T := TX2) (N := 7) hx hb hts k6 hown hK hP 1 rfl rfl 4 (by decide) k5 (fun _ h9 => h9) rfl dX4_piece_42 ?_
          refine lv_iload_n hx hb dX4_piece_45 rfl (lv_at hl 1 rfl) ?_
          obtain ⟨t3, e9, h⟩ := bd h
          refine q_iald hx hb hK hP 4 0 rfl rfl e9 dX4_piece_46 ?_
          refine lv_iconst (v := 3) hx hb dX4_piece_47 (by decide) ?_
          refine lv_icmp_lt (tgt := 59) hx hb dX4_piece_48 (by decide) (fun c9 => ?_) (fun c9 => ?_)
          · have h := ipos c9 h
            exact rgtl h
          · have h := ineg c9 h
            cases h
            exact q_throw hQ hx hb hfl hlocks hown (by decide +kernel) k8 k9 k10 (by decide +kernel) (by decide +kernel) hXc hout hK hP hD hS (hl.1.trans hml.symm) (Nat.le_of_ble_eq_true rfl) (Nat.le_of_ble_eq_true rfl) (Nat.le_of_ble_eq_true rfl) (Nat.le_of_ble_eq_true rfl) (Nat.le_of_ble_eq_true rfl) (Nat.le_of_ble_eq_true rfl) dX4_piece_51 dX4_piece_54 dX4_piece_55 dX4_piece_58
        · have h := ineg c9 h
          cases h
          exact q_throw hQ hx hb hfl hlocks hown (by decide +kernel) k0 k1 k2 (by decide +kernel) (by decide +kernel) hXc hout hK hP hD hS (hl.1.trans hml.symm) (Nat.le_of_ble_eq_true rfl) (Nat.le_of_ble_eq_true rfl) (Nat.le_of_ble_eq_true rfl) (Nat.le_of_ble_eq_true rfl) (Nat.le_of_ble_eq_true rfl) (Nat.le_of_ble_eq_true rfl) dX4_piece_30 dX4_piece_33 dX4_piece_34 dX4_piece_37
set_option maxHeartbeats 4000000 in
set_option maxRecDepth 100000 in
theorem c_X4_demand (l : Launch) (dC : Nat → ClassId) (dI : Nat → Nat → Nat) (cyI cyZ : ClassId) (ob nw aF aT aP aC aU cf aO aL aH aD aB uc aUT aUD aUB dr aDT aDW : Nat) (sz : Nat) (xS xT xA nN nA dFo dPa dLa : Int32) (nF nT nP nC nU cO cL cH cD cB uT uD uB dT dW : Nat → Int32) (p0 p1 p2 : Int32) (res : Int32 × Int32 × Int32) (h : pX4_demand nN p0 p1 p2 = some (.inr res)) : Met l yX4_demand wsX4_demand { frames := 1, cells := 0, slots := 0, locals := 21 } (va_Pc [.ref ob, .int p0, .int p1, .int p2] (zPre (dC, dI) (wX4 cyI cyZ ob nw aF aT aP aC aU cf aO aL aH aD aB uc aUT aUD aUB dr aDT aDW xS xT xA nN nA dFo dPa dLa nF nT nP nC nU cO cL cH cD cB uT uD uB dT dW) [(cyI, .int), (cyZ, .boolean)] sz)) (zQv (dC, dI) (wX4 cyI cyZ ob nw aF aT aP aC aU cf aO aL aH aD aB uc aUT aUD aUB dr aDT aDW res.1 res.2.1 res.2.2 nN nA dFo dPa dLa nF nT nP nC nU cO cL cH cD cB uT uD uB dT dW) [(cyI, .int), (cyZ, .boolean)] (va_A (wX4 cyI cyZ ob nw aF aT aP aC aU cf aO aL aH aD aB uc aUT aUD aUB dr aDT aDW xS xT xA nN nA dFo dPa dLa nF nT nP nC nU cO cL cH cD cB uT uD uB dT dW) sz)) 0 0 (va_A (wX4 cyI cyZ ob nw aF aT aP aC aU cf aO aL aH aD aB uc aUT aUD aUB dr aDT aDW xS xT xA nN nA dFo dPa dLa nF nT nP nC nU cO cL cH cD cB uT uD uB dT dW) sz) := by
  refine q_ofWv (cc := cX4_demand) (maxL := 4) (rt := none) (by decide) rfl (Nat.le_of_ble_eq_true rfl) ?_
  intro p e s m args below meth c ls A Q H locs hQ hx hb hr hts hown hlocks hml hA hK hP hD hS hl
  have hl : lv_has ls 4 [(0, .ref ob), (1, .int p0), (2, .int p1), (3, .int p2)] := hl
  have k0 := hts (.classLink RX4 67 (zEx 2)) (by decide +kernel)
  have k1 := hts (.initialized (zEx 2)) (by decide +kernel)
  have k2 : ∀ w ∈ (vx_at0 RX4 69 (zEx 2) zNm).filter goodWord, w.before args s = true := fun w hw => hts w ((show ∀ w ∈ (vx_at0 RX4 69 (zEx 2) zNm).filter goodWord, w ∈ wsX4_demand by decide +kernel) w hw)
  have k3 := hts (.fieldLink RX4 9 "ConvexConduit" "source" "I") (by decide +kernel)
  have k4 : ∀ w ∈ u_ws RX4 TX4 7, w ∈ wsX4_demand := by decide +kernel
  have k5 := hts (.fieldLink RX4 13 "ConvexConduit" "target" "I") (by decide +kernel)
  have k6 := hts (.fieldLink RX4 16 "ConvexConduit" "amount" "I") (by decide +kernel)
  unfold pX4_demand at h
  refine lv_aload_n hx hb dX4_demand_0 rfl (lv_at hl 0 rfl) ?_
  refine lv_iload_n hx hb dX4_demand_1 rfl (lv_at hl 1 rfl) ?_
  obtain ⟨_, e9, h⟩ := bdxr h
  refine q_callVv (As := [.int p0]) (w1 := wX4 cyI cyZ ob nw aF aT aP aC aU cf aO aL aH aD aB uc aUT aUD aUB dr aDT aDW xS xT xA nN nA dFo dPa dLa nF nT nP nC nU cO cL cH cD cB uT uD uB dT dW) (ws2 := wX4 cyI cyZ ob nw aF aT aP aC aU cf aO aL aH aD aB uc aUT aUD aUB dr aDT aDW xS xT xA nN nA dFo dPa dLa nF nT nP nC nU cO cL cH cD cB uT uD uB dT dW) ⟨hx, hb, hml, hown, hts⟩ (c_X4_refuseOtherThanNode l dC dI cyI cyZ ob nw aF aT aP aC aU cf aO aL aH aD aB uc aUT aUD aUB dr aDT aDW H.size xS xT xA nN nA dFo dPa dLa nF nT nP nC nU cO cL cH cD cB uT uD uB dT dW p0 _ e9) (cwV 1 hts gX4_demand_X4_refuseOtherThanNode rfl rfl rfl (by decide +kernel) ⟨Nat.le_of_ble_eq_true rfl, Nat.le_of_ble_eq_true rfl⟩) hK hP hD hS hA [0, 1, 2, 3, 4, 5, 6, 7, 8, 9, 10, 11, 12, 13, 14, 15, 16, 17, 18, 19] [] [0, 1, 2, 3, 4, 5, 6, 7, 8, 9, 10, 11, 12, 13, 14, 15, 16, 17, 18, 19] [0, 1] rfl rfl rfl rfl (by decide) rfl rfl rfl 4 0 rfl rfl rfl hl.1 (Nat.le_of_ble_eq_true rfl) (Nat.le_of_ble_eq_true rfl) (Nat.le_of_ble_eq_true rfl) rfl dX4_demand_2 (fun H locs hP hD hS => ?_)
  refine lv_aload_n hx hb dX4_demand_5 rfl (lv_at hl 0 rfl) ?_
  refine lv_iload_n hx hb dX4_demand_6 rfl (lv_at hl 2 rfl) ?_
  obtain ⟨_, e9, h⟩ := bdxr h
  refine q_callVv (As := [.int p1]) (w1 := wX4 cyI cyZ ob nw aF aT aP aC aU cf aO aL aH aD aB uc aUT aUD aUB dr aDT aDW xS xT xA nN nA dFo dPa dLa nF nT nP nC nU cO cL cH cD cB uT uD uB dT dW) (ws2 := wX4 cyI cyZ ob nw aF aT aP aC aU cf aO aL aH aD aB uc aUT aUD aUB dr aDT aDW xS xT xA nN nA dFo dPa dLa nF nT nP nC nU cO cL cH cD cB uT uD uB dT dW) ⟨hx, hb, hml, hown, hts⟩ (c_X4_refuseOtherThanNode l dC dI cyI cyZ ob nw aF aT aP aC aU cf aO aL aH aD aB uc aUT aUD aUB dr aDT aDW H.size xS xT xA nN nA dFo dPa dLa nF nT nP nC nU cO cL cH cD cB uT uD uB dT dW p1 _ e9) (cwV 1 hts gX4_demand_X4_refuseOtherThanNode rfl rfl rfl (by decide +kernel) ⟨Nat.le_of_ble_eq_true rfl, Nat.le_of_ble_eq_true rfl⟩) hK hP hD hS hA [0, 1, 2, 3, 4, 5, 6, 7, 8, 9, 10, 11, 12, 13, 14, 15, 16, 17, 18, 19] [] [0, 1, 2, 3, 4, 5, 6, 7, 8, 9, 10, 11, 12, 13, 14, 15, 16, 17, 18, 19] [0, 1] rfl rfl rfl rfl (by decide) rfl rfl rfl 4 0 rfl rfl rfl hl.1 (Nat.le_of_ble_eq_true rfl) (Nat.le_of_ble_eq_true rfl) (Nat.le_of_ble_eq_true rfl) rfl dX4_demand_7 (fun H locs hP hD hS => ?_)
  refine lv_iload_n hx hb dX4_demand_10 rfl (lv_at hl 1 rfl) ?_
  refine lv_iload_n hx hb dX4_demand_11 rfl (lv_at hl 2 rfl) ?_
  refine lv_icmp_eq (tgt := 25) hx hb dX4_demand_12 (by decide) (fun c9 => ?_) (fun c9 => ?_)
  · have h := ipos c9 h
    cases h
  · have h := ineg c9 h
    refine lv_iload_n hx hb dX4_demand_15 rfl (lv_at hl 3 rfl) ?_
    refine lv_if_lt (tgt := 25) hx hb dX4_demand_16 (by decide) (fun c9 => ?_) (fun c9 => ?_)
    · have h := ipos c9 h
      cases h
    · have h := ineg c9 h
      refine lv_iload_n hx hb dX4_demand_19 rfl (lv_at hl 3 rfl) ?_
      refine lv_bipush (v := 20) hx hb dX4_demand_20 (by decide) ?_
      refine lv_icmp_le (tgt := 33) hx hb dX4_demand_22 (by decide) (fun c9 => ?_) (fun c9 => ?_)
      · have h := ipos c9 h
        have h := rgtr h
        refine lv_aload_n hx hb dX4_demand_33 rfl (lv_at hl 0 rfl) ?_
        refine lv_iload_n hx hb dX4_demand_34 rfl (lv_at hl 1 rfl) ?_
        refine va_put (D := (dC, dI)) (ci := 4) (v := .int p0) (ty := .int) (C := RX4) (T := TX4) (N := 7) hx hb hts k4 tyX4 tyX4_ok nmX4 hown hK hP hD hS 0 rfl rfl 4 (by decide) k3 (fun _ h9 => h9) rfl (by decide +kernel) rfl rfl (Nat.le_of_ble_eq_true rfl) dX4_demand_35 (fun H locs hP hD hS => ?_)
        have hP : va_P (dC, dI) vwCl (wX4 cyI cyZ ob nw aF aT aP aC aU cf aO aL aH aD aB uc aUT aUD aUB dr aDT aDW p0 xT xA nN nA dFo dPa dLa nF nT nP nC nU cO cL cH cD cB uT uD uB dT dW) H := hP
        have hD : va_D A (wX4 cyI cyZ ob nw aF aT aP aC aU cf aO aL aH aD aB uc aUT aUD aUB dr aDT aDW p0 xT xA nN nA dFo dPa dLa nF nT nP nC nU cO cL cH cD cB uT uD uB dT dW) := hD
        refine lv_aload_n hx hb dX4_demand_38 rfl (lv_at hl 0 rfl) ?_
        refine lv_iload_n hx hb dX4_demand_39 rfl (lv_at hl 2 rfl) ?_
        refine va_put (D := (dC, dI)) (ci := 4) (v := .int p1) (ty := .int) (C := RX4) (T := TX4) (N := 7) hx hb hts k4 tyX4 tyX4_ok nmX4 hown hK hP hD hS 0 rfl rfl 5 (by decide) k5 (fun _ h9 => h9) rfl (by decide +kernel) rfl rfl (Nat.le_of_ble_eq_true rfl) dX4_demand_40 (fun H locs hP hD hS => ?_)
        have hP : va_P (dC, dI) vwCl (wX4 cyI cyZ ob nw aF aT aP aC aU cf aO aL aH aD aB uc aUT aUD aUB dr aDT aDW p0 p1 xA nN nA dFo dPa dLa nF nT nP nC nU cO cL cH cD cB uT uD uB dT dW) H := hP
        have hD : va_D A (wX4 cyI cyZ ob nw aF aT aP aC aU cf aO aL aH aD aB uc aUT aUD aUB dr aDT aDW p0 p1 xA nN nA dFo dPa dLa nF nT nP nC nU cO cL cH cD cB uT uD uB dT dW) := hD
        refine lv_aload_n hx hb dX4_demand_43 rfl (lv_at hl 0 rfl) ?_
        refine lv_iload_n hx hb dX4_demand_44 rfl (lv_at hl 3 rfl) ?_
        refine va_put (D := (dC, dI)) (ci := 4) (v := .int p2) (ty := .int) (C := RX4) (T := TX4) (N := 7) hx hb hts k4 tyX4 tyX4_ok nmX4 hown hK hP hD hS 0 rfl rfl 6 (by decide) k6 (fun _ h9 => h9) rfl (by decide +kernel) rfl rfl (Nat.le_of_ble_eq_true rfl) dX4_demand_45 (fun H locs hP hD hS => ?_)
        have hP : va_P (dC, dI) vwCl (wX4 cyI cyZ ob nw aF aT aP aC aU cf aO aL aH aD aB uc aUT aUD aUB dr aDT aDW p0 p1 p2 nN nA dFo dPa dLa nF nT nP nC nU cO cL cH cD cB uT uD uB dT dW) H := hP
        have hD : va_D A (wX4 cyI cyZ ob nw aF aT aP aC aU cf aO aL aH aD aB uc aUT aUD aUB dr aDT aDW p0 p1 p2 nN nA dFo dPa dLa nF nT nP nC nU cO cL cH cD cB uT uD uB dT dW) := hD
        cases h
        exact q_vret hQ hx hb hr hlocks hP hK hD hS dX4_demand_48
      · have h := ineg c9 h
        cases h
set_option maxHeartbeats 4000000 in
set_option maxRecDepth 100000 in
theorem cx_X4_demand (l : Launch) (hfl : l.stackTraces = false) (dC : Nat → ClassId) (dI : Nat → Nat → Nat) (cyI cyZ : ClassId) (ob nw aF aT aP aC aU cf aO aL aH aD aB uc aUT aUD aUB dr aDT aDW : Nat) (sz : Nat) (xS xT xA nN nA dFo dPa dLa : Int32) (nF nT nP nC nU cO cL cH cD cB uT uD uB dT dW : Nat → Int32) (p0 p1 p2 : Int32) (k : Nat) (h : pX4_demand nN p0 p1 p2 = some (.inl k)) : vx_Met l yX4_demand wsX4_demand { frames := 7, cells := 1, slots := 6, locals := 102 } (va_Pc [.ref ob, .int p0, .int p1, .int p2] (zPreX (dC, dI) (wX4 cyI cyZ ob nw aF aT aP aC aU cf aO aL aH aD aB uc aUT aUD aUB dr aDT aDW xS xT xA nN nA dFo dPa dLa nF nT nP nC nU cO cL cH cD cB uT uD uB dT dW) [(cyI, .int), (cyZ, .boolean)] sz)) (zNv (va_A (wX4 cyI cyZ ob nw aF aT aP aC aU cf aO aL aH aD aB uc aUT aUD aUB dr aDT aDW xS xT xA nN nA dFo dPa dLa nF nT nP nC nU cO cL cH cD cB uT uD uB dT dW) sz)) (zX (dC, dI) (wX4 cyI cyZ ob nw aF aT aP aC aU cf aO aL aH aD aB uc aUT aUD aUB dr aDT aDW xS xT xA nN nA dFo dPa dLa nF nT nP nC nU cO cL cH cD cB uT uD uB dT dW) [(cyI, .int), (cyZ, .boolean)] k (va_A (wX4 cyI cyZ ob nw aF aT aP aC aU cf aO aL aH aD aB uc aUT aUD aUB dr aDT aDW xS xT xA nN nA dFo dPa dLa nF nT nP nC nU cO cL cH cD cB uT uD uB dT dW) sz)) 1 6 (va_A (wX4 cyI cyZ ob nw aF aT aP aC aU cf aO aL aH aD aB uc aUT aUD aUB dr aDT aDW xS xT xA nN nA dFo dPa dLa nF nT nP nC nU cO cL cH cD cB uT uD uB dT dW) sz) := by
  refine q_ofXt (cc := cX4_demand) (maxL := 4) (rt := none) (by decide) rfl (Nat.le_of_ble_eq_true rfl) ?_
  intro p e s m args below meth c ls A Q H locs hQ hx hb hr hts hown hlocks hml hA hK hP hD hS hl hout hXc
  have hl : lv_has ls 4 [(0, .ref ob), (1, .int p0), (2, .int p1), (3, .int p2)] := hl
  have k0 := hts (.classLink RX4 67 (zEx 2)) (by decide +kernel)
  have k1 := hts (.initialized (zEx 2)) (by decide +kernel)
  have k2 : ∀ w ∈ (vx_at0 RX4 69 (zEx 2) zNm).filter goodWord, w.before args s = true := fun w hw => hts w ((show ∀ w ∈ (vx_at0 RX4 69 (zEx 2) zNm).filter goodWord, w ∈ wsX4_demand by decide +kernel) w hw)
  have k3 := hts (.fieldLink RX4 9 "ConvexConduit" "source" "I") (by decide +kernel)
  have k4 : ∀ w ∈ u_ws RX4 TX4 7, w ∈ wsX4_demand := by decide +kernel
  have k5 := hts (.fieldLink RX4 13 "ConvexConduit" "target" "I") (by decide +kernel)
  have k6 := hts (.fieldLink RX4 16 "ConvexConduit" "amount" "I") (by decide +kernel)
  unfold pX4_demand at h
  refine lv_aload_n hx hb dX4_demand_0 rfl (lv_at hl 0 rfl) ?_
  refine lv_iload_n hx hb dX4_demand_1 rfl (lv_at hl 1 rfl) ?_
  rcases bdxl h with e9 | ⟨_, e9, h⟩
  · exact q_callXv (As := [.int p0]) hQ ⟨hx, hb, hml, hown, hts⟩ hlocks (cx_X4_refuseOtherThanNode l hfl dC dI cyI cyZ ob nw aF aT aP aC aU cf aO aL aH aD aB uc aUT aUD aUB dr aDT aDW H.size xS xT xA nN nA dFo dPa dLa nF nT nP nC nU cO cL cH cD cB uT uD uB dT dW p0 _ e9) (cwV 1 hts gX4_demand_X4_refuseOtherThanNode rfl rfl rfl (by decide +kernel) ⟨Nat.le_of_ble_eq_true rfl, Nat.le_of_ble_eq_true rfl⟩) hXc hout hK hP hD hS hA [0, 1, 2, 3, 4, 5, 6, 7, 8, 9, 10, 11, 12, 13, 14, 15, 16, 17, 18, 19] rfl 4 0 rfl rfl rfl hl.1 (Nat.le_of_ble_eq_true rfl) (Nat.le_of_ble_eq_true rfl) (Nat.le_of_ble_eq_true rfl) (Nat.le_of_ble_eq_true rfl) (Nat.le_of_ble_eq_true rfl) rfl dX4_demand_2
  · refine q_callVv (As := [.int p0]) (w1 := wX4 cyI cyZ ob nw aF aT aP aC aU cf aO aL aH aD aB uc aUT aUD aUB dr aDT aDW xS xT xA nN nA dFo dPa dLa nF nT nP nC nU cO cL cH cD cB uT uD uB dT dW) (ws2 := wX4 cyI cyZ ob nw aF aT aP aC aU cf aO aL aH aD aB uc aUT aUD aUB dr aDT aDW xS xT xA nN nA dFo dPa dLa nF nT nP nC nU cO cL cH cD cB uT uD uB dT dW) ⟨hx, hb, hml, hown, hts⟩ (c_X4_refuseOtherThanNode l dC dI cyI cyZ ob nw aF aT aP aC aU cf aO aL aH aD aB uc aUT aUD aUB dr aDT aDW H.size xS xT xA nN nA dFo dPa dLa nF nT nP nC nU cO cL cH cD cB uT uD uB dT dW p0 _ e9) (cwV 1 hts gX4_demand_X4_refuseOtherThanNode rfl rfl rfl (by decide +kernel) ⟨Nat.le_of_ble_eq_true rfl, Nat.le_of_ble_eq_true rfl⟩) hK hP hD hS hA [0, 1, 2, 3, 4, 5, 6, 7, 8, 9, 10, 11, 12, 13, 14, 15, 16, 17, 18, 19] [] [0, 1, 2, 3, 4, 5, 6, 7, 8, 9, 10, 11, 12, 13, 14, 15, 16, 17, 18, 19] [0, 1] rfl rfl rfl rfl (by decide) rfl rfl rfl 4 0 rfl rfl rfl hl.1 (Nat.le_of_ble_eq_true rfl) (Nat.le_of_ble_eq_true rfl) (Nat.le_of_ble_eq_true rfl) rfl dX4_demand_2 (fun H locs hP hD hS => ?_)
    refine lv_aload_n hx hb dX4_demand_5 rfl (lv_at hl 0 rfl) ?_
    refine lv_iload_n hx hb dX4_demand_6 rfl (lv_at hl 2 rfl) ?_
    rcases bdxl h with e9 | ⟨_, e9, h⟩
    · exact q_callXv (As := [.int p1]) hQ ⟨hx, hb, hml, hown, hts⟩ hlocks (cx_X4_refuseOtherThanNode l hfl dC dI cyI cyZ ob nw aF aT aP aC aU cf aO aL aH aD aB uc aUT aUD aUB dr aDT aDW H.size xS xT xA nN nA dFo dPa dLa nF nT nP nC nU cO cL cH cD cB uT uD uB dT dW p1 _ e9) (cwV 1 hts gX4_demand_X4_refuseOtherThanNode rfl rfl rfl (by decide +kernel) ⟨Nat.le_of_ble_eq_true rfl, Nat.le_of_ble_eq_true rfl⟩) hXc hout hK hP hD hS hA [0, 1, 2, 3, 4, 5, 6, 7, 8, 9, 10, 11, 12, 13, 14, 15, 16, 17, 18, 19] rfl 4 0 rfl rfl rfl hl.1 (Nat.le_of_ble_eq_true rfl) (Nat.le_of_ble_eq_true rfl) (Nat.le_of_ble_eq_true rfl) (Nat.le_of_ble_eq_true rfl) (Nat.le_of_ble_eq_true rfl) rfl dX4_demand_7
    · refine q_callVv (As := [.int p1]) (w1 := wX4 cyI cyZ ob nw aF aT aP aC aU cf aO aL aH aD aB uc aUT aUD aUB dr aDT aDW xS xT xA nN nA dFo dPa dLa nF nT nP nC nU cO cL cH cD cB uT uD uB dT dW) (ws2 := wX4 cyI cyZ ob nw aF aT aP aC aU cf aO aL aH aD aB uc aUT aUD aUB dr aDT aDW xS xT xA nN nA dFo dPa dLa nF nT nP nC nU cO cL cH cD cB uT uD uB dT dW) ⟨hx, hb, hml, hown, hts⟩ (c_X4_refuseOtherThanNode l dC dI cyI cyZ ob nw aF aT aP aC aU cf aO aL aH aD aB uc aUT aUD aUB dr aDT aDW H.size xS xT xA nN nA dFo dPa dLa nF nT nP nC nU cO cL cH cD cB uT uD uB dT dW p1 _ e9) (cwV 1 hts gX4_demand_X4_refuseOtherThanNode rfl rfl rfl (by decide +kernel) ⟨Nat.le_of_ble_eq_true rfl, Nat.le_of_ble_eq_true rfl⟩) hK hP hD hS hA [0, 1, 2, 3, 4, 5, 6, 7, 8, 9, 10, 11, 12, 13, 14, 15, 16, 17, 18, 19] [] [0, 1, 2, 3, 4, 5, 6, 7, 8, 9, 10, 11, 12, 13, 14, 15, 16, 17, 18, 19] [0, 1] rfl rfl rfl rfl (by decide) rfl rfl rfl 4 0 rfl rfl rfl hl.1 (Nat.le_of_ble_eq_true rfl) (Nat.le_of_ble_eq_true rfl) (Nat.le_of_ble_eq_true rfl) rfl dX4_demand_7 (fun H locs hP hD hS => ?_)
      refine lv_iload_n hx hb dX4_demand_10 rfl (lv_at hl 1 rfl) ?_
      refine lv_iload_n hx hb dX4_demand_11 rfl (lv_at hl 2 rfl) ?_
      refine lv_icmp_eq (tgt := 25) hx hb dX4_demand_12 (by decide) (fun c9 => ?_) (fun c9 => ?_)
      · have h := ipos c9 h
        cases h
        exact q_throw hQ hx hb hfl hlocks hown (by decide +kernel) k0 k1 k2 (by decide +kernel) (by decide +kernel) hXc hout hK hP hD hS (hl.1.trans hml.symm) (Nat.le_of_ble_eq_true rfl) (Nat.le_of_ble_eq_true rfl) (Nat.le_of_ble_eq_true rfl) (Nat.le_of_ble_eq_true rfl) (Nat.le_of_ble_eq_true rfl) (Nat.le_of_ble_eq_true rfl) dX4_demand_25 dX4_demand_28 dX4_demand_29 dX4_demand_32
      · have h := ineg c9 h
        refine lv_iload_n hx hb dX4_demand_15 rfl (lv_at hl 3 rfl) ?_
        refine lv_if_lt (tgt := 25) hx hb dX4_demand_16 (by decide) (fun c9 => ?_) (fun c9 => ?_)
        · have h := ipos c9 h
          cases h
          exact q_throw hQ hx hb hfl hlocks hown (by decide +kernel) k0 k1 k2 (by decide +kernel) (by decide +kernel) hXc hout hK hP hD hS (hl.1.trans hml.symm) (Nat.le_of_ble_eq_true rfl) (Nat.le_of_ble_eq_true rfl) (Nat.le_of_ble_eq_true rfl) (Nat.le_of_ble_eq_true rfl) (Nat.le_of_ble_eq_true rfl) (Nat.le_of_ble_eq_true rfl) dX4_demand_25 dX4_demand_28 dX4_demand_29 dX4_demand_32
        · have h := ineg c9 h
          refine lv_iload_n hx hb dX4_demand_19 rfl (lv_at hl 3 rfl) ?_
          refine lv_bipush (v := 20) hx hb dX4_demand_20 (by decide) ?_
          refine lv_icmp_le (tgt := 33) hx hb dX4_demand_22 (by decide) (fun c9 => ?_) (fun c9 => ?_)
          · have h := ipos c9 h
            exact rgtl h
          · have h := ineg c9 h
            cases h
            exact q_throw hQ hx hb hfl hlocks hown (by decide +kernel) k0 k1 k2 (by decide +kernel) (by decide +kernel) hXc hout hK hP hD hS (hl.1.trans hml.symm) (Nat.le_of_ble_eq_true rfl) (Nat.le_of_ble_eq_true rfl) (Nat.le_of_ble_eq_true rfl) (Nat.le_of_ble_eq_true rfl) (Nat.le_of_ble_eq_true rfl) (Nat.le_of_ble_eq_true rfl) dX4_demand_25 dX4_demand_28 dX4_demand_29 dX4_demand_32
set_option maxHeartbeats 4000000 in
set_option maxRecDepth 100000 in
theorem c_X4_capacity (l : Launch) (dC : Nat → ClassId) (dI : Nat → Nat → Nat) (cyI cyZ : ClassId) (ob nw aF aT aP aC aU cf aO aL aH aD aB uc aUT aUD aUB dr aDT aDW : Nat) (sz : Nat) (xS xT xA nN nA dFo dPa dLa : Int32) (nF nT nP nC nU cO cL cH cD cB uT uD uB dT dW : Nat → Int32) (p0 : Int32) (res : Int32) (h : pX4_capacity nA nC p0 = some (.inr res)) : Met l yX4_capacity wsX4_capacity { frames := 1, cells := 0, slots := 0, locals := 21 } (va_Pc [.ref ob, .int p0] (zPre (dC, dI) (wX4 cyI cyZ ob nw aF aT aP aC aU cf aO aL aH aD aB uc aUT aUD aUB dr aDT aDW xS xT xA nN nA dFo dPa dLa nF nT nP nC nU cO cL cH cD cB uT uD uB dT dW) [(cyI, .int), (cyZ, .boolean)] sz)) (zQi (dC, dI) (wX4 cyI cyZ ob nw aF aT aP aC aU cf aO aL aH aD aB uc aUT aUD aUB dr aDT aDW xS xT xA nN nA dFo dPa dLa nF nT nP nC nU cO cL cH cD cB uT uD uB dT dW) [(cyI, .int), (cyZ, .boolean)] (res) (va_A (wX4 cyI cyZ ob nw aF aT aP aC aU cf aO aL aH aD aB uc aUT aUD aUB dr aDT aDW xS xT xA nN nA dFo dPa dLa nF nT nP nC nU cO cL cH cD cB uT uD uB dT dW) sz)) 0 0 (va_A (wX4 cyI cyZ ob nw aF aT aP aC aU cf aO aL aH aD aB uc aUT aUD aUB dr aDT aDW xS xT xA nN nA dFo dPa dLa nF nT nP nC nU cO cL cH cD cB uT uD uB dT dW) sz) := by
  refine q_ofWi (cc := cX4_capacity) (maxL := 2) (rt := (some .int)) (by decide) rfl (Nat.le_of_ble_eq_true rfl) ?_
  intro p e s m args below meth c ls A Q H locs hQ hx hb hr hts hown hlocks hml hA hK hP hD hS hl
  have hl : lv_has ls 2 [(0, .ref ob), (1, .int p0)] := hl
  have k0 := hts (.fieldLink RX4 33 "ConvexConduit" "network" "LConvexConduit$Network;") (by decide +kernel)
  have k1 : ∀ w ∈ u_ws RX4 TX4 7, w ∈ wsX4_capacity := by decide +kernel
  have k2 := hts (.fieldLink RX4 95 "ConvexConduit$Network" "capacity" "[I") (by decide +kernel)
  have k3 : ∀ w ∈ u_ws RX2 TX2 7, w ∈ wsX4_capacity := by decide +kernel
  unfold pX4_capacity at h
  refine lv_aload_n hx hb dX4_capacity_0 rfl (lv_at hl 0 rfl) ?_
  refine lv_iload_n hx hb dX4_capacity_1 rfl (lv_at hl 1 rfl) ?_
  obtain ⟨_, e9, h⟩ := bdxr h
  refine q_callVv (As := [.int p0]) (w1 := wX4 cyI cyZ ob nw aF aT aP aC aU cf aO aL aH aD aB uc aUT aUD aUB dr aDT aDW xS xT xA nN nA dFo dPa dLa nF nT nP nC nU cO cL cH cD cB uT uD uB dT dW) (ws2 := wX4 cyI cyZ ob nw aF aT aP aC aU cf aO aL aH aD aB uc aUT aUD aUB dr aDT aDW xS xT xA nN nA dFo dPa dLa nF nT nP nC nU cO cL cH cD cB uT uD uB dT dW) ⟨hx, hb, hml, hown, hts⟩ (c_X4_refuseOtherThanArc l dC dI cyI cyZ ob nw aF aT aP aC aU cf aO aL aH aD aB uc aUT aUD aUB dr aDT aDW H.size xS xT xA nN nA dFo dPa dLa nF nT nP nC nU cO cL cH cD cB uT uD uB dT dW p0 _ e9) (cwV 1 hts gX4_capacity_X4_refuseOtherThanArc rfl rfl rfl (by decide +kernel) ⟨Nat.le_of_ble_eq_true rfl, Nat.le_of_ble_eq_true rfl⟩) hK hP hD hS hA [0, 1, 2, 3, 4, 5, 6, 7, 8, 9, 10, 11, 12, 13, 14, 15, 16, 17, 18, 19] [] [0, 1, 2, 3, 4, 5, 6, 7, 8, 9, 10, 11, 12, 13, 14, 15, 16, 17, 18, 19] [0, 1] rfl rfl rfl rfl (by decide) rfl rfl rfl 4 0 rfl rfl rfl hl.1 (Nat.le_of_ble_eq_true rfl) (Nat.le_of_ble_eq_true rfl) (Nat.le_of_ble_eq_true rfl) rfl dX4_capacity_2 (fun H locs hP hD hS => ?_)
  have h := rgtr h
  refine lv_aload_n hx hb dX4_capacity_5 rfl (lv_at hl 0 rfl) ?_
  refine va_get (D := (dC, dI)) (ci := 4) (v := .ref nw) (C := RX4) (T := TX4) (N := 7) hx hb hts k1 hown hK hP 0 rfl rfl 0 (by decide) k0 (fun _ h9 => h9) rfl dX4_capacity_6 ?_
  refine va_get (D := (dC, dI)) (ci := 2) (v := .ref aC) (C := RX2) (T := TX2) (N := 7) hx hb hts k3 hown hK hP 1 rfl rfl 5 (by decide) k2 (fun _ h9 => h9) rfl dX4_capacity_9 ?_
  refine lv_iload_n hx hb dX4_capacity_12 rfl (lv_at hl 1 rfl) ?_
  obtain ⟨t1, e9, h⟩ := bd h
  refine q_iald hx hb hK hP 5 0 rfl rfl e9 dX4_capacity_13 ?_
  cases h
  exact q_iret hQ hx hb hr hlocks hP hK hD hS dX4_capacity_14
set_option maxHeartbeats 4000000 in
set_option maxRecDepth 100000 in
theorem cx_X4_capacity (l : Launch) (hfl : l.stackTraces = false) (dC : Nat → ClassId) (dI : Nat → Nat → Nat) (cyI cyZ : ClassId) (ob nw aF aT aP aC aU cf aO aL aH aD aB uc aUT aUD aUB dr aDT aDW : Nat) (sz : Nat) (xS xT xA nN nA dFo dPa dLa : Int32) (nF nT nP nC nU cO cL cH cD cB uT uD uB dT dW : Nat → Int32) (p0 : Int32) (k : Nat) (h : pX4_capacity nA nC p0 = some (.inl k)) : vx_Met l yX4_capacity wsX4_capacity { frames := 7, cells := 1, slots := 6, locals := 102 } (va_Pc [.ref ob, .int p0] (zPreX (dC, dI) (wX4 cyI cyZ ob nw aF aT aP aC aU cf aO aL aH aD aB uc aUT aUD aUB dr aDT aDW xS xT xA nN nA dFo dPa dLa nF nT nP nC nU cO cL cH cD cB uT uD uB dT dW) [(cyI, .int), (cyZ, .boolean)] sz)) (zNi (va_A (wX4 cyI cyZ ob nw aF aT aP aC aU cf aO aL aH aD aB uc aUT aUD aUB dr aDT aDW xS xT xA nN nA dFo dPa dLa nF nT nP nC nU cO cL cH cD cB uT uD uB dT dW) sz)) (zX (dC, dI) (wX4 cyI cyZ ob nw aF aT aP aC aU cf aO aL aH aD aB uc aUT aUD aUB dr aDT aDW xS xT xA nN nA dFo dPa dLa nF nT nP nC nU cO cL cH cD cB uT uD uB dT dW) [(cyI, .int), (cyZ, .boolean)] k (va_A (wX4 cyI cyZ ob nw aF aT aP aC aU cf aO aL aH aD aB uc aUT aUD aUB dr aDT aDW xS xT xA nN nA dFo dPa dLa nF nT nP nC nU cO cL cH cD cB uT uD uB dT dW) sz)) 1 6 (va_A (wX4 cyI cyZ ob nw aF aT aP aC aU cf aO aL aH aD aB uc aUT aUD aUB dr aDT aDW xS xT xA nN nA dFo dPa dLa nF nT nP nC nU cO cL cH cD cB uT uD uB dT dW) sz) := by
  refine q_ofXt (cc := cX4_capacity) (maxL := 2) (rt := (some .int)) (by decide) rfl (Nat.le_of_ble_eq_true rfl) ?_
  intro p e s m args below meth c ls A Q H locs hQ hx hb hr hts hown hlocks hml hA hK hP hD hS hl hout hXc
  have hl : lv_has ls 2 [(0, .ref ob), (1, .int p0)] := hl
  have k0 := hts (.fieldLink RX4 33 "ConvexConduit" "network" "LConvexConduit$Network;") (by decide +kernel)
  have k1 : ∀ w ∈ u_ws RX4 TX4 7, w ∈ wsX4_capacity := by decide +kernel
  have k2 := hts (.fieldLink RX4 95 "ConvexConduit$Network" "capacity" "[I") (by decide +kernel)
  have k3 : ∀ w ∈ u_ws RX2 TX2 7, w ∈ wsX4_capacity := by decide +kernel
  unfold pX4_capacity at h
  refine lv_aload_n hx hb dX4_capacity_0 rfl (lv_at hl 0 rfl) ?_
  refine lv_iload_n hx hb dX4_capacity_1 rfl (lv_at hl 1 rfl) ?_
  rcases bdxl h with e9 | ⟨_, e9, h⟩
  · exact q_callXv (As := [.int p0]) hQ ⟨hx, hb, hml, hown, hts⟩ hlocks (cx_X4_refuseOtherThanArc l hfl dC dI cyI cyZ ob nw aF aT aP aC aU cf aO aL aH aD aB uc aUT aUD aUB dr aDT aDW H.size xS xT xA nN nA dFo dPa dLa nF nT nP nC nU cO cL cH cD cB uT uD uB dT dW p0 _ e9) (cwV 1 hts gX4_capacity_X4_refuseOtherThanArc rfl rfl rfl (by decide +kernel) ⟨Nat.le_of_ble_eq_true rfl, Nat.le_of_ble_eq_true rfl⟩) hXc hout hK hP hD hS hA [0, 1, 2, 3, 4, 5, 6, 7, 8, 9, 10, 11, 12, 13, 14, 15, 16, 17, 18, 19] rfl 4 0 rfl rfl rfl hl.1 (Nat.le_of_ble_eq_true rfl) (Nat.le_of_ble_eq_true rfl) (Nat.le_of_ble_eq_true rfl) (Nat.le_of_ble_eq_true rfl) (Nat.le_of_ble_eq_true rfl) rfl dX4_capacity_2
  · refine q_callVv (As := [.int p0]) (w1 := wX4 cyI cyZ ob nw aF aT aP aC aU cf aO aL aH aD aB uc aUT aUD aUB dr aDT aDW xS xT xA nN nA dFo dPa dLa nF nT nP nC nU cO cL cH cD cB uT uD uB dT dW) (ws2 := wX4 cyI cyZ ob nw aF aT aP aC aU cf aO aL aH aD aB uc aUT aUD aUB dr aDT aDW xS xT xA nN nA dFo dPa dLa nF nT nP nC nU cO cL cH cD cB uT uD uB dT dW) ⟨hx, hb, hml, hown, hts⟩ (c_X4_refuseOtherThanArc l dC dI cyI cyZ ob nw aF aT aP aC aU cf aO aL aH aD aB uc aUT aUD aUB dr aDT aDW H.size xS xT xA nN nA dFo dPa dLa nF nT nP nC nU cO cL cH cD cB uT uD uB dT dW p0 _ e9) (cwV 1 hts gX4_capacity_X4_refuseOtherThanArc rfl rfl rfl (by decide +kernel) ⟨Nat.le_of_ble_eq_true rfl, Nat.le_of_ble_eq_true rfl⟩) hK hP hD hS hA [0, 1, 2, 3, 4, 5, 6, 7, 8, 9, 10, 11, 12, 13, 14, 15, 16, 17, 18, 19] [] [0, 1, 2, 3, 4, 5, 6, 7, 8, 9, 10, 11, 12, 13, 14, 15, 16, 17, 18, 19] [0, 1] rfl rfl rfl rfl (by decide) rfl rfl rfl 4 0 rfl rfl rfl hl.1 (Nat.le_of_ble_eq_true rfl) (Nat.le_of_ble_eq_true rfl) (Nat.le_of_ble_eq_true rfl) rfl dX4_capacity_2 (fun H locs hP hD hS => ?_)
    exact rgtl h
set_option maxHeartbeats 4000000 in
set_option maxRecDepth 100000 in
theorem c_X4_price (l : Launch) (dC : Nat → ClassId) (dI : Nat → Nat → Nat) (cyI cyZ : ClassId) (ob nw aF aT aP aC aU cf aO aL aH aD aB uc aUT aUD aUB dr aDT aDW : Nat) (sz : Nat) (xS xT xA nN nA dFo dPa dLa : Int32) (nF nT nP nC nU cO cL cH cD cB uT uD uB dT dW : Nat → Int32) (p0 p1 : Int32) (res : Int32) (h : pX4_price nA nC nU p0 p1 = some (.inr res)) : Met l yX4_price wsX4_price { frames := 1, cells := 0, slots := 0, locals := 22 } (va_Pc [.ref ob, .int p0, .int p1] (zPre (dC, dI) (wX4 cyI cyZ ob nw aF aT aP aC aU cf aO aL aH aD aB uc aUT aUD aUB dr aDT aDW xS xT xA nN nA dFo dPa dLa nF nT nP nC nU cO cL cH cD cB uT uD uB dT dW) [(cyI, .int), (cyZ, .boolean)] sz)) (zQi (dC, dI) (wX4 cyI cyZ ob nw aF aT aP aC aU cf aO aL aH aD aB uc aUT aUD aUB dr aDT aDW xS xT xA nN nA dFo dPa dLa nF nT nP nC nU cO cL cH cD cB uT uD uB dT dW) [(cyI, .int), (cyZ, .boolean)] (res) (va_A (wX4 cyI cyZ ob nw aF aT aP aC aU cf aO aL aH aD aB uc aUT aUD aUB dr aDT aDW xS xT xA nN nA dFo dPa dLa nF nT nP nC nU cO cL cH cD cB uT uD uB dT dW) sz)) 0 0 (va_A (wX4 cyI cyZ ob nw aF aT aP aC aU cf aO aL aH aD aB uc aUT aUD aUB dr aDT aDW xS xT xA nN nA dFo dPa dLa nF nT nP nC nU cO cL cH cD cB uT uD uB dT dW) sz) := by
  refine q_ofWi (cc := cX4_price) (maxL := 3) (rt := (some .int)) (by decide) rfl (Nat.le_of_ble_eq_true rfl) ?_
  intro p e s m args below meth c ls A Q H locs hQ hx hb hr hts hown hlocks hml hA hK hP hD hS hl
  have hl : lv_has ls 3 [(0, .ref ob), (1, .int p0), (2, .int p1)] := hl
  have k0 := hts (.classLink RX4 101 (zEx 1)) (by decide +kernel)
  have k1 := hts (.initialized (zEx 1)) (by decide +kernel)
  have k2 : ∀ w ∈ (vx_at0 RX4 103 (zEx 1) zNm).filter goodWord, w.before args s = true := fun w hw => hts w ((show ∀ w ∈ (vx_at0 RX4 103 (zEx 1) zNm).filter goodWord, w ∈ wsX4_price by decide +kernel) w hw)
  have k3 := hts (.fieldLink RX4 33 "ConvexConduit" "network" "LConvexConduit$Network;") (by decide +kernel)
  have k4 : ∀ w ∈ u_ws RX4 TX4 7, w ∈ wsX4_price := by decide +kernel
  have k5 := hts (.fieldLink RX4 95 "ConvexConduit$Network" "capacity" "[I") (by decide +kernel)
  have k6 : ∀ w ∈ u_ws RX2 TX2 7, w ∈ wsX4_price := by decide +kernel
  unfold pX4_price at h
  refine lv_aload_n hx hb dX4_price_0 rfl (lv_at hl 0 rfl) ?_
  refine lv_iload_n hx hb dX4_price_1 rfl (lv_at hl 1 rfl) ?_
  obtain ⟨_, e9, h⟩ := bdxr h
  refine q_callVv (As := [.int p0]) (w1 := wX4 cyI cyZ ob nw aF aT aP aC aU cf aO aL aH aD aB uc aUT aUD aUB dr aDT aDW xS xT xA nN nA dFo dPa dLa nF nT nP nC nU cO cL cH cD cB uT uD uB dT dW) (ws2 := wX4 cyI cyZ ob nw aF aT aP aC aU cf aO aL aH aD aB uc aUT aUD aUB dr aDT aDW xS xT xA nN nA dFo dPa dLa nF nT nP nC nU cO cL cH cD cB uT uD uB dT dW) ⟨hx, hb, hml, hown, hts⟩ (c_X4_refuseOtherThanArc l dC dI cyI cyZ ob nw aF aT aP aC aU cf aO aL aH aD aB uc aUT aUD aUB dr aDT aDW H.size xS xT xA nN nA dFo dPa dLa nF nT nP nC nU cO cL cH cD cB uT uD uB dT dW p0 _ e9) (cwV 1 hts gX4_price_X4_refuseOtherThanArc rfl rfl rfl (by decide +kernel) ⟨Nat.le_of_ble_eq_true rfl, Nat.le_of_ble_eq_true rfl⟩) hK hP hD hS hA [0, 1, 2, 3, 4, 5, 6, 7, 8, 9, 10, 11, 12, 13, 14, 15, 16, 17, 18, 19] [] [0, 1, 2, 3, 4, 5, 6, 7, 8, 9, 10, 11, 12, 13, 14, 15, 16, 17, 18, 19] [0, 1] rfl rfl rfl rfl (by decide) rfl rfl rfl 4 0 rfl rfl rfl hl.1 (Nat.le_of_ble_eq_true rfl) (Nat.le_of_ble_eq_true rfl) (Nat.le_of_ble_eq_true rfl) rfl dX4_price_2 (fun H locs hP hD hS => ?_)
  refine lv_iload_n hx hb dX4_price_5 rfl (lv_at hl 2 rfl) ?_
  refine lv_iconst (v := 1) hx hb dX4_price_6 (by decide) ?_
  refine lv_icmp_lt (tgt := 23) hx hb dX4_price_7 (by decide) (fun c9 => ?_) (fun c9 => ?_)
  · have h := ipos c9 h
    cases h
  · have h := ineg c9 h
    refine lv_iload_n hx hb dX4_price_10 rfl (lv_at hl 2 rfl) ?_
    refine lv_aload_n hx hb dX4_price_11 rfl (lv_at hl 0 rfl) ?_
    refine va_get (D := (dC, dI)) (ci := 4) (v := .ref nw) (C := RX4) (T := TX4) (N := 7) hx hb hts k4 hown hK hP 0 rfl rfl 0 (by decide) k3 (fun _ h9 => h9) rfl dX4_price_12 ?_
    refine va_get (D := (dC, dI)) (ci := 2) (v := .ref aC) (C := RX2) (T := TX2) (N := 7) hx hb hts k6 hown hK hP 1 rfl rfl 5 (by decide) k5 (fun _ h9 => h9) rfl dX4_price_15 ?_
    refine lv_iload_n hx hb dX4_price_18 rfl (lv_at hl 1 rfl) ?_
    obtain ⟨t1, e9, h⟩ := bd h
    refine q_iald hx hb hK hP 5 0 rfl rfl e9 dX4_price_19 ?_
    refine lv_icmp_le (tgt := 31) hx hb dX4_price_20 (by decide) (fun c9 => ?_) (fun c9 => ?_)
    · have h := ipos c9 h
      have h := rgtr h
      refine lv_aload_n hx hb dX4_price_31 rfl (lv_at hl 0 rfl) ?_
      refine va_get (D := (dC, dI)) (ci := 4) (v := .ref nw) (C := RX4) (T := TX4) (N := 7) hx hb hts k4 hown hK hP 0 rfl rfl 0 (by decide) k3 (fun _ h9 => h9) rfl dX4_price_32 ?_
      refine lv_iload_n hx hb dX4_price_35 rfl (lv_at hl 1 rfl) ?_
      refine lv_iload_n hx hb dX4_price_36 rfl (lv_at hl 2 rfl) ?_
      obtain ⟨r2, e9, h⟩ := bd h
      refine q_callVi (ret := r2) (As := [.int p0, .int p1]) (w1 := wX2 cyI nw aF aT aP aC aU nN nA nF nT nP nC nU) (ws2 := wX4 cyI cyZ ob nw aF aT aP aC aU cf aO aL aH aD aB uc aUT aUD aUB dr aDT aDW xS xT xA nN nA dFo dPa dLa nF nT nP nC nU cO cL cH cD cB uT uD uB dT dW) ⟨hx, hb, hml, hown, hts⟩ (c_X2_unitPrice l dC dI cyI nw aF aT aP aC aU H.size nN nA nF nT nP nC nU p0 p1 _ e9) (cwV 2 hts gX4_price_X2_unitPrice rfl rfl rfl (by decide +kernel) ⟨Nat.le_of_ble_eq_true rfl, Nat.le_of_ble_eq_true rfl⟩) hK hP hD hS hA [1, 2, 3, 4, 5, 6] [0, 7, 8, 9, 10, 11, 12, 13, 14, 15, 16, 17, 18, 19] [0, 14, 15, 16, 17, 18, 19, 1, 2, 3, 4, 5, 6, 7, 8, 9, 10, 11, 12, 13] [0] rfl rfl rfl rfl (by decide) rfl rfl rfl 2 0 rfl rfl rfl hl.1 (Nat.le_of_ble_eq_true rfl) (Nat.le_of_ble_eq_true rfl) (Nat.le_of_ble_eq_true rfl) rfl dX4_price_37 (fun H locs hP hD hS => ?_)
      cases h
      exact q_iret hQ hx hb hr hlocks hP hK hD hS dX4_price_40
    · have h := ineg c9 h
      cases h
set_option maxHeartbeats 4000000 in
set_option maxRecDepth 100000 in
theorem cx_X4_price (l : Launch) (hfl : l.stackTraces = false) (dC : Nat → ClassId) (dI : Nat → Nat → Nat) (cyI cyZ : ClassId) (ob nw aF aT aP aC aU cf aO aL aH aD aB uc aUT aUD aUB dr aDT aDW : Nat) (sz : Nat) (xS xT xA nN nA dFo dPa dLa : Int32) (nF nT nP nC nU cO cL cH cD cB uT uD uB dT dW : Nat → Int32) (p0 p1 : Int32) (k : Nat) (h : pX4_price nA nC nU p0 p1 = some (.inl k)) : vx_Met l yX4_price wsX4_price { frames := 7, cells := 1, slots := 6, locals := 102 } (va_Pc [.ref ob, .int p0, .int p1] (zPreX (dC, dI) (wX4 cyI cyZ ob nw aF aT aP aC aU cf aO aL aH aD aB uc aUT aUD aUB dr aDT aDW xS xT xA nN nA dFo dPa dLa nF nT nP nC nU cO cL cH cD cB uT uD uB dT dW) [(cyI, .int), (cyZ, .boolean)] sz)) (zNi (va_A (wX4 cyI cyZ ob nw aF aT aP aC aU cf aO aL aH aD aB uc aUT aUD aUB dr aDT aDW xS xT xA nN nA dFo dPa dLa nF nT nP nC nU cO cL cH cD cB uT uD uB dT dW) sz)) (zX (dC, dI) (wX4 cyI cyZ ob nw aF aT aP aC aU cf aO aL aH aD aB uc aUT aUD aUB dr aDT aDW xS xT xA nN nA dFo dPa dLa nF nT nP nC nU cO cL cH cD cB uT uD uB dT dW) [(cyI, .int), (cyZ, .boolean)] k (va_A (wX4 cyI cyZ ob nw aF aT aP aC aU cf aO aL aH aD aB uc aUT aUD aUB dr aDT aDW xS xT xA nN nA dFo dPa dLa nF nT nP nC nU cO cL cH cD cB uT uD uB dT dW) sz)) 1 6 (va_A (wX4 cyI cyZ ob nw aF aT aP aC aU cf aO aL aH aD aB uc aUT aUD aUB dr aDT aDW xS xT xA nN nA dFo dPa dLa nF nT nP nC nU cO cL cH cD cB uT uD uB dT dW) sz) := by
  refine q_ofXt (cc := cX4_price) (maxL := 3) (rt := (some .int)) (by decide) rfl (Nat.le_of_ble_eq_true rfl) ?_
  intro p e s m args below meth c ls A Q H locs hQ hx hb hr hts hown hlocks hml hA hK hP hD hS hl hout hXc
  have hl : lv_has ls 3 [(0, .ref ob), (1, .int p0), (2, .int p1)] := hl
  have k0 := hts (.classLink RX4 101 (zEx 1)) (by decide +kernel)
  have k1 := hts (.initialized (zEx 1)) (by decide +kernel)
  have k2 : ∀ w ∈ (vx_at0 RX4 103 (zEx 1) zNm).filter goodWord, w.before args s = true := fun w hw => hts w ((show ∀ w ∈ (vx_at0 RX4 103 (zEx 1) zNm).filter goodWord, w ∈ wsX4_price by decide +kernel) w hw)
  have k3 := hts (.fieldLink RX4 33 "ConvexConduit" "network" "LConvexConduit$Network;") (by decide +kernel)
  have k4 : ∀ w ∈ u_ws RX4 TX4 7, w ∈ wsX4_price := by decide +kernel
  have k5 := hts (.fieldLink RX4 95 "ConvexConduit$Network" "capacity" "[I") (by decide +kernel)
  have k6 : ∀ w ∈ u_ws RX2 TX2 7, w ∈ wsX4_price := by decide +kernel
  unfold pX4_price at h
  refine lv_aload_n hx hb dX4_price_0 rfl (lv_at hl 0 rfl) ?_
  refine lv_iload_n hx hb dX4_price_1 rfl (lv_at hl 1 rfl) ?_
  rcases bdxl h with e9 | ⟨_, e9, h⟩
  · exact q_callXv (As := [.int p0]) hQ ⟨hx, hb, hml, hown, hts⟩ hlocks (cx_X4_refuseOtherThanArc l hfl dC dI cyI cyZ ob nw aF aT aP aC aU cf aO aL aH aD aB uc aUT aUD aUB dr aDT aDW H.size xS xT xA nN nA dFo dPa dLa nF nT nP nC nU cO cL cH cD cB uT uD uB dT dW p0 _ e9) (cwV 1 hts gX4_price_X4_refuseOtherThanArc rfl rfl rfl (by decide +kernel) ⟨Nat.le_of_ble_eq_true rfl, Nat.le_of_ble_eq_true rfl⟩) hXc hout hK hP hD hS hA [0, 1, 2, 3, 4, 5, 6, 7, 8, 9, 10, 11, 12, 13, 14, 15, 16, 17, 18, 19] rfl 4 0 rfl rfl rfl hl.1 (Nat.le_of_ble_eq_true rfl) (Nat.le_of_ble_eq_true rfl) (Nat.le_of_ble_eq_true rfl) (Nat.le_of_ble_eq_true rfl) (Nat.le_of_ble_eq_true rfl) rfl dX4_price_2
  · refine q_callVv (As := [.int p0]) (w1 := wX4 cyI cyZ ob nw aF aT aP aC aU cf aO aL aH aD aB uc aUT aUD aUB dr aDT aDW xS xT xA nN nA dFo dPa dLa nF nT nP nC nU cO cL cH cD cB uT uD uB dT dW) (ws2 := wX4 cyI cyZ ob nw aF aT aP aC aU cf aO aL aH aD aB uc aUT aUD aUB dr aDT aDW xS xT xA nN nA dFo dPa dLa nF nT nP nC nU cO cL cH cD cB uT uD uB dT dW) ⟨hx, hb, hml, hown, hts⟩ (c_X4_refuseOtherThanArc l dC dI cyI cyZ ob nw aF aT aP aC aU cf aO aL aH aD aB uc aUT aUD aUB dr aDT aDW H.size xS xT xA nN nA dFo dPa dLa nF nT nP nC nU cO cL cH cD cB uT uD uB dT dW p0 _ e9) (cwV 1 hts gX4_price_X4_refuseOtherThanArc rfl rfl rfl (by decide +kernel) ⟨Nat.le_of_ble_eq_true rfl, Nat.le_of_ble_eq_true rfl⟩) hK hP hD hS hA [0, 1, 2, 3, 4, 5, 6, 7, 8, 9, 10, 11, 12, 13, 14, 15, 16, 17, 18, 19] [] [0, 1, 2, 3, 4, 5, 6, 7, 8, 9, 10, 11, 12, 13, 14, 15, 16, 17, 18, 19] [0, 1] rfl rfl rfl rfl (by decide) rfl rfl rfl 4 0 rfl rfl rfl hl.1 (Nat.le_of_ble_eq_true rfl) (Nat.le_of_ble_eq_true rfl) (Nat.le_of_ble_eq_true rfl) rfl dX4_price_2 (fun H locs hP hD hS => ?_)
    refine lv_iload_n hx hb dX4_price_5 rfl (lv_at hl 2 rfl) ?_
    refine lv_iconst (v := 1) hx hb dX4_price_6 (by decide) ?_
    refine lv_icmp_lt (tgt := 23) hx hb dX4_price_7 (by decide) (fun c9 => ?_) (fun c9 => ?_)
    · have h := ipos c9 h
      cases h
      exact q_throw hQ hx hb hfl hlocks hown (by decide +kernel) k0 k1 k2 (by decide +kernel) (by decide +kernel) hXc hout hK hP hD hS (hl.1.trans hml.symm) (Nat.le_of_ble_eq_true rfl) (Nat.le_of_ble_eq_true rfl) (Nat.le_of_ble_eq_true rfl) (Nat.le_of_ble_eq_true rfl) (Nat.le_of_ble_eq_true rfl) (Nat.le_of_ble_eq_true rfl) dX4_price_23 dX4_price_26 dX4_price_27 dX4_price_30
    · have h := ineg c9 h
      refine lv_iload_n hx hb dX4_price_10 rfl (lv_at hl 2 rfl) ?_
      refine lv_aload_n hx hb dX4_price_11 rfl (lv_at hl 0 rfl) ?_
      refine va_get (D := (dC, dI)) (ci := 4) (v := .ref nw) (C := RX4) (T := TX4) (N := 7) hx hb hts k4 hown hK hP 0 rfl rfl 0 (by decide) k3 (fun _ h9 => h9) rfl dX4_price_12 ?_
      refine va_get (D := (dC, dI)) (ci := 2) (v := .ref aC) (C := RX2) (T := TX2) (N := 7) hx hb hts k6 hown hK hP 1 rfl rfl 5 (by decide) k5 (fun _ h9 => h9) rfl dX4_price_15 ?_
      refine lv_iload_n hx hb dX4_price_18 rfl (lv_at hl 1 rfl) ?_
      obtain ⟨t1, e9, h⟩ := bd h
      refine q_iald hx hb hK hP 5 0 rfl rfl e9 dX4_price_19 ?_
      refine lv_icmp_le (tgt := 31) hx hb dX4_price_20 (by decide) (fun c9 => ?_) (fun c9 => ?_)
      · have h := ipos c9 h
        exact rgtl h
      · have h := ineg c9 h
        cases h
        exact q_throw hQ hx hb hfl hlocks hown (by decide +kernel) k0 k1 k2 (by decide +kernel) (by decide +kernel) hXc hout hK hP hD hS (hl.1.trans hml.symm) (Nat.le_of_ble_eq_true rfl) (Nat.le_of_ble_eq_true rfl) (Nat.le_of_ble_eq_true rfl) (Nat.le_of_ble_eq_true rfl) (Nat.le_of_ble_eq_true rfl) (Nat.le_of_ble_eq_true rfl) dX4_price_23 dX4_price_26 dX4_price_27 dX4_price_30
set_option maxHeartbeats 4000000 in
set_option maxRecDepth 100000 in
theorem c_X4_more (l : Launch) (dC : Nat → ClassId) (dI : Nat → Nat → Nat) (cyI cyZ : ClassId) (ob nw aF aT aP aC aU cf aO aL aH aD aB uc aUT aUD aUB dr aDT aDW : Nat) (sz : Nat) (xS xT xA nN nA dFo dPa dLa : Int32) (nF nT nP nC nU cO cL cH cD cB uT uD uB dT dW : Nat → Int32) (p0 : Int32) (N : Nat) (res : Int32 × (Nat → Int32) × (Nat → Int32) × (Nat → Int32) × (Nat → Int32) × (Nat → Int32)) (h : pX4_more N xS xT xA nN nA nF nT nC nU cO cL cH cD cB p0 = some (.inr res)) : Met l yX4_more wsX4_more { frames := 6, cells := 0, slots := 0, locals := 136 } (va_Pc [.ref ob, .int p0] (zPre (dC, dI) (wX4 cyI cyZ ob nw aF aT aP aC aU cf aO aL aH aD aB uc aUT aUD aUB dr aDT aDW xS xT xA nN nA dFo dPa dLa nF nT nP nC nU cO cL cH cD cB uT uD uB dT dW) [(cyI, .int), (cyZ, .boolean)] sz)) (zQi (dC, dI) (wX4 cyI cyZ ob nw aF aT aP aC aU cf aO aL aH aD aB uc aUT aUD aUB dr aDT aDW xS xT xA nN nA dFo dPa dLa nF nT nP nC nU res.2.1 res.2.2.1 res.2.2.2.1 res.2.2.2.2.1 res.2.2.2.2.2 uT uD uB dT dW) [(cyI, .int), (cyZ, .boolean)] (res.1) (va_A (wX4 cyI cyZ ob nw aF aT aP aC aU cf aO aL aH aD aB uc aUT aUD aUB dr aDT aDW xS xT xA nN nA dFo dPa dLa nF nT nP nC nU cO cL cH cD cB uT uD uB dT dW) sz)) 0 0 (va_A (wX4 cyI cyZ ob nw aF aT aP aC aU cf aO aL aH aD aB uc aUT aUD aUB dr aDT aDW xS xT xA nN nA dFo dPa dLa nF nT nP nC nU cO cL cH cD cB uT uD uB dT dW) sz) := by
  refine q_ofWi (cc := cX4_more) (maxL := 2) (rt := (some .int)) (by decide) rfl (Nat.le_of_ble_eq_true rfl) ?_
  intro p e s m args below meth c ls A Q H locs hQ hx hb hr hts hown hlocks hml hA hK hP hD hS hl
  have hl : lv_has ls 2 [(0, .ref ob), (1, .int p0)] := hl
  have k0 := hts (.fieldLink RX4 42 "ConvexConduit" "cheapest" "LConvexConduit$CheapestFlow;") (by decide +kernel)
  have k1 : ∀ w ∈ u_ws RX4 TX4 7, w ∈ wsX4_more := by decide +kernel
  have k2 := hts (.fieldLink RX4 9 "ConvexConduit" "source" "I") (by decide +kernel)
  have k3 := hts (.fieldLink RX4 13 "ConvexConduit" "target" "I") (by decide +kernel)
  have k4 := hts (.fieldLink RX4 16 "ConvexConduit" "amount" "I") (by decide +kernel)
  unfold pX4_more at h
  refine lv_aload_n hx hb dX4_more_0 rfl (lv_at hl 0 rfl) ?_
  refine lv_iload_n hx hb dX4_more_1 rfl (lv_at hl 1 rfl) ?_
  obtain ⟨_, e9, h⟩ := bdxr h
  refine q_callVv (As := [.int p0]) (w1 := wX4 cyI cyZ ob nw aF aT aP aC aU cf aO aL aH aD aB uc aUT aUD aUB dr aDT aDW xS xT xA nN nA dFo dPa dLa nF nT nP nC nU cO cL cH cD cB uT uD uB dT dW) (ws2 := wX4 cyI cyZ ob nw aF aT aP aC aU cf aO aL aH aD aB uc aUT aUD aUB dr aDT aDW xS xT xA nN nA dFo dPa dLa nF nT nP nC nU cO cL cH cD cB uT uD uB dT dW) ⟨hx, hb, hml, hown, hts⟩ (c_X4_refuseOtherThanNode l dC dI cyI cyZ ob nw aF aT aP aC aU cf aO aL aH aD aB uc aUT aUD aUB dr aDT aDW H.size xS xT xA nN nA dFo dPa dLa nF nT nP nC nU cO cL cH cD cB uT uD uB dT dW p0 _ e9) (cwV 1 hts gX4_more_X4_refuseOtherThanNode rfl rfl rfl (by decide +kernel) ⟨Nat.le_of_ble_eq_true rfl, Nat.le_of_ble_eq_true rfl⟩) hK hP hD hS hA [0, 1, 2, 3, 4, 5, 6, 7, 8, 9, 10, 11, 12, 13, 14, 15, 16, 17, 18, 19] [] [0, 1, 2, 3, 4, 5, 6, 7, 8, 9, 10, 11, 12, 13, 14, 15, 16, 17, 18, 19] [0, 1] rfl rfl rfl rfl (by decide) rfl rfl rfl 4 0 rfl rfl rfl hl.1 (Nat.le_of_ble_eq_true rfl) (Nat.le_of_ble_eq_true rfl) (Nat.le_of_ble_eq_true rfl) rfl dX4_more_2 (fun H locs hP hD hS => ?_)
  have h := rgtr h
  refine lv_aload_n hx hb dX4_more_5 rfl (lv_at hl 0 rfl) ?_
  refine va_get (D := (dC, dI)) (ci := 4) (v := .ref cf) (C := RX4) (T := TX4) (N := 7) hx hb hts k1 hown hK hP 0 rfl rfl 1 (by decide) k0 (fun _ h9 => h9) rfl dX4_more_6 ?_
  refine lv_aload_n hx hb dX4_more_9 rfl (lv_at hl 0 rfl) ?_
  refine va_get (D := (dC, dI)) (ci := 4) (v := .int xS) (C := RX4) (T := TX4) (N := 7) hx hb hts k1 hown hK hP 0 rfl rfl 4 (by decide) k2 (fun _ h9 => h9) rfl dX4_more_10 ?_
  refine lv_aload_n hx hb dX4_more_13 rfl (lv_at hl 0 rfl) ?_
  refine va_get (D := (dC, dI)) (ci := 4) (v := .int xT) (C := RX4) (T := TX4) (N := 7) hx hb hts k1 hown hK hP 0 rfl rfl 5 (by decide) k3 (fun _ h9 => h9) rfl dX4_more_14 ?_
  refine lv_aload_n hx hb dX4_more_17 rfl (lv_at hl 0 rfl) ?_
  refine va_get (D := (dC, dI)) (ci := 4) (v := .int xA) (C := RX4) (T := TX4) (N := 7) hx hb hts k1 hown hK hP 0 rfl rfl 6 (by decide) k4 (fun _ h9 => h9) rfl dX4_more_18 ?_
  obtain ⟨b1, cO_2, cL_3, cH_4, cD_5, cB_6, e9, h⟩ := bd6 h
  refine q_callVi (ret := b2i b1) (As := [.int xS, .int xT, .int xA]) (w1 := wX0 cyI cf nw aF aT aP aC aU aO aL aH aD aB nN nA nF nT nP nC nU cO_2 cL_3 cH_4 cD_5 cB_6) (ws2 := wX4 cyI cyZ ob nw aF aT aP aC aU cf aO aL aH aD aB uc aUT aUD aUB dr aDT aDW xS xT xA nN nA dFo dPa dLa nF nT nP nC nU cO_2 cL_3 cH_4 cD_5 cB_6 uT uD uB dT dW) ⟨hx, hb, hml, hown, hts⟩ (c_X0_meet l dC dI cyI cf nw aF aT aP aC aU aO aL aH aD aB H.size nN nA nF nT nP nC nU cO cL cH cD cB xS xT xA N _ e9) (cwV 3 hts gX4_more_X0_meet rfl rfl rfl (by decide +kernel) ⟨Nat.le_of_ble_eq_true rfl, Nat.le_of_ble_eq_true rfl⟩) hK hP hD hS hA [7, 1, 2, 3, 4, 5, 6, 8, 9, 10, 11, 12] [0, 13, 14, 15, 16, 17, 18, 19] [0, 9, 10, 11, 12, 13, 14, 8, 15, 16, 17, 18, 19, 1, 2, 3, 4, 5, 6, 7] [0] rfl rfl rfl rfl (by decide) rfl rfl rfl 0 0 rfl rfl rfl hl.1 (Nat.le_of_ble_eq_true rfl) (Nat.le_of_ble_eq_true rfl) (Nat.le_of_ble_eq_true rfl) rfl dX4_more_21 (fun H locs hP hD hS => ?_)
  refine lv_if_ne (tgt := 29) hx hb dX4_more_24 (by decide) (fun c9 => ?_) (fun c9 => ?_)
  · have h := ineg c9 h
    refine lv_aload_n hx hb dX4_more_29 rfl (lv_at hl 0 rfl) ?_
    refine va_get (D := (dC, dI)) (ci := 4) (v := .ref cf) (C := RX4) (T := TX4) (N := 7) hx hb hts k1 hown hK hP 0 rfl rfl 1 (by decide) k0 (fun _ h9 => h9) rfl dX4_more_30 ?_
    refine lv_aload_n hx hb dX4_more_33 rfl (lv_at hl 0 rfl) ?_
    refine va_get (D := (dC, dI)) (ci := 4) (v := .int xS) (C := RX4) (T := TX4) (N := 7) hx hb hts k1 hown hK hP 0 rfl rfl 4 (by decide) k2 (fun _ h9 => h9) rfl dX4_more_34 ?_
    refine lv_iload_n hx hb dX4_more_37 rfl (lv_at hl 1 rfl) ?_
    obtain ⟨r7, cD_8, cB_9, e9, h⟩ := bd3 h
    refine q_callVi (ret := r7) (As := [.int xS, .int p0]) (w1 := wX0 cyI cf nw aF aT aP aC aU aO aL aH aD aB nN nA nF nT nP nC nU cO_2 cL_3 cH_4 cD_8 cB_9) (ws2 := wX4 cyI cyZ ob nw aF aT aP aC aU cf aO aL aH aD aB uc aUT aUD aUB dr aDT aDW xS xT xA nN nA dFo dPa dLa nF nT nP nC nU cO_2 cL_3 cH_4 cD_8 cB_9 uT uD uB dT dW) ⟨hx, hb, hml, hown, hts⟩ (c_X0_priceOfUnitMore l dC dI cyI cf nw aF aT aP aC aU aO aL aH aD aB H.size nN nA nF nT nP nC nU cO_2 cL_3 cH_4 cD_5 cB_6 xS p0 N _ e9) (cwV 2 hts gX4_more_X0_priceOfUnitMore rfl rfl rfl (by decide +kernel) ⟨Nat.le_of_ble_eq_true rfl, Nat.le_of_ble_eq_true rfl⟩) hK hP hD hS hA [7, 1, 2, 3, 4, 5, 6, 8, 9, 10, 11, 12] [0, 13, 14, 15, 16, 17, 18, 19] [0, 9, 10, 11, 12, 13, 14, 8, 15, 16, 17, 18, 19, 1, 2, 3, 4, 5, 6, 7] [0] rfl rfl rfl rfl (by decide) rfl rfl rfl 0 0 rfl rfl rfl hl.1 (Nat.le_of_ble_eq_true rfl) (Nat.le_of_ble_eq_true rfl) (Nat.le_of_ble_eq_true rfl) rfl dX4_more_38 (fun H locs hP hD hS => ?_)
    cases h
    exact q_iret hQ hx hb hr hlocks hP hK hD hS dX4_more_41
  · have h := ipos c9 h
    refine lv_iconst (v := -1) hx hb dX4_more_27 (by decide) ?_
    cases h
    exact q_iret hQ hx hb hr hlocks hP hK hD hS dX4_more_28
set_option maxHeartbeats 4000000 in
set_option maxRecDepth 100000 in
theorem cx_X4_more (l : Launch) (hfl : l.stackTraces = false) (dC : Nat → ClassId) (dI : Nat → Nat → Nat) (cyI cyZ : ClassId) (ob nw aF aT aP aC aU cf aO aL aH aD aB uc aUT aUD aUB dr aDT aDW : Nat) (sz : Nat) (xS xT xA nN nA dFo dPa dLa : Int32) (nF nT nP nC nU cO cL cH cD cB uT uD uB dT dW : Nat → Int32) (p0 : Int32) (N : Nat) (k : Nat) (h : pX4_more N xS xT xA nN nA nF nT nC nU cO cL cH cD cB p0 = some (.inl k)) : vx_Met l yX4_more wsX4_more { frames := 7, cells := 1, slots := 6, locals := 136 } (va_Pc [.ref ob, .int p0] (zPreX (dC, dI) (wX4 cyI cyZ ob nw aF aT aP aC aU cf aO aL aH aD aB uc aUT aUD aUB dr aDT aDW xS xT xA nN nA dFo dPa dLa nF nT nP nC nU cO cL cH cD cB uT uD uB dT dW) [(cyI, .int), (cyZ, .boolean)] sz)) (zNi (va_A (wX4 cyI cyZ ob nw aF aT aP aC aU cf aO aL aH aD aB uc aUT aUD aUB dr aDT aDW xS xT xA nN nA dFo dPa dLa nF nT nP nC nU cO cL cH cD cB uT uD uB dT dW) sz)) (zX (dC, dI) (wX4 cyI cyZ ob nw aF aT aP aC aU cf aO aL aH aD aB uc aUT aUD aUB dr aDT aDW xS xT xA nN nA dFo dPa dLa nF nT nP nC nU cO cL cH cD cB uT uD uB dT dW) [(cyI, .int), (cyZ, .boolean)] k (va_A (wX4 cyI cyZ ob nw aF aT aP aC aU cf aO aL aH aD aB uc aUT aUD aUB dr aDT aDW xS xT xA nN nA dFo dPa dLa nF nT nP nC nU cO cL cH cD cB uT uD uB dT dW) sz)) 1 6 (va_A (wX4 cyI cyZ ob nw aF aT aP aC aU cf aO aL aH aD aB uc aUT aUD aUB dr aDT aDW xS xT xA nN nA dFo dPa dLa nF nT nP nC nU cO cL cH cD cB uT uD uB dT dW) sz) := by
  refine q_ofXt (cc := cX4_more) (maxL := 2) (rt := (some .int)) (by decide) rfl (Nat.le_of_ble_eq_true rfl) ?_
  intro p e s m args below meth c ls A Q H locs hQ hx hb hr hts hown hlocks hml hA hK hP hD hS hl hout hXc
  have hl : lv_has ls 2 [(0, .ref ob), (1, .int p0)] := hl
  have k0 := hts (.fieldLink RX4 42 "ConvexConduit" "cheapest" "LConvexConduit$CheapestFlow;") (by decide +kernel)
  have k1 : ∀ w ∈ u_ws RX4 TX4 7, w ∈ wsX4_more := by decide +kernel
  have k2 := hts (.fieldLink RX4 9 "ConvexConduit" "source" "I") (by decide +kernel)
  have k3 := hts (.fieldLink RX4 13 "ConvexConduit" "target" "I") (by decide +kernel)
  have k4 := hts (.fieldLink RX4 16 "ConvexConduit" "amount" "I") (by decide +kernel)
  unfold pX4_more at h
  refine lv_aload_n hx hb dX4_more_0 rfl (lv_at hl 0 rfl) ?_
  refine lv_iload_n hx hb dX4_more_1 rfl (lv_at hl 1 rfl) ?_
  rcases bdxl h with e9 | ⟨_, e9, h⟩
  · exact q_callXv (As := [.int p0]) hQ ⟨hx, hb, hml, hown, hts⟩ hlocks (cx_X4_refuseOtherThanNode l hfl dC dI cyI cyZ ob nw aF aT aP aC aU cf aO aL aH aD aB uc aUT aUD aUB dr aDT aDW H.size xS xT xA nN nA dFo dPa dLa nF nT nP nC nU cO cL cH cD cB uT uD uB dT dW p0 _ e9) (cwV 1 hts gX4_more_X4_refuseOtherThanNode rfl rfl rfl (by decide +kernel) ⟨Nat.le_of_ble_eq_true rfl, Nat.le_of_ble_eq_true rfl⟩) hXc hout hK hP hD hS hA [0, 1, 2, 3, 4, 5, 6, 7, 8, 9, 10, 11, 12, 13, 14, 15, 16, 17, 18, 19] rfl 4 0 rfl rfl rfl hl.1 (Nat.le_of_ble_eq_true rfl) (Nat.le_of_ble_eq_true rfl) (Nat.le_of_ble_eq_true rfl) (Nat.le_of_ble_eq_true rfl) (Nat.le_of_ble_eq_true rfl) rfl dX4_more_2
  · refine q_callVv (As := [.int p0]) (w1 := wX4 cyI cyZ ob nw aF aT aP aC aU cf aO aL aH aD aB uc aUT aUD aUB dr aDT aDW xS xT xA nN nA dFo dPa dLa nF nT nP nC nU cO cL cH cD cB uT uD uB dT dW) (ws2 := wX4 cyI cyZ ob nw aF aT aP aC aU cf aO aL aH aD aB uc aUT aUD aUB dr aDT aDW xS xT xA nN nA dFo dPa dLa nF nT nP nC nU cO cL cH cD cB uT uD uB dT dW) ⟨hx, hb, hml, hown, hts⟩ (c_X4_refuseOtherThanNode l dC dI cyI cyZ ob nw aF aT aP aC aU cf aO aL aH aD aB uc aUT aUD aUB dr aDT aDW H.size xS xT xA nN nA dFo dPa dLa nF nT nP nC nU cO cL cH cD cB uT uD uB dT dW p0 _ e9) (cwV 1 hts gX4_more_X4_refuseOtherThanNode rfl rfl rfl (by decide +kernel) ⟨Nat.le_of_ble_eq_true rfl, Nat.le_of_ble_eq_true rfl⟩) hK hP hD hS hA [0, 1, 2, 3, 4, 5, 6, 7, 8, 9, 10, 11, 12, 13, 14, 15, 16, 17, 18, 19] [] [0, 1, 2, 3, 4, 5, 6, 7, 8, 9, 10, 11, 12, 13, 14, 15, 16, 17, 18, 19] [0, 1] rfl rfl rfl rfl (by decide) rfl rfl rfl 4 0 rfl rfl rfl hl.1 (Nat.le_of_ble_eq_true rfl) (Nat.le_of_ble_eq_true rfl) (Nat.le_of_ble_eq_true rfl) rfl dX4_more_2 (fun H locs hP hD hS => ?_)
    exact rgtl h
set_option maxHeartbeats 4000000 in
set_option maxRecDepth 100000 in
theorem c_X4_flow (l : Launch) (dC : Nat → ClassId) (dI : Nat → Nat → Nat) (cyI cyZ : ClassId) (ob nw aF aT aP aC aU cf aO aL aH aD aB uc aUT aUD aUB dr aDT aDW : Nat) (sz : Nat) (xS xT xA nN nA dFo dPa dLa : Int32) (nF nT nP nC nU cO cL cH cD cB uT uD uB dT dW : Nat → Int32) (p0 : Int32) (N : Nat) (res : Int32 × (Nat → Int32) × (Nat → Int32) × (Nat → Int32) × (Nat → Int32) × (Nat → Int32)) (h : pX4_flow N xS xT xA nN nA nF nT nC nU cO cL cH cD cB p0 = some (.inr res)) : Met l yX4_flow wsX4_flow { frames := 6, cells := 0, slots := 0, locals := 143 } (va_Pc [.ref ob, .int p0] (zPre (dC, dI) (wX4 cyI cyZ ob nw aF aT aP aC aU cf aO aL aH aD aB uc aUT aUD aUB dr aDT aDW xS xT xA nN nA dFo dPa dLa nF nT nP nC nU cO cL cH cD cB uT uD uB dT dW) [(cyI, .int), (cyZ, .boolean)] sz)) (zQi (dC, dI) (wX4 cyI cyZ ob nw aF aT aP aC aU cf aO aL aH aD aB uc aUT aUD aUB dr aDT aDW xS xT xA nN nA dFo dPa dLa nF nT nP nC nU res.2.1 res.2.2.1 res.2.2.2.1 res.2.2.2.2.1 res.2.2.2.2.2 uT uD uB dT dW) [(cyI, .int), (cyZ, .boolean)] (res.1) (va_A (wX4 cyI cyZ ob nw aF aT aP aC aU cf aO aL aH aD aB uc aUT aUD aUB dr aDT aDW xS xT xA nN nA dFo dPa dLa nF nT nP nC nU cO cL cH cD cB uT uD uB dT dW) sz)) 0 0 (va_A (wX4 cyI cyZ ob nw aF aT aP aC aU cf aO aL aH aD aB uc aUT aUD aUB dr aDT aDW xS xT xA nN nA dFo dPa dLa nF nT nP nC nU cO cL cH cD cB uT uD uB dT dW) sz) := by
  refine q_ofWi (cc := cX4_flow) (maxL := 3) (rt := (some .int)) (by decide) rfl (Nat.le_of_ble_eq_true rfl) ?_
  intro p e s m args below meth c ls A Q H locs hQ hx hb hr hts hown hlocks hml hA hK hP hD hS hl
  have hl : lv_has ls 3 [(0, .ref ob), (1, .int p0)] := hl
  have k0 := hts (.fieldLink RX4 42 "ConvexConduit" "cheapest" "LConvexConduit$CheapestFlow;") (by decide +kernel)
  have k1 : ∀ w ∈ u_ws RX4 TX4 7, w ∈ wsX4_flow := by decide +kernel
  have k2 := hts (.fieldLink RX4 9 "ConvexConduit" "source" "I") (by decide +kernel)
  have k3 := hts (.fieldLink RX4 13 "ConvexConduit" "target" "I") (by decide +kernel)
  have k4 := hts (.fieldLink RX4 16 "ConvexConduit" "amount" "I") (by decide +kernel)
  unfold pX4_flow at h
  refine lv_aload_n hx hb dX4_flow_0 rfl (lv_at hl 0 rfl) ?_
  refine lv_iload_n hx hb dX4_flow_1 rfl (lv_at hl 1 rfl) ?_
  obtain ⟨_, e9, h⟩ := bdxr h
  refine q_callVv (As := [.int p0]) (w1 := wX4 cyI cyZ ob nw aF aT aP aC aU cf aO aL aH aD aB uc aUT aUD aUB dr aDT aDW xS xT xA nN nA dFo dPa dLa nF nT nP nC nU cO cL cH cD cB uT uD uB dT dW) (ws2 := wX4 cyI cyZ ob nw aF aT aP aC aU cf aO aL aH aD aB uc aUT aUD aUB dr aDT aDW xS xT xA nN nA dFo dPa dLa nF nT nP nC nU cO cL cH cD cB uT uD uB dT dW) ⟨hx, hb, hml, hown, hts⟩ (c_X4_refuseOtherThanArc l dC dI cyI cyZ ob nw aF aT aP aC aU cf aO aL aH aD aB uc aUT aUD aUB dr aDT aDW H.size xS xT xA nN nA dFo dPa dLa nF nT nP nC nU cO cL cH cD cB uT uD uB dT dW p0 _ e9) (cwV 1 hts gX4_flow_X4_refuseOtherThanArc rfl rfl rfl (by decide +kernel) ⟨Nat.le_of_ble_eq_true rfl, Nat.le_of_ble_eq_true rfl⟩) hK hP hD hS hA [0, 1, 2, 3, 4, 5, 6, 7, 8, 9, 10, 11, 12, 13, 14, 15, 16, 17, 18, 19] [] [0, 1, 2, 3, 4, 5, 6, 7, 8, 9, 10, 11, 12, 13, 14, 15, 16, 17, 18, 19] [0, 1] rfl rfl rfl rfl (by decide) rfl rfl rfl 4 0 rfl rfl rfl hl.1 (Nat.le_of_ble_eq_true rfl) (Nat.le_of_ble_eq_true rfl) (Nat.le_of_ble_eq_true rfl) rfl dX4_flow_2 (fun H locs hP hD hS => ?_)
  have h := rgtr h
  refine lv_aload_n hx hb dX4_flow_5 rfl (lv_at hl 0 rfl) ?_
  refine va_get (D := (dC, dI)) (ci := 4) (v := .ref cf) (C := RX4) (T := TX4) (N := 7) hx hb hts k1 hown hK hP 0 rfl rfl 1 (by decide) k0 (fun _ h9 => h9) rfl dX4_flow_6 ?_
  refine lv_aload_n hx hb dX4_flow_9 rfl (lv_at hl 0 rfl) ?_
  refine va_get (D := (dC, dI)) (ci := 4) (v := .int xS) (C := RX4) (T := TX4) (N := 7) hx hb hts k1 hown hK hP 0 rfl rfl 4 (by decide) k2 (fun _ h9 => h9) rfl dX4_flow_10 ?_
  refine lv_aload_n hx hb dX4_flow_13 rfl (lv_at hl 0 rfl) ?_
  refine va_get (D := (dC, dI)) (ci := 4) (v := .int xT) (C := RX4) (T := TX4) (N := 7) hx hb hts k1 hown hK hP 0 rfl rfl 5 (by decide) k3 (fun _ h9 => h9) rfl dX4_flow_14 ?_
  refine lv_aload_n hx hb dX4_flow_17 rfl (lv_at hl 0 rfl) ?_
  refine va_get (D := (dC, dI)) (ci := 4) (v := .int xA) (C := RX4) (T := TX4) (N := 7) hx hb hts k1 hown hK hP 0 rfl rfl 6 (by decide) k4 (fun _ h9 => h9) rfl dX4_flow_18 ?_
  obtain ⟨b1, cO_2, cL_3, cH_4, cD_5, cB_6, e9, h⟩ := bd6 h
  refine q_callVi (ret := b2i b1) (As := [.int xS, .int xT, .int xA]) (w1 := wX0 cyI cf nw aF aT aP aC aU aO aL aH aD aB nN nA nF nT nP nC nU cO_2 cL_3 cH_4 cD_5 cB_6) (ws2 := wX4 cyI cyZ ob nw aF aT aP aC aU cf aO aL aH aD aB uc aUT aUD aUB dr aDT aDW xS xT xA nN nA dFo dPa dLa nF nT nP nC nU cO_2 cL_3 cH_4 cD_5 cB_6 uT uD uB dT dW) ⟨hx, hb, hml, hown, hts⟩ (c_X0_meet l dC dI cyI cf nw aF aT aP aC aU aO aL aH aD aB H.size nN nA nF nT nP nC nU cO cL cH cD cB xS xT xA N _ e9) (cwV 3 hts gX4_flow_X0_meet rfl rfl rfl (by decide +kernel) ⟨Nat.le_of_ble_eq_true rfl, Nat.le_of_ble_eq_true rfl⟩) hK hP hD hS hA [7, 1, 2, 3, 4, 5, 6, 8, 9, 10, 11, 12] [0, 13, 14, 15, 16, 17, 18, 19] [0, 9, 10, 11, 12, 13, 14, 8, 15, 16, 17, 18, 19, 1, 2, 3, 4, 5, 6, 7] [0] rfl rfl rfl rfl (by decide) rfl rfl rfl 0 0 rfl rfl rfl hl.1 (Nat.le_of_ble_eq_true rfl) (Nat.le_of_ble_eq_true rfl) (Nat.le_of_ble_eq_true rfl) rfl dX4_flow_21 (fun H locs hP hD hS => ?_)
  refine lv_if_ne (tgt := 29) hx hb dX4_flow_24 (by decide) (fun c9 => ?_) (fun c9 => ?_)
  · have h := ineg c9 h
    refine lv_aload_n hx hb dX4_flow_29 rfl (lv_at hl 0 rfl) ?_
    refine va_get (D := (dC, dI)) (ci := 4) (v := .ref cf) (C := RX4) (T := TX4) (N := 7) hx hb hts k1 hown hK hP 0 rfl rfl 1 (by decide) k0 (fun _ h9 => h9) rfl dX4_flow_30 ?_
    obtain ⟨cL_7, cH_8, cD_9, cB_10, e9, h⟩ := bd4 h
    refine q_callVv (As := []) (w1 := wX0 cyI cf nw aF aT aP aC aU aO aL aH aD aB nN nA nF nT nP nC nU cO_2 cL_7 cH_8 cD_9 cB_10) (ws2 := wX4 cyI cyZ ob nw aF aT aP aC aU cf aO aL aH aD aB uc aUT aUD aUB dr aDT aDW xS xT xA nN nA dFo dPa dLa nF nT nP nC nU cO_2 cL_7 cH_8 cD_9 cB_10 uT uD uB dT dW) ⟨hx, hb, hml, hown, hts⟩ (c_X0_keepToCheapest l dC dI cyI cf nw aF aT aP aC aU aO aL aH aD aB H.size nN nA nF nT nP nC nU cO_2 cL_3 cH_4 cD_5 cB_6 N _ e9) (cwV 0 hts gX4_flow_X0_keepToCheapest rfl rfl rfl (by decide +kernel) ⟨Nat.le_of_ble_eq_true rfl, Nat.le_of_ble_eq_true rfl⟩) hK hP hD hS hA [7, 1, 2, 3, 4, 5, 6, 8, 9, 10, 11, 12] [0, 13, 14, 15, 16, 17, 18, 19] [0, 9, 10, 11, 12, 13, 14, 8, 15, 16, 17, 18, 19, 1, 2, 3, 4, 5, 6, 7] [0] rfl rfl rfl rfl (by decide) rfl rfl rfl 0 0 rfl rfl rfl hl.1 (Nat.le_of_ble_eq_true rfl) (Nat.le_of_ble_eq_true rfl) (Nat.le_of_ble_eq_true rfl) rfl dX4_flow_33 (fun H locs hP hD hS => ?_)
    refine lv_iconst (v := 0) hx hb dX4_flow_36 (by decide) ?_
    refine lv_istore_n (lv' := [(2, .int 0), (0, .ref ob), (1, .int p0)]) hx hb dX4_flow_37 rfl hl (by decide) rfl (fun ls hl => ?_)
    obtain ⟨x2_21, cO_22, cL_23, cH_24, cB_25, e0, h⟩ := bd5 h
    have hT0 : ∀ (H : Heap) (locs : List Loc), va_P (dC, dI) vwCl (wX4 cyI cyZ ob nw aF aT aP aC aU cf aO aL aH aD aB uc aUT aUD aUB dr aDT aDW xS xT xA nN nA dFo dPa dLa nF nT nP nC nU cO_22 cL_23 cH_24 cD_9 cB_25 uT uD uB dT dW) H → va_D A (wX4 cyI cyZ ob nw aF aT aP aC aU cf aO aL aH aD aB uc aUT aUD aUB dr aDT aDW xS xT xA nN nA dFo dPa dLa nF nT nP nC nU cO_22 cL_23 cH_24 cD_9 cB_25 uT uD uB dT dW) → va_S A s.heap H locs → ∀ ls : Array Slot, lv_has ls 3 [(0, .ref ob), (1, .int p0), (2, .int x2_21)] → W p l e { frames := 6, cells := 0, slots := 0, locals := 143 } s m args below meth c H locs 0 0 Q (F0 m 58 ls []) := by
      intro H locs hP hD hS ls hl
      refine lv_aload_n hx hb dX4_flow_58 rfl (lv_at hl 0 rfl) ?_
      refine va_get (D := (dC, dI)) (ci := 4) (v := .ref cf) (C := RX4) (T := TX4) (N := 7) hx hb hts k1 hown hK hP 0 rfl rfl 1 (by decide) k0 (fun _ h9 => h9) rfl dX4_flow_59 ?_
      refine lv_iload_n hx hb dX4_flow_62 rfl (lv_at hl 1 rfl) ?_
      obtain ⟨r26, cO_27, cL_28, cH_29, cB_30, e9, h⟩ := bd5 h
      refine q_callVi (ret := r26) (As := [.int p0]) (w1 := wX0 cyI cf nw aF aT aP aC aU aO aL aH aD aB nN nA nF nT nP nC nU cO_27 cL_28 cH_29 cD_9 cB_30) (ws2 := wX4 cyI cyZ ob nw aF aT aP aC aU cf aO aL aH aD aB uc aUT aUD aUB dr aDT aDW xS xT xA nN nA dFo dPa dLa nF nT nP nC nU cO_27 cL_28 cH_29 cD_9 cB_30 uT uD uB dT dW) ⟨hx, hb, hml, hown, hts⟩ (c_X0_lower l dC dI cyI cf nw aF aT aP aC aU aO aL aH aD aB H.size nN nA nF nT nP nC nU cO_22 cL_23 cH_24 cD_9 cB_25 p0 N _ e9) (cwV 1 hts gX4_flow_X0_lower rfl rfl rfl (by decide +kernel) ⟨Nat.le_of_ble_eq_true rfl, Nat.le_of_ble_eq_true rfl⟩) hK hP hD hS hA [7, 1, 2, 3, 4, 5, 6, 8, 9, 10, 11, 12] [0, 13, 14, 15, 16, 17, 18, 19] [0, 9, 10, 11, 12, 13, 14, 8, 15, 16, 17, 18, 19, 1, 2, 3, 4, 5, 6, 7] [0] rfl rfl rfl rfl (by decide) rfl rfl rfl 0 0 rfl rfl rfl hl.1 (Nat.le_of_ble_eq_true rfl) (Nat.le_of_ble_eq_true rfl) (Nat.le_of_ble_eq_true rfl) rfl dX4_flow_63 (fun H locs hP hD hS => ?_)
      cases h
      exact q_iret hQ hx hb hr hlocks hP hK hD hS dX4_flow_66
    have hL0 : ∀ (n9 : Nat) (x2_11 : Int32) (cO_12 : Nat → Int32) (cL_13 : Nat → Int32) (cH_14 : Nat → Int32) (cB_15 : Nat → Int32), lp (un5 (pX4_flow_l38 N nA nF nN nT p0)) n9 ((x2_11, cO_12, cL_13, cH_14, cB_15)) = some ((x2_21, cO_22, cL_23, cH_24, cB_25)) → ∀ (H : Heap) (locs : List Loc), va_P (dC, dI) vwCl (wX4 cyI cyZ ob nw aF aT aP aC aU cf aO aL aH aD aB uc aUT aUD aUB dr aDT aDW xS xT xA nN nA dFo dPa dLa nF nT nP nC nU cO_12 cL_13 cH_14 cD_9 cB_15 uT uD uB dT dW) H → va_D A (wX4 cyI cyZ ob nw aF aT aP aC aU cf aO aL aH aD aB uc aUT aUD aUB dr aDT aDW xS xT xA nN nA dFo dPa dLa nF nT nP nC nU cO_12 cL_13 cH_14 cD_9 cB_15 uT uD uB dT dW) → va_S A s.heap H locs → ∀ ls : Array Slot, lv_has ls 3 [(0, .ref ob), (1, .int p0), (2, .int x2_11)] → W p l e { frames := 6, cells := 0, slots := 0, locals := 143 } s m args below meth c H locs 0 0 Q (F0 m 38 ls []) := by
      intro n9
      induction n9 with
      | zero =>
        intro x2_11 cO_12 cL_13 cH_14 cB_15 h
        exact lp0 h
      | succ n9 ih0 =>
        intro x2_11 cO_12 cL_13 cH_14 cB_15 h H locs hP hD hS ls hl
        obtain ⟨o9, g, h⟩ := lps h
        replace g : pX4_flow_l38 N nA nF nN nT p0 x2_11 cO_12 cL_13 cH_14 cB_15 = some o9 := g
        unfold pX4_flow_l38 at g
        refine lv_iload_n hx hb dX4_flow_38 rfl (lv_at hl 2 rfl) ?_
        refine lv_iload_n hx hb dX4_flow_39 rfl (lv_at hl 1 rfl) ?_
        refine lv_icmp_ge (tgt := 58) hx hb dX4_flow_40 (by decide) (fun c9 => ?_) (fun c9 => ?_)
        · have g := ipos c9 g
          cases g
          have h := lpx h
          cases h
          exact hT0 _ _ hP hD hS _ (lv_sub hl [0, 1, 2] rfl)
        · have g := ineg c9 g
          refine lv_aload_n hx hb dX4_flow_43 rfl (lv_at hl 0 rfl) ?_
          refine va_get (D := (dC, dI)) (ci := 4) (v := .ref cf) (C := RX4) (T := TX4) (N := 7) hx hb hts k1 hown hK hP 0 rfl rfl 1 (by decide) k0 (fun _ h9 => h9) rfl dX4_flow_44 ?_
          refine lv_iload_n hx hb dX4_flow_47 rfl (lv_at hl 2 rfl) ?_
          obtain ⟨r16, cO_17, cL_18, cH_19, cB_20, e9, g⟩ := bd5 g
          refine q_callVi (ret := r16) (As := [.int x2_11]) (w1 := wX0 cyI cf nw aF aT aP aC aU aO aL aH aD aB nN nA nF nT nP nC nU cO_17 cL_18 cH_19 cD_9 cB_20) (ws2 := wX4 cyI cyZ ob nw aF aT aP aC aU cf aO aL aH aD aB uc aUT aUD aUB dr aDT aDW xS xT xA nN nA dFo dPa dLa nF nT nP nC nU cO_17 cL_18 cH_19 cD_9 cB_20 uT uD uB dT dW) ⟨hx, hb, hml, hown, hts⟩ (c_X0_lower l dC dI cyI cf nw aF aT aP aC aU aO aL aH aD aB H.size nN nA nF nT nP nC nU cO_12 cL_13 cH_14 cD_9 cB_15 x2_11 N _ e9) (cwV 1 hts gX4_flow_X0_lower rfl rfl rfl (by decide +kernel) ⟨Nat.le_of_ble_eq_true rfl, Nat.le_of_ble_eq_true rfl⟩) hK hP hD hS hA [7, 1, 2, 3, 4, 5, 6, 8, 9, 10, 11, 12] [0, 13, 14, 15, 16, 17, 18, 19] [0, 9, 10, 11, 12, 13, 14, 8, 15, 16, 17, 18, 19, 1, 2, 3, 4, 5, 6, 7] [0] rfl rfl rfl rfl (by decide) rfl rfl rfl 0 0 rfl rfl rfl hl.1 (Nat.le_of_ble_eq_true rfl) (Nat.le_of_ble_eq_true rfl) (Nat.le_of_ble_eq_true rfl) rfl dX4_flow_48 (fun H locs hP hD hS => ?_)
          refine lv_pop hx hb dX4_flow_51 rfl ?_
          refine lv_iinc (v := x2_11 + 1) (lv' := [(2, .int (x2_11 + 1)), (0, .ref ob), (1, .int p0)]) hx hb dX4_flow_52 hl (k := 2) rfl (by rfl) (by decide) rfl (fun ls hl => ?_)
          refine lv_goto (tgt := 38) hx hb dX4_flow_55 (by decide) ?_
          cases g
          exact ih0 _ _ _ _ _ h _ _ hP hD hS _ (lv_sub hl [1, 2, 0] rfl)
    exact hL0 N _ _ _ _ _  e0 _ _ hP hD hS _ (lv_sub hl [1, 2, 0] rfl)
  · have h := ipos c9 h
    refine lv_iconst (v := -1) hx hb dX4_flow_27 (by decide) ?_
    cases h
    exact q_iret hQ hx hb hr hlocks hP hK hD hS dX4_flow_28
set_option maxHeartbeats 4000000 in
set_option maxRecDepth 100000 in
theorem cx_X4_flow (l : Launch) (hfl : l.stackTraces = false) (dC : Nat → ClassId) (dI : Nat → Nat → Nat) (cyI cyZ : ClassId) (ob nw aF aT aP aC aU cf aO aL aH aD aB uc aUT aUD aUB dr aDT aDW : Nat) (sz : Nat) (xS xT xA nN nA dFo dPa dLa : Int32) (nF nT nP nC nU cO cL cH cD cB uT uD uB dT dW : Nat → Int32) (p0 : Int32) (N : Nat) (k : Nat) (h : pX4_flow N xS xT xA nN nA nF nT nC nU cO cL cH cD cB p0 = some (.inl k)) : vx_Met l yX4_flow wsX4_flow { frames := 7, cells := 1, slots := 6, locals := 143 } (va_Pc [.ref ob, .int p0] (zPreX (dC, dI) (wX4 cyI cyZ ob nw aF aT aP aC aU cf aO aL aH aD aB uc aUT aUD aUB dr aDT aDW xS xT xA nN nA dFo dPa dLa nF nT nP nC nU cO cL cH cD cB uT uD uB dT dW) [(cyI, .int), (cyZ, .boolean)] sz)) (zNi (va_A (wX4 cyI cyZ ob nw aF aT aP aC aU cf aO aL aH aD aB uc aUT aUD aUB dr aDT aDW xS xT xA nN nA dFo dPa dLa nF nT nP nC nU cO cL cH cD cB uT uD uB dT dW) sz)) (zX (dC, dI) (wX4 cyI cyZ ob nw aF aT aP aC aU cf aO aL aH aD aB uc aUT aUD aUB dr aDT aDW xS xT xA nN nA dFo dPa dLa nF nT nP nC nU cO cL cH cD cB uT uD uB dT dW) [(cyI, .int), (cyZ, .boolean)] k (va_A (wX4 cyI cyZ ob nw aF aT aP aC aU cf aO aL aH aD aB uc aUT aUD aUB dr aDT aDW xS xT xA nN nA dFo dPa dLa nF nT nP nC nU cO cL cH cD cB uT uD uB dT dW) sz)) 1 6 (va_A (wX4 cyI cyZ ob nw aF aT aP aC aU cf aO aL aH aD aB uc aUT aUD aUB dr aDT aDW xS xT xA nN nA dFo dPa dLa nF nT nP nC nU cO cL cH cD cB uT uD uB dT dW) sz) := by
  refine q_ofXt (cc := cX4_flow) (maxL := 3) (rt := (some .int)) (by decide) rfl (Nat.le_of_ble_eq_true rfl) ?_
  intro p e s m args below meth c ls A Q H locs hQ hx hb hr hts hown hlocks hml hA hK hP hD hS hl hout hXc
  have hl : lv_has ls 3 [(0, .ref ob), (1, .int p0)] := hl
  have k0 := hts (.fieldLink RX4 42 "ConvexConduit" "cheapest" "LConvexConduit$CheapestFlow;") (by decide +kernel)
  have k1 : ∀ w ∈ u_ws RX4 TX4 7, w ∈ wsX4_flow := by decide +kernel
  have k2 := hts (.fieldLink RX4 9 "ConvexConduit" "source" "I") (by decide +kernel)
  have k3 := hts (.fieldLink RX4 13 "ConvexConduit" "target" "I") (by decide +kernel)
  have k4 := hts (.fieldLink RX4 16 "ConvexConduit" "amount" "I") (by decide +kernel)
  unfold pX4_flow at h
  refine lv_aload_n hx hb dX4_flow_0 rfl (lv_at hl 0 rfl) ?_
  refine lv_iload_n hx hb dX4_flow_1 rfl (lv_at hl 1 rfl) ?_
  rcases bdxl h with e9 | ⟨_, e9, h⟩
  · exact q_callXv (As := [.int p0]) hQ ⟨hx, hb, hml, hown, hts⟩ hlocks (cx_X4_refuseOtherThanArc l hfl dC dI cyI cyZ ob nw aF aT aP aC aU cf aO aL aH aD aB uc aUT aUD aUB dr aDT aDW H.size xS xT xA nN nA dFo dPa dLa nF nT nP nC nU cO cL cH cD cB uT uD uB dT dW p0 _ e9) (cwV 1 hts gX4_flow_X4_refuseOtherThanArc rfl rfl rfl (by decide +kernel) ⟨Nat.le_of_ble_eq_true rfl, Nat.le_of_ble_eq_true rfl⟩) hXc hout hK hP hD hS hA [0, 1, 2, 3, 4, 5, 6, 7, 8, 9, 10, 11, 12, 13, 14, 15, 16, 17, 18, 19] rfl 4 0 rfl rfl rfl hl.1 (Nat.le_of_ble_eq_true rfl) (Nat.le_of_ble_eq_true rfl) (Nat.le_of_ble_eq_true rfl) (Nat.le_of_ble_eq_true rfl) (Nat.le_of_ble_eq_true rfl) rfl dX4_flow_2
  · refine q_callVv (As := [.int p0]) (w1 := wX4 cyI cyZ ob nw aF aT aP aC aU cf aO aL aH aD aB uc aUT aUD aUB dr aDT aDW xS xT xA nN nA dFo dPa dLa nF nT nP nC nU cO cL cH cD cB uT uD uB dT dW) (ws2 := wX4 cyI cyZ ob nw aF aT aP aC aU cf aO aL aH aD aB uc aUT aUD aUB dr aDT aDW xS xT xA nN nA dFo dPa dLa nF nT nP nC nU cO cL cH cD cB uT uD uB dT dW) ⟨hx, hb, hml, hown, hts⟩ (c_X4_refuseOtherThanArc l dC dI cyI cyZ ob nw aF aT aP aC aU cf aO aL aH aD aB uc aUT aUD aUB dr aDT aDW H.size xS xT xA nN nA dFo dPa dLa nF nT nP nC nU cO cL cH cD cB uT uD uB dT dW p0 _ e9) (cwV 1 hts gX4_flow_X4_refuseOtherThanArc rfl rfl rfl (by decide +kernel) ⟨Nat.le_of_ble_eq_true rfl, Nat.le_of_ble_eq_true rfl⟩) hK hP hD hS hA [0, 1, 2, 3, 4, 5, 6, 7, 8, 9, 10, 11, 12, 13, 14, 15, 16, 17, 18, 19] [] [0, 1, 2, 3, 4, 5, 6, 7, 8, 9, 10, 11, 12, 13, 14, 15, 16, 17, 18, 19] [0, 1] rfl rfl rfl rfl (by decide) rfl rfl rfl 4 0 rfl rfl rfl hl.1 (Nat.le_of_ble_eq_true rfl) (Nat.le_of_ble_eq_true rfl) (Nat.le_of_ble_eq_true rfl) rfl dX4_flow_2 (fun H locs hP hD hS => ?_)
    exact rgtl h
set_option maxHeartbeats 4000000 in
set_option maxRecDepth 100000 in
theorem c_X4_leastOn (l : Launch) (dC : Nat → ClassId) (dI : Nat → Nat → Nat) (cyI cyZ : ClassId) (ob nw aF aT aP aC aU cf aO aL aH aD aB uc aUT aUD aUB dr aDT aDW : Nat) (sz : Nat) (xS xT xA nN nA dFo dPa dLa : Int32) (nF nT nP nC nU cO cL cH cD cB uT uD uB dT dW : Nat → Int32) (p0 : Int32) (N : Nat) (res : Int32 × (Nat → Int32) × (Nat → Int32) × (Nat → Int32) × (Nat → Int32) × (Nat → Int32)) (h : pX4_leastOn N xS xT xA nN nA nF nT nC nU cO cL cH cD cB p0 = some (.inr res)) : Met l yX4_leastOn wsX4_leastOn { frames := 6, cells := 0, slots := 0, locals := 143 } (va_Pc [.ref ob, .int p0] (zPre (dC, dI) (wX4 cyI cyZ ob nw aF aT aP aC aU cf aO aL aH aD aB uc aUT aUD aUB dr aDT aDW xS xT xA nN nA dFo dPa dLa nF nT nP nC nU cO cL cH cD cB uT uD uB dT dW) [(cyI, .int), (cyZ, .boolean)] sz)) (zQi (dC, dI) (wX4 cyI cyZ ob nw aF aT aP aC aU cf aO aL aH aD aB uc aUT aUD aUB dr aDT aDW xS xT xA nN nA dFo dPa dLa nF nT nP nC nU res.2.1 res.2.2.1 res.2.2.2.1 res.2.2.2.2.1 res.2.2.2.2.2 uT uD uB dT dW) [(cyI, .int), (cyZ, .boolean)] (res.1) (va_A (wX4 cyI cyZ ob nw aF aT aP aC aU cf aO aL aH aD aB uc aUT aUD aUB dr aDT aDW xS xT xA nN nA dFo dPa dLa nF nT nP nC nU cO cL cH cD cB uT uD uB dT dW) sz)) 0 0 (va_A (wX4 cyI cyZ ob nw aF aT aP aC aU cf aO aL aH aD aB uc aUT aUD aUB dr aDT aDW xS xT xA nN nA dFo dPa dLa nF nT nP nC nU cO cL cH cD cB uT uD uB dT dW) sz) := by
  refine q_ofWi (cc := cX4_leastOn) (maxL := 2) (rt := (some .int)) (by decide) rfl (Nat.le_of_ble_eq_true rfl) ?_
  intro p e s m args below meth c ls A Q H locs hQ hx hb hr hts hown hlocks hml hA hK hP hD hS hl
  have hl : lv_has ls 2 [(0, .ref ob), (1, .int p0)] := hl
  have k0 := hts (.fieldLink RX4 42 "ConvexConduit" "cheapest" "LConvexConduit$CheapestFlow;") (by decide +kernel)
  have k1 : ∀ w ∈ u_ws RX4 TX4 7, w ∈ wsX4_leastOn := by decide +kernel
  have k2 := hts (.fieldLink RX4 9 "ConvexConduit" "source" "I") (by decide +kernel)
  have k3 := hts (.fieldLink RX4 13 "ConvexConduit" "target" "I") (by decide +kernel)
  have k4 := hts (.fieldLink RX4 16 "ConvexConduit" "amount" "I") (by decide +kernel)
  unfold pX4_leastOn at h
  refine lv_aload_n hx hb dX4_leastOn_0 rfl (lv_at hl 0 rfl) ?_
  refine lv_iload_n hx hb dX4_leastOn_1 rfl (lv_at hl 1 rfl) ?_
  obtain ⟨_, e9, h⟩ := bdxr h
  refine q_callVv (As := [.int p0]) (w1 := wX4 cyI cyZ ob nw aF aT aP aC aU cf aO aL aH aD aB uc aUT aUD aUB dr aDT aDW xS xT xA nN nA dFo dPa dLa nF nT nP nC nU cO cL cH cD cB uT uD uB dT dW) (ws2 := wX4 cyI cyZ ob nw aF aT aP aC aU cf aO aL aH aD aB uc aUT aUD aUB dr aDT aDW xS xT xA nN nA dFo dPa dLa nF nT nP nC nU cO cL cH cD cB uT uD uB dT dW) ⟨hx, hb, hml, hown, hts⟩ (c_X4_refuseOtherThanArc l dC dI cyI cyZ ob nw aF aT aP aC aU cf aO aL aH aD aB uc aUT aUD aUB dr aDT aDW H.size xS xT xA nN nA dFo dPa dLa nF nT nP nC nU cO cL cH cD cB uT uD uB dT dW p0 _ e9) (cwV 1 hts gX4_leastOn_X4_refuseOtherThanArc rfl rfl rfl (by decide +kernel) ⟨Nat.le_of_ble_eq_true rfl, Nat.le_of_ble_eq_true rfl⟩) hK hP hD hS hA [0, 1, 2, 3, 4, 5, 6, 7, 8, 9, 10, 11, 12, 13, 14, 15, 16, 17, 18, 19] [] [0, 1, 2, 3, 4, 5, 6, 7, 8, 9, 10, 11, 12, 13, 14, 15, 16, 17, 18, 19] [0, 1] rfl rfl rfl rfl (by decide) rfl rfl rfl 4 0 rfl rfl rfl hl.1 (Nat.le_of_ble_eq_true rfl) (Nat.le_of_ble_eq_true rfl) (Nat.le_of_ble_eq_true rfl) rfl dX4_leastOn_2 (fun H locs hP hD hS => ?_)
  have h := rgtr h
  refine lv_aload_n hx hb dX4_leastOn_5 rfl (lv_at hl 0 rfl) ?_
  refine va_get (D := (dC, dI)) (ci := 4) (v := .ref cf) (C := RX4) (T := TX4) (N := 7) hx hb hts k1 hown hK hP 0 rfl rfl 1 (by decide) k0 (fun _ h9 => h9) rfl dX4_leastOn_6 ?_
  refine lv_aload_n hx hb dX4_leastOn_9 rfl (lv_at hl 0 rfl) ?_
  refine va_get (D := (dC, dI)) (ci := 4) (v := .int xS) (C := RX4) (T := TX4) (N := 7) hx hb hts k1 hown hK hP 0 rfl rfl 4 (by decide) k2 (fun _ h9 => h9) rfl dX4_leastOn_10 ?_
  refine lv_aload_n hx hb dX4_leastOn_13 rfl (lv_at hl 0 rfl) ?_
  refine va_get (D := (dC, dI)) (ci := 4) (v := .int xT) (C := RX4) (T := TX4) (N := 7) hx hb hts k1 hown hK hP 0 rfl rfl 5 (by decide) k3 (fun _ h9 => h9) rfl dX4_leastOn_14 ?_
  refine lv_aload_n hx hb dX4_leastOn_17 rfl (lv_at hl 0 rfl) ?_
  refine va_get (D := (dC, dI)) (ci := 4) (v := .int xA) (C := RX4) (T := TX4) (N := 7) hx hb hts k1 hown hK hP 0 rfl rfl 6 (by decide) k4 (fun _ h9 => h9) rfl dX4_leastOn_18 ?_
  obtain ⟨b1, cO_2, cL_3, cH_4, cD_5, cB_6, e9, h⟩ := bd6 h
  refine q_callVi (ret := b2i b1) (As := [.int xS, .int xT, .int xA]) (w1 := wX0 cyI cf nw aF aT aP aC aU aO aL aH aD aB nN nA nF nT nP nC nU cO_2 cL_3 cH_4 cD_5 cB_6) (ws2 := wX4 cyI cyZ ob nw aF aT aP aC aU cf aO aL aH aD aB uc aUT aUD aUB dr aDT aDW xS xT xA nN nA dFo dPa dLa nF nT nP nC nU cO_2 cL_3 cH_4 cD_5 cB_6 uT uD uB dT dW) ⟨hx, hb, hml, hown, hts⟩ (c_X0_meet l dC dI cyI cf nw aF aT aP aC aU aO aL aH aD aB H.size nN nA nF nT nP nC nU cO cL cH cD cB xS xT xA N _ e9) (cwV 3 hts gX4_leastOn_X0_meet rfl rfl rfl (by decide +kernel) ⟨Nat.le_of_ble_eq_true rfl, Nat.le_of_ble_eq_true rfl⟩) hK hP hD hS hA [7, 1, 2, 3, 4, 5, 6, 8, 9, 10, 11, 12] [0, 13, 14, 15, 16, 17, 18, 19] [0, 9, 10, 11, 12, 13, 14, 8, 15, 16, 17, 18, 19, 1, 2, 3, 4, 5, 6, 7] [0] rfl rfl rfl rfl (by decide) rfl rfl rfl 0 0 rfl rfl rfl hl.1 (Nat.le_of_ble_eq_true rfl) (Nat.le_of_ble_eq_true rfl) (Nat.le_of_ble_eq_true rfl) rfl dX4_leastOn_21 (fun H locs hP hD hS => ?_)
  refine lv_if_ne (tgt := 29) hx hb dX4_leastOn_24 (by decide) (fun c9 => ?_) (fun c9 => ?_)
  · have h := ineg c9 h
    refine lv_aload_n hx hb dX4_leastOn_29 rfl (lv_at hl 0 rfl) ?_
    refine va_get (D := (dC, dI)) (ci := 4) (v := .ref cf) (C := RX4) (T := TX4) (N := 7) hx hb hts k1 hown hK hP 0 rfl rfl 1 (by decide) k0 (fun _ h9 => h9) rfl dX4_leastOn_30 ?_
    obtain ⟨cL_7, cH_8, cD_9, cB_10, e9, h⟩ := bd4 h
    refine q_callVv (As := []) (w1 := wX0 cyI cf nw aF aT aP aC aU aO aL aH aD aB nN nA nF nT nP nC nU cO_2 cL_7 cH_8 cD_9 cB_10) (ws2 := wX4 cyI cyZ ob nw aF aT aP aC aU cf aO aL aH aD aB uc aUT aUD aUB dr aDT aDW xS xT xA nN nA dFo dPa dLa nF nT nP nC nU cO_2 cL_7 cH_8 cD_9 cB_10 uT uD uB dT dW) ⟨hx, hb, hml, hown, hts⟩ (c_X0_keepToCheapest l dC dI cyI cf nw aF aT aP aC aU aO aL aH aD aB H.size nN nA nF nT nP nC nU cO_2 cL_3 cH_4 cD_5 cB_6 N _ e9) (cwV 0 hts gX4_leastOn_X0_keepToCheapest rfl rfl rfl (by decide +kernel) ⟨Nat.le_of_ble_eq_true rfl, Nat.le_of_ble_eq_true rfl⟩) hK hP hD hS hA [7, 1, 2, 3, 4, 5, 6, 8, 9, 10, 11, 12] [0, 13, 14, 15, 16, 17, 18, 19] [0, 9, 10, 11, 12, 13, 14, 8, 15, 16, 17, 18, 19, 1, 2, 3, 4, 5, 6, 7] [0] rfl rfl rfl rfl (by decide) rfl rfl rfl 0 0 rfl rfl rfl hl.1 (Nat.le_of_ble_eq_true rfl) (Nat.le_of_ble_eq_true rfl) (Nat.le_of_ble_eq_true rfl) rfl dX4_leastOn_33 (fun H locs hP hD hS => ?_)
    refine lv_aload_n hx hb dX4_leastOn_36 rfl (lv_at hl 0 rfl) ?_
    refine va_get (D := (dC, dI)) (ci := 4) (v := .ref cf) (C := RX4) (T := TX4) (N := 7) hx hb hts k1 hown hK hP 0 rfl rfl 1 (by decide) k0 (fun _ h9 => h9) rfl dX4_leastOn_37 ?_
    refine lv_iload_n hx hb dX4_leastOn_40 rfl (lv_at hl 1 rfl) ?_
    obtain ⟨r11, cO_12, cL_13, cH_14, cB_15, e9, h⟩ := bd5 h
    refine q_callVi (ret := r11) (As := [.int p0]) (w1 := wX0 cyI cf nw aF aT aP aC aU aO aL aH aD aB nN nA nF nT nP nC nU cO_12 cL_13 cH_14 cD_9 cB_15) (ws2 := wX4 cyI cyZ ob nw aF aT aP aC aU cf aO aL aH aD aB uc aUT aUD aUB dr aDT aDW xS xT xA nN nA dFo dPa dLa nF nT nP nC nU cO_12 cL_13 cH_14 cD_9 cB_15 uT uD uB dT dW) ⟨hx, hb, hml, hown, hts⟩ (c_X0_lower l dC dI cyI cf nw aF aT aP aC aU aO aL aH aD aB H.size nN nA nF nT nP nC nU cO_2 cL_7 cH_8 cD_9 cB_10 p0 N _ e9) (cwV 1 hts gX4_leastOn_X0_lower rfl rfl rfl (by decide +kernel) ⟨Nat.le_of_ble_eq_true rfl, Nat.le_of_ble_eq_true rfl⟩) hK hP hD hS hA [7, 1, 2, 3, 4, 5, 6, 8, 9, 10, 11, 12] [0, 13, 14, 15, 16, 17, 18, 19] [0, 9, 10, 11, 12, 13, 14, 8, 15, 16, 17, 18, 19, 1, 2, 3, 4, 5, 6, 7] [0] rfl rfl rfl rfl (by decide) rfl rfl rfl 0 0 rfl rfl rfl hl.1 (Nat.le_of_ble_eq_true rfl) (Nat.le_of_ble_eq_true rfl) (Nat.le_of_ble_eq_true rfl) rfl dX4_leastOn_41 (fun H locs hP hD hS => ?_)
    cases h
    exact q_iret hQ hx hb hr hlocks hP hK hD hS dX4_leastOn_44
  · have h := ipos c9 h
    refine lv_iconst (v := -1) hx hb dX4_leastOn_27 (by decide) ?_
    cases h
    exact q_iret hQ hx hb hr hlocks hP hK hD hS dX4_leastOn_28
set_option maxHeartbeats 4000000 in
set_option maxRecDepth 100000 in
theorem cx_X4_leastOn (l : Launch) (hfl : l.stackTraces = false) (dC : Nat → ClassId) (dI : Nat → Nat → Nat) (cyI cyZ : ClassId) (ob nw aF aT aP aC aU cf aO aL aH aD aB uc aUT aUD aUB dr aDT aDW : Nat) (sz : Nat) (xS xT xA nN nA dFo dPa dLa : Int32) (nF nT nP nC nU cO cL cH cD cB uT uD uB dT dW : Nat → Int32) (p0 : Int32) (N : Nat) (k : Nat) (h : pX4_leastOn N xS xT xA nN nA nF nT nC nU cO cL cH cD cB p0 = some (.inl k)) : vx_Met l yX4_leastOn wsX4_leastOn { frames := 7, cells := 1, slots := 6, locals := 143 } (va_Pc [.ref ob, .int p0] (zPreX (dC, dI) (wX4 cyI cyZ ob nw aF aT aP aC aU cf aO aL aH aD aB uc aUT aUD aUB dr aDT aDW xS xT xA nN nA dFo dPa dLa nF nT nP nC nU cO cL cH cD cB uT uD uB dT dW) [(cyI, .int), (cyZ, .boolean)] sz)) (zNi (va_A (wX4 cyI cyZ ob nw aF aT aP aC aU cf aO aL aH aD aB uc aUT aUD aUB dr aDT aDW xS xT xA nN nA dFo dPa dLa nF nT nP nC nU cO cL cH cD cB uT uD uB dT dW) sz)) (zX (dC, dI) (wX4 cyI cyZ ob nw aF aT aP aC aU cf aO aL aH aD aB uc aUT aUD aUB dr aDT aDW xS xT xA nN nA dFo dPa dLa nF nT nP nC nU cO cL cH cD cB uT uD uB dT dW) [(cyI, .int), (cyZ, .boolean)] k (va_A (wX4 cyI cyZ ob nw aF aT aP aC aU cf aO aL aH aD aB uc aUT aUD aUB dr aDT aDW xS xT xA nN nA dFo dPa dLa nF nT nP nC nU cO cL cH cD cB uT uD uB dT dW) sz)) 1 6 (va_A (wX4 cyI cyZ ob nw aF aT aP aC aU cf aO aL aH aD aB uc aUT aUD aUB dr aDT aDW xS xT xA nN nA dFo dPa dLa nF nT nP nC nU cO cL cH cD cB uT uD uB dT dW) sz) := by
  refine q_ofXt (cc := cX4_leastOn) (maxL := 2) (rt := (some .int)) (by decide) rfl (Nat.le_of_ble_eq_true rfl) ?_
  intro p e s m args below meth c ls A Q H locs hQ hx hb hr hts hown hlocks hml hA hK hP hD hS hl hout hXc
  have hl : lv_has ls 2 [(0, .ref ob), (1, .int p0)] := hl
  have k0 := hts (.fieldLink RX4 42 "ConvexConduit" "cheapest" "LConvexConduit$CheapestFlow;") (by decide +kernel)
  have k1 : ∀ w ∈ u_ws RX4 TX4 7, w ∈ wsX4_leastOn := by decide +kernel
  have k2 := hts (.fieldLink RX4 9 "ConvexConduit" "source" "I") (by decide +kernel)
  have k3 := hts (.fieldLink RX4 13 "ConvexConduit" "target" "I") (by decide +kernel)
  have k4 := hts (.fieldLink RX4 16 "ConvexConduit" "amount" "I") (by decide +kernel)
  unfold pX4_leastOn at h
  refine lv_aload_n hx hb dX4_leastOn_0 rfl (lv_at hl 0 rfl) ?_
  refine lv_iload_n hx hb dX4_leastOn_1 rfl (lv_at hl 1 rfl) ?_
  rcases bdxl h with e9 | ⟨_, e9, h⟩
  · exact q_callXv (As := [.int p0]) hQ ⟨hx, hb, hml, hown, hts⟩ hlocks (cx_X4_refuseOtherThanArc l hfl dC dI cyI cyZ ob nw aF aT aP aC aU cf aO aL aH aD aB uc aUT aUD aUB dr aDT aDW H.size xS xT xA nN nA dFo dPa dLa nF nT nP nC nU cO cL cH cD cB uT uD uB dT dW p0 _ e9) (cwV 1 hts gX4_leastOn_X4_refuseOtherThanArc rfl rfl rfl (by decide +kernel) ⟨Nat.le_of_ble_eq_true rfl, Nat.le_of_ble_eq_true rfl⟩) hXc hout hK hP hD hS hA [0, 1, 2, 3, 4, 5, 6, 7, 8, 9, 10, 11, 12, 13, 14, 15, 16, 17, 18, 19] rfl 4 0 rfl rfl rfl hl.1 (Nat.le_of_ble_eq_true rfl) (Nat.le_of_ble_eq_true rfl) (Nat.le_of_ble_eq_true rfl) (Nat.le_of_ble_eq_true rfl) (Nat.le_of_ble_eq_true rfl) rfl dX4_leastOn_2
  · refine q_callVv (As := [.int p0]) (w1 := wX4 cyI cyZ ob nw aF aT aP aC aU cf aO aL aH aD aB uc aUT aUD aUB dr aDT aDW xS xT xA nN nA dFo dPa dLa nF nT nP nC nU cO cL cH cD cB uT uD uB dT dW) (ws2 := wX4 cyI cyZ ob nw aF aT aP aC aU cf aO aL aH aD aB uc aUT aUD aUB dr aDT aDW xS xT xA nN nA dFo dPa dLa nF nT nP nC nU cO cL cH cD cB uT uD uB dT dW) ⟨hx, hb, hml, hown, hts⟩ (c_X4_refuseOtherThanArc l dC dI cyI cyZ ob nw aF aT aP aC aU cf aO aL aH aD aB uc aUT aUD aUB dr aDT aDW H.size xS xT xA nN nA dFo dPa dLa nF nT nP nC nU cO cL cH cD cB uT uD uB dT dW p0 _ e9) (cwV 1 hts gX4_leastOn_X4_refuseOtherThanArc rfl rfl rfl (by decide +kernel) ⟨Nat.le_of_ble_eq_true rfl, Nat.le_of_ble_eq_true rfl⟩) hK hP hD hS hA [0, 1, 2, 3, 4, 5, 6, 7, 8, 9, 10, 11, 12, 13, 14, 15, 16, 17, 18, 19] [] [0, 1, 2, 3, 4, 5, 6, 7, 8, 9, 10, 11, 12, 13, 14, 15, 16, 17, 18, 19] [0, 1] rfl rfl rfl rfl (by decide) rfl rfl rfl 4 0 rfl rfl rfl hl.1 (Nat.le_of_ble_eq_true rfl) (Nat.le_of_ble_eq_true rfl) (Nat.le_of_ble_eq_true rfl) rfl dX4_leastOn_2 (fun H locs hP hD hS => ?_)
    exact rgtl h
set_option maxHeartbeats 4000000 in
set_option maxRecDepth 100000 in
theorem c_X4_mostOn (l : Launch) (dC : Nat → ClassId) (dI : Nat → Nat → Nat) (cyI cyZ : ClassId) (ob nw aF aT aP aC aU cf aO aL aH aD aB uc aUT aUD aUB dr aDT aDW : Nat) (sz : Nat) (xS xT xA nN nA dFo dPa dLa : Int32) (nF nT nP nC nU cO cL cH cD cB uT uD uB dT dW : Nat → Int32) (p0 : Int32) (N : Nat) (res : Int32 × (Nat → Int32) × (Nat → Int32) × (Nat → Int32) × (Nat → Int32) × (Nat → Int32)) (h : pX4_mostOn N xS xT xA nN nA nF nT nC nU cO cL cH cD cB p0 = some (.inr res)) : Met l yX4_mostOn wsX4_mostOn { frames := 6, cells := 0, slots := 0, locals := 143 } (va_Pc [.ref ob, .int p0] (zPre (dC, dI) (wX4 cyI cyZ ob nw aF aT aP aC aU cf aO aL aH aD aB uc aUT aUD aUB dr aDT aDW xS xT xA nN nA dFo dPa dLa nF nT nP nC nU cO cL cH cD cB uT uD uB dT dW) [(cyI, .int), (cyZ, .boolean)] sz)) (zQi (dC, dI) (wX4 cyI cyZ ob nw aF aT aP aC aU cf aO aL aH aD aB uc aUT aUD aUB dr aDT aDW xS xT xA nN nA dFo dPa dLa nF nT nP nC nU res.2.1 res.2.2.1 res.2.2.2.1 res.2.2.2.2.1 res.2.2.2.2.2 uT uD uB dT dW) [(cyI, .int), (cyZ, .boolean)] (res.1) (va_A (wX4 cyI cyZ ob nw aF aT aP aC aU cf aO aL aH aD aB uc aUT aUD aUB dr aDT aDW xS xT xA nN nA dFo dPa dLa nF nT nP nC nU cO cL cH cD cB uT uD uB dT dW) sz)) 0 0 (va_A (wX4 cyI cyZ ob nw aF aT aP aC aU cf aO aL aH aD aB uc aUT aUD aUB dr aDT aDW xS xT xA nN nA dFo dPa dLa nF nT nP nC nU cO cL cH cD cB uT uD uB dT dW) sz) := by
  refine q_ofWi (cc := cX4_mostOn) (maxL := 2) (rt := (some .int)) (by decide) rfl (Nat.le_of_ble_eq_true rfl) ?_
  intro p e s m args below meth c ls A Q H locs hQ hx hb hr hts hown hlocks hml hA hK hP hD hS hl
  have hl : lv_has ls 2 [(0, .ref ob), (1, .int p0)] := hl
  have k0 := hts (.fieldLink RX4 42 "ConvexConduit" "cheapest" "LConvexConduit$CheapestFlow;") (by decide +kernel)
  have k1 : ∀ w ∈ u_ws RX4 TX4 7, w ∈ wsX4_mostOn := by decide +kernel
  have k2 := hts (.fieldLink RX4 9 "ConvexConduit" "source" "I") (by decide +kernel)
  have k3 := hts (.fieldLink RX4 13 "ConvexConduit" "target" "I") (by decide +kernel)
  have k4 := hts (.fieldLink RX4 16 "ConvexConduit" "amount" "I") (by decide +kernel)
  unfold pX4_mostOn at h
  refine lv_aload_n hx hb dX4_mostOn_0 rfl (lv_at hl 0 rfl) ?_
  refine lv_iload_n hx hb dX4_mostOn_1 rfl (lv_at hl 1 rfl) ?_
  obtain ⟨_, e9, h⟩ := bdxr h
  refine q_callVv (As := [.int p0]) (w1 := wX4 cyI cyZ ob nw aF aT aP aC aU cf aO aL aH aD aB uc aUT aUD aUB dr aDT aDW xS xT xA nN nA dFo dPa dLa nF nT nP nC nU cO cL cH cD cB uT uD uB dT dW) (ws2 := wX4 cyI cyZ ob nw aF aT aP aC aU cf aO aL aH aD aB uc aUT aUD aUB dr aDT aDW xS xT xA nN nA dFo dPa dLa nF nT nP nC nU cO cL cH cD cB uT uD uB dT dW) ⟨hx, hb, hml, hown, hts⟩ (c_X4_refuseOtherThanArc l dC dI cyI cyZ ob nw aF aT aP aC aU cf aO aL aH aD aB uc aUT aUD aUB dr aDT aDW H.size xS xT xA nN nA dFo dPa dLa nF nT nP nC nU cO cL cH cD cB uT uD uB dT dW p0 _ e9) (cwV 1 hts gX4_mostOn_X4_refuseOtherThanArc rfl rfl rfl (by decide +kernel) ⟨Nat.le_of_ble_eq_true rfl, Nat.le_of_ble_eq_true rfl⟩) hK hP hD hS hA [0, 1, 2, 3, 4, 5, 6, 7, 8, 9, 10, 11, 12, 13, 14, 15, 16, 17, 18, 19] [] [0, 1, 2, 3, 4, 5, 6, 7, 8, 9, 10, 11, 12, 13, 14, 15, 16, 17, 18, 19] [0, 1] rfl rfl rfl rfl (by decide) rfl rfl rfl 4 0 rfl rfl rfl hl.1 (Nat.le_of_ble_eq_true rfl) (Nat.le_of_ble_eq_true rfl) (Nat.le_of_ble_eq_true rfl) rfl dX4_mostOn_2 (fun H locs hP hD hS => ?_)
  have h := rgtr h
  refine lv_aload_n hx hb dX4_mostOn_5 rfl (lv_at hl 0 rfl) ?_
  refine va_get (D := (dC, dI)) (ci := 4) (v := .ref cf) (C := RX4) (T := TX4) (N := 7) hx hb hts k1 hown hK hP 0 rfl rfl 1 (by decide) k0 (fun _ h9 => h9) rfl dX4_mostOn_6 ?_
  refine lv_aload_n hx hb dX4_mostOn_9 rfl (lv_at hl 0 rfl) ?_
  refine va_get (D := (dC, dI)) (ci := 4) (v := .int xS) (C := RX4) (T := TX4) (N := 7) hx hb hts k1 hown hK hP 0 rfl rfl 4 (by decide) k2 (fun _ h9 => h9) rfl dX4_mostOn_10 ?_
  refine lv_aload_n hx hb dX4_mostOn_13 rfl (lv_at hl 0 rfl) ?_
  refine va_get (D := (dC, dI)) (ci := 4) (v := .int xT) (C := RX4) (T := TX4) (N := 7) hx hb hts k1 hown hK hP 0 rfl rfl 5 (by decide) k3 (fun _ h9 => h9) rfl dX4_mostOn_14 ?_
  refine lv_aload_n hx hb dX4_mostOn_17 rfl (lv_at hl 0 rfl) ?_
  refine va_get (D := (dC, dI)) (ci := 4) (v := .int xA) (C := RX4) (T := TX4) (N := 7) hx hb hts k1 hown hK hP 0 rfl rfl 6 (by decide) k4 (fun _ h9 => h9) rfl dX4_mostOn_18 ?_
  obtain ⟨b1, cO_2, cL_3, cH_4, cD_5, cB_6, e9, h⟩ := bd6 h
  refine q_callVi (ret := b2i b1) (As := [.int xS, .int xT, .int xA]) (w1 := wX0 cyI cf nw aF aT aP aC aU aO aL aH aD aB nN nA nF nT nP nC nU cO_2 cL_3 cH_4 cD_5 cB_6) (ws2 := wX4 cyI cyZ ob nw aF aT aP aC aU cf aO aL aH aD aB uc aUT aUD aUB dr aDT aDW xS xT xA nN nA dFo dPa dLa nF nT nP nC nU cO_2 cL_3 cH_4 cD_5 cB_6 uT uD uB dT dW) ⟨hx, hb, hml, hown, hts⟩ (c_X0_meet l dC dI cyI cf nw aF aT aP aC aU aO aL aH aD aB H.size nN nA nF nT nP nC nU cO cL cH cD cB xS xT xA N _ e9) (cwV 3 hts gX4_mostOn_X0_meet rfl rfl rfl (by decide +kernel) ⟨Nat.le_of_ble_eq_true rfl, Nat.le_of_ble_eq_true rfl⟩) hK hP hD hS hA [7, 1, 2, 3, 4, 5, 6, 8, 9, 10, 11, 12] [0, 13, 14, 15, 16, 17, 18, 19] [0, 9, 10, 11, 12, 13, 14, 8, 15, 16, 17, 18, 19, 1, 2, 3, 4, 5, 6, 7] [0] rfl rfl rfl rfl (by decide) rfl rfl rfl 0 0 rfl rfl rfl hl.1 (Nat.le_of_ble_eq_true rfl) (Nat.le_of_ble_eq_true rfl) (Nat.le_of_ble_eq_true rfl) rfl dX4_mostOn_21 (fun H locs hP hD hS => ?_)
  refine lv_if_ne (tgt := 29) hx hb dX4_mostOn_24 (by decide) (fun c9 => ?_) (fun c9 => ?_)
  · have h := ineg c9 h
    refine lv_aload_n hx hb dX4_mostOn_29 rfl (lv_at hl 0 rfl) ?_
    refine va_get (D := (dC, dI)) (ci := 4) (v := .ref cf) (C := RX4) (T := TX4) (N := 7) hx hb hts k1 hown hK hP 0 rfl rfl 1 (by decide) k0 (fun _ h9 => h9) rfl dX4_mostOn_30 ?_
    obtain ⟨cL_7, cH_8, cD_9, cB_10, e9, h⟩ := bd4 h
    refine q_callVv (As := []) (w1 := wX0 cyI cf nw aF aT aP aC aU aO aL aH aD aB nN nA nF nT nP nC nU cO_2 cL_7 cH_8 cD_9 cB_10) (ws2 := wX4 cyI cyZ ob nw aF aT aP aC aU cf aO aL aH aD aB uc aUT aUD aUB dr aDT aDW xS xT xA nN nA dFo dPa dLa nF nT nP nC nU cO_2 cL_7 cH_8 cD_9 cB_10 uT uD uB dT dW) ⟨hx, hb, hml, hown, hts⟩ (c_X0_keepToCheapest l dC dI cyI cf nw aF aT aP aC aU aO aL aH aD aB H.size nN nA nF nT nP nC nU cO_2 cL_3 cH_4 cD_5 cB_6 N _ e9) (cwV 0 hts gX4_mostOn_X0_keepToCheapest rfl rfl rfl (by decide +kernel) ⟨Nat.le_of_ble_eq_true rfl, Nat.le_of_ble_eq_true rfl⟩) hK hP hD hS hA [7, 1, 2, 3, 4, 5, 6, 8, 9, 10, 11, 12] [0, 13, 14, 15, 16, 17, 18, 19] [0, 9, 10, 11, 12, 13, 14, 8, 15, 16, 17, 18, 19, 1, 2, 3, 4, 5, 6, 7] [0] rfl rfl rfl rfl (by decide) rfl rfl rfl 0 0 rfl rfl rfl hl.1 (Nat.le_of_ble_eq_true rfl) (Nat.le_of_ble_eq_true rfl) (Nat.le_of_ble_eq_true rfl) rfl dX4_mostOn_33 (fun H locs hP hD hS => ?_)
    refine lv_aload_n hx hb dX4_mostOn_36 rfl (lv_at hl 0 rfl) ?_
    refine va_get (D := (dC, dI)) (ci := 4) (v := .ref cf) (C := RX4) (T := TX4) (N := 7) hx hb hts k1 hown hK hP 0 rfl rfl 1 (by decide) k0 (fun _ h9 => h9) rfl dX4_mostOn_37 ?_
    refine lv_iload_n hx hb dX4_mostOn_40 rfl (lv_at hl 1 rfl) ?_
    obtain ⟨r11, cO_12, cL_13, cH_14, cB_15, e9, h⟩ := bd5 h
    refine q_callVi (ret := r11) (As := [.int p0]) (w1 := wX0 cyI cf nw aF aT aP aC aU aO aL aH aD aB nN nA nF nT nP nC nU cO_12 cL_13 cH_14 cD_9 cB_15) (ws2 := wX4 cyI cyZ ob nw aF aT aP aC aU cf aO aL aH aD aB uc aUT aUD aUB dr aDT aDW xS xT xA nN nA dFo dPa dLa nF nT nP nC nU cO_12 cL_13 cH_14 cD_9 cB_15 uT uD uB dT dW) ⟨hx, hb, hml, hown, hts⟩ (c_X0_raise l dC dI cyI cf nw aF aT aP aC aU aO aL aH aD aB H.size nN nA nF nT nP nC nU cO_2 cL_7 cH_8 cD_9 cB_10 p0 N _ e9) (cwV 1 hts gX4_mostOn_X0_raise rfl rfl rfl (by decide +kernel) ⟨Nat.le_of_ble_eq_true rfl, Nat.le_of_ble_eq_true rfl⟩) hK hP hD hS hA [7, 1, 2, 3, 4, 5, 6, 8, 9, 10, 11, 12] [0, 13, 14, 15, 16, 17, 18, 19] [0, 9, 10, 11, 12, 13, 14, 8, 15, 16, 17, 18, 19, 1, 2, 3, 4, 5, 6, 7] [0] rfl rfl rfl rfl (by decide) rfl rfl rfl 0 0 rfl rfl rfl hl.1 (Nat.le_of_ble_eq_true rfl) (Nat.le_of_ble_eq_true rfl) (Nat.le_of_ble_eq_true rfl) rfl dX4_mostOn_41 (fun H locs hP hD hS => ?_)
    cases h
    exact q_iret hQ hx hb hr hlocks hP hK hD hS dX4_mostOn_44
  · have h := ipos c9 h
    refine lv_iconst (v := -1) hx hb dX4_mostOn_27 (by decide) ?_
    cases h
    exact q_iret hQ hx hb hr hlocks hP hK hD hS dX4_mostOn_28
set_option maxHeartbeats 4000000 in
set_option maxRecDepth 100000 in
theorem cx_X4_mostOn (l : Launch) (hfl : l.stackTraces = false) (dC : Nat → ClassId) (dI : Nat → Nat → Nat) (cyI cyZ : ClassId) (ob nw aF aT aP aC aU cf aO aL aH aD aB uc aUT aUD aUB dr aDT aDW : Nat) (sz : Nat) (xS xT xA nN nA dFo dPa dLa : Int32) (nF nT nP nC nU cO cL cH cD cB uT uD uB dT dW : Nat → Int32) (p0 : Int32) (N : Nat) (k : Nat) (h : pX4_mostOn N xS xT xA nN nA nF nT nC nU cO cL cH cD cB p0 = some (.inl k)) : vx_Met l yX4_mostOn wsX4_mostOn { frames := 7, cells := 1, slots := 6, locals := 143 } (va_Pc [.ref ob, .int p0] (zPreX (dC, dI) (wX4 cyI cyZ ob nw aF aT aP aC aU cf aO aL aH aD aB uc aUT aUD aUB dr aDT aDW xS xT xA nN nA dFo dPa dLa nF nT nP nC nU cO cL cH cD cB uT uD uB dT dW) [(cyI, .int), (cyZ, .boolean)] sz)) (zNi (va_A (wX4 cyI cyZ ob nw aF aT aP aC aU cf aO aL aH aD aB uc aUT aUD aUB dr aDT aDW xS xT xA nN nA dFo dPa dLa nF nT nP nC nU cO cL cH cD cB uT uD uB dT dW) sz)) (zX (dC, dI) (wX4 cyI cyZ ob nw aF aT aP aC aU cf aO aL aH aD aB uc aUT aUD aUB dr aDT aDW xS xT xA nN nA dFo dPa dLa nF nT nP nC nU cO cL cH cD cB uT uD uB dT dW) [(cyI, .int), (cyZ, .boolean)] k (va_A (wX4 cyI cyZ ob nw aF aT aP aC aU cf aO aL aH aD aB uc aUT aUD aUB dr aDT aDW xS xT xA nN nA dFo dPa dLa nF nT nP nC nU cO cL cH cD cB uT uD uB dT dW) sz)) 1 6 (va_A (wX4 cyI cyZ ob nw aF aT aP aC aU cf aO aL aH aD aB uc aUT aUD aUB dr aDT aDW xS xT xA nN nA dFo dPa dLa nF nT nP nC nU cO cL cH cD cB uT uD uB dT dW) sz) := by
  refine q_ofXt (cc := cX4_mostOn) (maxL := 2) (rt := (some .int)) (by decide) rfl (Nat.le_of_ble_eq_true rfl) ?_
  intro p e s m args below meth c ls A Q H locs hQ hx hb hr hts hown hlocks hml hA hK hP hD hS hl hout hXc
  have hl : lv_has ls 2 [(0, .ref ob), (1, .int p0)] := hl
  have k0 := hts (.fieldLink RX4 42 "ConvexConduit" "cheapest" "LConvexConduit$CheapestFlow;") (by decide +kernel)
  have k1 : ∀ w ∈ u_ws RX4 TX4 7, w ∈ wsX4_mostOn := by decide +kernel
  have k2 := hts (.fieldLink RX4 9 "ConvexConduit" "source" "I") (by decide +kernel)
  have k3 := hts (.fieldLink RX4 13 "ConvexConduit" "target" "I") (by decide +kernel)
  have k4 := hts (.fieldLink RX4 16 "ConvexConduit" "amount" "I") (by decide +kernel)
  unfold pX4_mostOn at h
  refine lv_aload_n hx hb dX4_mostOn_0 rfl (lv_at hl 0 rfl) ?_
  refine lv_iload_n hx hb dX4_mostOn_1 rfl (lv_at hl 1 rfl) ?_
  rcases bdxl h with e9 | ⟨_, e9, h⟩
  · exact q_callXv (As := [.int p0]) hQ ⟨hx, hb, hml, hown, hts⟩ hlocks (cx_X4_refuseOtherThanArc l hfl dC dI cyI cyZ ob nw aF aT aP aC aU cf aO aL aH aD aB uc aUT aUD aUB dr aDT aDW H.size xS xT xA nN nA dFo dPa dLa nF nT nP nC nU cO cL cH cD cB uT uD uB dT dW p0 _ e9) (cwV 1 hts gX4_mostOn_X4_refuseOtherThanArc rfl rfl rfl (by decide +kernel) ⟨Nat.le_of_ble_eq_true rfl, Nat.le_of_ble_eq_true rfl⟩) hXc hout hK hP hD hS hA [0, 1, 2, 3, 4, 5, 6, 7, 8, 9, 10, 11, 12, 13, 14, 15, 16, 17, 18, 19] rfl 4 0 rfl rfl rfl hl.1 (Nat.le_of_ble_eq_true rfl) (Nat.le_of_ble_eq_true rfl) (Nat.le_of_ble_eq_true rfl) (Nat.le_of_ble_eq_true rfl) (Nat.le_of_ble_eq_true rfl) rfl dX4_mostOn_2
  · refine q_callVv (As := [.int p0]) (w1 := wX4 cyI cyZ ob nw aF aT aP aC aU cf aO aL aH aD aB uc aUT aUD aUB dr aDT aDW xS xT xA nN nA dFo dPa dLa nF nT nP nC nU cO cL cH cD cB uT uD uB dT dW) (ws2 := wX4 cyI cyZ ob nw aF aT aP aC aU cf aO aL aH aD aB uc aUT aUD aUB dr aDT aDW xS xT xA nN nA dFo dPa dLa nF nT nP nC nU cO cL cH cD cB uT uD uB dT dW) ⟨hx, hb, hml, hown, hts⟩ (c_X4_refuseOtherThanArc l dC dI cyI cyZ ob nw aF aT aP aC aU cf aO aL aH aD aB uc aUT aUD aUB dr aDT aDW H.size xS xT xA nN nA dFo dPa dLa nF nT nP nC nU cO cL cH cD cB uT uD uB dT dW p0 _ e9) (cwV 1 hts gX4_mostOn_X4_refuseOtherThanArc rfl rfl rfl (by decide +kernel) ⟨Nat.le_of_ble_eq_true rfl, Nat.le_of_ble_eq_true rfl⟩) hK hP hD hS hA [0, 1, 2, 3, 4, 5, 6, 7, 8, 9, 10, 11, 12, 13, 14, 15, 16, 17, 18, 19] [] [0, 1, 2, 3, 4, 5, 6, 7, 8, 9, 10, 11, 12, 13, 14, 15, 16, 17, 18, 19] [0, 1] rfl rfl rfl rfl (by decide) rfl rfl rfl 4 0 rfl rfl rfl hl.1 (Nat.le_of_ble_eq_true rfl) (Nat.le_of_ble_eq_true rfl) (Nat.le_of_ble_eq_true rfl) rfl dX4_mostOn_2 (fun H locs hP hD hS => ?_)
    exact rgtl h
set_option maxHeartbeats 4000000 in
set_option maxRecDepth 100000 in
theorem c_X4_drivenOn (l : Launch) (dC : Nat → ClassId) (dI : Nat → Nat → Nat) (cyI cyZ : ClassId) (ob nw aF aT aP aC aU cf aO aL aH aD aB uc aUT aUD aUB dr aDT aDW : Nat) (sz : Nat) (xS xT xA nN nA dFo dPa dLa : Int32) (nF nT nP nC nU cO cL cH cD cB uT uD uB dT dW : Nat → Int32) (p0 : Int32) (N : Nat) (res : Int32 × Int32 × Int32 × Int32 × (Nat → Int32) × (Nat → Int32)) (h : pX4_drivenOn N xS xT xA nN nA nF nT nC nU dT dW p0 = some (.inr res)) : Met l yX4_drivenOn wsX4_drivenOn { frames := 6, cells := 0, slots := 0, locals := 136 } (va_Pc [.ref ob, .int p0] (zPre (dC, dI) (wX4 cyI cyZ ob nw aF aT aP aC aU cf aO aL aH aD aB uc aUT aUD aUB dr aDT aDW xS xT xA nN nA dFo dPa dLa nF nT nP nC nU cO cL cH cD cB uT uD uB dT dW) [(cyI, .int), (cyZ, .boolean)] sz)) (zQi (dC, dI) (wX4 cyI cyZ ob nw aF aT aP aC aU cf aO aL aH aD aB uc aUT aUD aUB dr aDT aDW xS xT xA nN nA res.2.1 res.2.2.1 res.2.2.2.1 nF nT nP nC nU cO cL cH cD cB uT uD uB res.2.2.2.2.1 res.2.2.2.2.2) [(cyI, .int), (cyZ, .boolean)] (res.1) (va_A (wX4 cyI cyZ ob nw aF aT aP aC aU cf aO aL aH aD aB uc aUT aUD aUB dr aDT aDW xS xT xA nN nA dFo dPa dLa nF nT nP nC nU cO cL cH cD cB uT uD uB dT dW) sz)) 0 0 (va_A (wX4 cyI cyZ ob nw aF aT aP aC aU cf aO aL aH aD aB uc aUT aUD aUB dr aDT aDW xS xT xA nN nA dFo dPa dLa nF nT nP nC nU cO cL cH cD cB uT uD uB dT dW) sz) := by
  refine q_ofWi (cc := cX4_drivenOn) (maxL := 2) (rt := (some .int)) (by decide) rfl (Nat.le_of_ble_eq_true rfl) ?_
  intro p e s m args below meth c ls A Q H locs hQ hx hb hr hts hown hlocks hml hA hK hP hD hS hl
  have hl : lv_has ls 2 [(0, .ref ob), (1, .int p0)] := hl
  have k0 := hts (.fieldLink RX4 56 "ConvexConduit" "drivers" "LConvexConduit$Drivers;") (by decide +kernel)
  have k1 : ∀ w ∈ u_ws RX4 TX4 7, w ∈ wsX4_drivenOn := by decide +kernel
  have k2 := hts (.fieldLink RX4 9 "ConvexConduit" "source" "I") (by decide +kernel)
  have k3 := hts (.fieldLink RX4 13 "ConvexConduit" "target" "I") (by decide +kernel)
  have k4 := hts (.fieldLink RX4 16 "ConvexConduit" "amount" "I") (by decide +kernel)
  have k5 := hts (.fieldLink RX4 143 "ConvexConduit$Drivers" "taken" "[I") (by decide +kernel)
  have k6 : ∀ w ∈ u_ws RX1 TX1 6, w ∈ wsX4_drivenOn := by decide +kernel
  unfold pX4_drivenOn at h
  refine lv_aload_n hx hb dX4_drivenOn_0 rfl (lv_at hl 0 rfl) ?_
  refine lv_iload_n hx hb dX4_drivenOn_1 rfl (lv_at hl 1 rfl) ?_
  obtain ⟨_, e9, h⟩ := bdxr h
  refine q_callVv (As := [.int p0]) (w1 := wX4 cyI cyZ ob nw aF aT aP aC aU cf aO aL aH aD aB uc aUT aUD aUB dr aDT aDW xS xT xA nN nA dFo dPa dLa nF nT nP nC nU cO cL cH cD cB uT uD uB dT dW) (ws2 := wX4 cyI cyZ ob nw aF aT aP aC aU cf aO aL aH aD aB uc aUT aUD aUB dr aDT aDW xS xT xA nN nA dFo dPa dLa nF nT nP nC nU cO cL cH cD cB uT uD uB dT dW) ⟨hx, hb, hml, hown, hts⟩ (c_X4_refuseOtherThanArc l dC dI cyI cyZ ob nw aF aT aP aC aU cf aO aL aH aD aB uc aUT aUD aUB dr aDT aDW H.size xS xT xA nN nA dFo dPa dLa nF nT nP nC nU cO cL cH cD cB uT uD uB dT dW p0 _ e9) (cwV 1 hts gX4_drivenOn_X4_refuseOtherThanArc rfl rfl rfl (by decide +kernel) ⟨Nat.le_of_ble_eq_true rfl, Nat.le_of_ble_eq_true rfl⟩) hK hP hD hS hA [0, 1, 2, 3, 4, 5, 6, 7, 8, 9, 10, 11, 12, 13, 14, 15, 16, 17, 18, 19] [] [0, 1, 2, 3, 4, 5, 6, 7, 8, 9, 10, 11, 12, 13, 14, 15, 16, 17, 18, 19] [0, 1] rfl rfl rfl rfl (by decide) rfl rfl rfl 4 0 rfl rfl rfl hl.1 (Nat.le_of_ble_eq_true rfl) (Nat.le_of_ble_eq_true rfl) (Nat.le_of_ble_eq_true rfl) rfl dX4_drivenOn_2 (fun H locs hP hD hS => ?_)
  have h := rgtr h
  refine lv_aload_n hx hb dX4_drivenOn_5 rfl (lv_at hl 0 rfl) ?_
  refine va_get (D := (dC, dI)) (ci := 4) (v := .ref dr) (C := RX4) (T := TX4) (N := 7) hx hb hts k1 hown hK hP 0 rfl rfl 3 (by decide) k0 (fun _ h9 => h9) rfl dX4_drivenOn_6 ?_
  refine lv_aload_n hx hb dX4_drivenOn_9 rfl (lv_at hl 0 rfl) ?_
  refine va_get (D := (dC, dI)) (ci := 4) (v := .int xS) (C := RX4) (T := TX4) (N := 7) hx hb hts k1 hown hK hP 0 rfl rfl 4 (by decide) k2 (fun _ h9 => h9) rfl dX4_drivenOn_10 ?_
  refine lv_aload_n hx hb dX4_drivenOn_13 rfl (lv_at hl 0 rfl) ?_
  refine va_get (D := (dC, dI)) (ci := 4) (v := .int xT) (C := RX4) (T := TX4) (N := 7) hx hb hts k1 hown hK hP 0 rfl rfl 5 (by decide) k3 (fun _ h9 => h9) rfl dX4_drivenOn_14 ?_
  refine lv_aload_n hx hb dX4_drivenOn_17 rfl (lv_at hl 0 rfl) ?_
  refine va_get (D := (dC, dI)) (ci := 4) (v := .int xA) (C := RX4) (T := TX4) (N := 7) hx hb hts k1 hown hK hP 0 rfl rfl 6 (by decide) k4 (fun _ h9 => h9) rfl dX4_drivenOn_18 ?_
  obtain ⟨dFo_1, dPa_2, dLa_3, dT_4, dW_5, e9, h⟩ := bd5 h
  refine q_callVv (As := [.int xS, .int xT, .int xA]) (w1 := wX1 cyI dr nw aF aT aP aC aU aDT aDW dFo_1 dPa_2 dLa_3 nN nA nF nT nP nC nU dT_4 dW_5) (ws2 := wX4 cyI cyZ ob nw aF aT aP aC aU cf aO aL aH aD aB uc aUT aUD aUB dr aDT aDW xS xT xA nN nA dFo_1 dPa_2 dLa_3 nF nT nP nC nU cO cL cH cD cB uT uD uB dT_4 dW_5) ⟨hx, hb, hml, hown, hts⟩ (c_X1_comeOneByOne l dC dI cyI dr nw aF aT aP aC aU aDT aDW H.size dFo dPa dLa nN nA nF nT nP nC nU dT dW xS xT xA N _ e9) (cwV 3 hts gX4_drivenOn_X1_comeOneByOne rfl rfl rfl (by decide +kernel) ⟨Nat.le_of_ble_eq_true rfl, Nat.le_of_ble_eq_true rfl⟩) hK hP hD hS hA [17, 1, 2, 3, 4, 5, 6, 18, 19] [0, 7, 8, 9, 10, 11, 12, 13, 14, 15, 16] [0, 12, 13, 14, 15, 16, 17, 1, 2, 3, 4, 5, 6, 7, 8, 9, 10, 11, 18, 19] [0] rfl rfl rfl rfl (by decide) rfl rfl rfl 1 0 rfl rfl rfl hl.1 (Nat.le_of_ble_eq_true rfl) (Nat.le_of_ble_eq_true rfl) (Nat.le_of_ble_eq_true rfl) rfl dX4_drivenOn_21 (fun H locs hP hD hS => ?_)
  refine lv_aload_n hx hb dX4_drivenOn_24 rfl (lv_at hl 0 rfl) ?_
  refine va_get (D := (dC, dI)) (ci := 4) (v := .ref dr) (C := RX4) (T := TX4) (N := 7) hx hb hts k1 hown hK hP 0 rfl rfl 3 (by decide) k0 (fun _ h9 => h9) rfl dX4_drivenOn_25 ?_
  refine va_get (D := (dC, dI)) (ci := 1) (v := .ref aDT) (C := RX1) (T := TX1) (N := 6) hx hb hts k6 hown hK hP 17 rfl rfl 1 (by decide) k5 (fun _ h9 => h9) rfl dX4_drivenOn_28 ?_
  refine lv_iload_n hx hb dX4_drivenOn_31 rfl (lv_at hl 1 rfl) ?_
  obtain ⟨t6, e9, h⟩ := bd h
  refine q_iald hx hb hK hP 18 0 rfl rfl e9 dX4_drivenOn_32 ?_
  cases h
  exact q_iret hQ hx hb hr hlocks hP hK hD hS dX4_drivenOn_33
set_option maxHeartbeats 4000000 in
set_option maxRecDepth 100000 in
theorem cx_X4_drivenOn (l : Launch) (hfl : l.stackTraces = false) (dC : Nat → ClassId) (dI : Nat → Nat → Nat) (cyI cyZ : ClassId) (ob nw aF aT aP aC aU cf aO aL aH aD aB uc aUT aUD aUB dr aDT aDW : Nat) (sz : Nat) (xS xT xA nN nA dFo dPa dLa : Int32) (nF nT nP nC nU cO cL cH cD cB uT uD uB dT dW : Nat → Int32) (p0 : Int32) (N : Nat) (k : Nat) (h : pX4_drivenOn N xS xT xA nN nA nF nT nC nU dT dW p0 = some (.inl k)) : vx_Met l yX4_drivenOn wsX4_drivenOn { frames := 7, cells := 1, slots := 6, locals := 136 } (va_Pc [.ref ob, .int p0] (zPreX (dC, dI) (wX4 cyI cyZ ob nw aF aT aP aC aU cf aO aL aH aD aB uc aUT aUD aUB dr aDT aDW xS xT xA nN nA dFo dPa dLa nF nT nP nC nU cO cL cH cD cB uT uD uB dT dW) [(cyI, .int), (cyZ, .boolean)] sz)) (zNi (va_A (wX4 cyI cyZ ob nw aF aT aP aC aU cf aO aL aH aD aB uc aUT aUD aUB dr aDT aDW xS xT xA nN nA dFo dPa dLa nF nT nP nC nU cO cL cH cD cB uT uD uB dT dW) sz)) (zX (dC, dI) (wX4 cyI cyZ ob nw aF aT aP aC aU cf aO aL aH aD aB uc aUT aUD aUB dr aDT aDW xS xT xA nN nA dFo dPa dLa nF nT nP nC nU cO cL cH cD cB uT uD uB dT dW) [(cyI, .int), (cyZ, .boolean)] k (va_A (wX4 cyI cyZ ob nw aF aT aP aC aU cf aO aL aH aD aB uc aUT aUD aUB dr aDT aDW xS xT xA nN nA dFo dPa dLa nF nT nP nC nU cO cL cH cD cB uT uD uB dT dW) sz)) 1 6 (va_A (wX4 cyI cyZ ob nw aF aT aP aC aU cf aO aL aH aD aB uc aUT aUD aUB dr aDT aDW xS xT xA nN nA dFo dPa dLa nF nT nP nC nU cO cL cH cD cB uT uD uB dT dW) sz) := by
  refine q_ofXt (cc := cX4_drivenOn) (maxL := 2) (rt := (some .int)) (by decide) rfl (Nat.le_of_ble_eq_true rfl) ?_
  intro p e s m args below meth c ls A Q H locs hQ hx hb hr hts hown hlocks hml hA hK hP hD hS hl hout hXc
  have hl : lv_has ls 2 [(0, .ref ob), (1, .int p0)] := hl
  have k0 := hts (.fieldLink RX4 56 "ConvexConduit" "drivers" "LConvexConduit$Drivers;") (by decide +kernel)
  have k1 : ∀ w ∈ u_ws RX4 TX4 7, w ∈ wsX4_drivenOn := by decide +kernel
  have k2 := hts (.fieldLink RX4 9 "ConvexConduit" "source" "I") (by decide +kernel)
  have k3 := hts (.fieldLink RX4 13 "ConvexConduit" "target" "I") (by decide +kernel)
  have k4 := hts (.fieldLink RX4 16 "ConvexConduit" "amount" "I") (by decide +kernel)
  have k5 := hts (.fieldLink RX4 143 "ConvexConduit$Drivers" "taken" "[I") (by decide +kernel)
  have k6 : ∀ w ∈ u_ws RX1 TX1 6, w ∈ wsX4_drivenOn := by decide +kernel
  unfold pX4_drivenOn at h
  refine lv_aload_n hx hb dX4_drivenOn_0 rfl (lv_at hl 0 rfl) ?_
  refine lv_iload_n hx hb dX4_drivenOn_1 rfl (lv_at hl 1 rfl) ?_
  rcases bdxl h with e9 | ⟨_, e9, h⟩
  · exact q_callXv (As := [.int p0]) hQ ⟨hx, hb, hml, hown, hts⟩ hlocks (cx_X4_refuseOtherThanArc l hfl dC dI cyI cyZ ob nw aF aT aP aC aU cf aO aL aH aD aB uc aUT aUD aUB dr aDT aDW H.size xS xT xA nN nA dFo dPa dLa nF nT nP nC nU cO cL cH cD cB uT uD uB dT dW p0 _ e9) (cwV 1 hts gX4_drivenOn_X4_refuseOtherThanArc rfl rfl rfl (by decide +kernel) ⟨Nat.le_of_ble_eq_true rfl, Nat.le_of_ble_eq_true rfl⟩) hXc hout hK hP hD hS hA [0, 1, 2, 3, 4, 5, 6, 7, 8, 9, 10, 11, 12, 13, 14, 15, 16, 17, 18, 19] rfl 4 0 rfl rfl rfl hl.1 (Nat.le_of_ble_eq_true rfl) (Nat.le_of_ble_eq_true rfl) (Nat.le_of_ble_eq_true rfl) (Nat.le_of_ble_eq_true rfl) (Nat.le_of_ble_eq_true rfl) rfl dX4_drivenOn_2
  · refine q_callVv (As := [.int p0]) (w1 := wX4 cyI cyZ ob nw aF aT aP aC aU cf aO aL aH aD aB uc aUT aUD aUB dr aDT aDW xS xT xA nN nA dFo dPa dLa nF nT nP nC nU cO cL cH cD cB uT uD uB dT dW) (ws2 := wX4 cyI cyZ ob nw aF aT aP aC aU cf aO aL aH aD aB uc aUT aUD aUB dr aDT aDW xS xT xA nN nA dFo dPa dLa nF nT nP nC nU cO cL cH cD cB uT uD uB dT dW) ⟨hx, hb, hml, hown, hts⟩ (c_X4_refuseOtherThanArc l dC dI cyI cyZ ob nw aF aT aP aC aU cf aO aL aH aD aB uc aUT aUD aUB dr aDT aDW H.size xS xT xA nN nA dFo dPa dLa nF nT nP nC nU cO cL cH cD cB uT uD uB dT dW p0 _ e9) (cwV 1 hts gX4_drivenOn_X4_refuseOtherThanArc rfl rfl rfl (by decide +kernel) ⟨Nat.le_of_ble_eq_true rfl, Nat.le_of_ble_eq_true rfl⟩) hK hP hD hS hA [0, 1, 2, 3, 4, 5, 6, 7, 8, 9, 10, 11, 12, 13, 14, 15, 16, 17, 18, 19] [] [0, 1, 2, 3, 4, 5, 6, 7, 8, 9, 10, 11, 12, 13, 14, 15, 16, 17, 18, 19] [0, 1] rfl rfl rfl rfl (by decide) rfl rfl rfl 4 0 rfl rfl rfl hl.1 (Nat.le_of_ble_eq_true rfl) (Nat.le_of_ble_eq_true rfl) (Nat.le_of_ble_eq_true rfl) rfl dX4_drivenOn_2 (fun H locs hP hD hS => ?_)
    exact rgtl h
