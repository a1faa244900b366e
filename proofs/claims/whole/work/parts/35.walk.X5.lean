set_option maxHeartbeats 4000000 in
set_option maxRecDepth 100000 in
theorem c_X5_thrown (l : Launch) (dC : Nat → ClassId) (dI : Nat → Nat → Nat) (cyI : ClassId) (mo aMF aMT aMW aMU aMP aML aMM aMO aMR aMD aMB aMK : Nat) (sz : Nat) (mTh mNo mAr mS mG mQ mWa mPa mLa : Int32) (mF mT mW mU mP mL mM mO mR mD mB mK : Nat → Int32) (res : Int32) (h : pX5_thrown mTh = some res) : Met l yX5_thrown wsX5_thrown { frames := 0, cells := 0, slots := 0, locals := 0 } (va_Pc [.ref mo] (zPre (dC, dI) (wX5 cyI mo aMF aMT aMW aMU aMP aML aMM aMO aMR aMD aMB aMK mTh mNo mAr mS mG mQ mWa mPa mLa mF mT mW mU mP mL mM mO mR mD mB mK) [(cyI, .int)] sz)) (zQi (dC, dI) (wX5 cyI mo aMF aMT aMW aMU aMP aML aMM aMO aMR aMD aMB aMK mTh mNo mAr mS mG mQ mWa mPa mLa mF mT mW mU mP mL mM mO mR mD mB mK) [(cyI, .int)] (res) (va_A (wX5 cyI mo aMF aMT aMW aMU aMP aML aMM aMO aMR aMD aMB aMK mTh mNo mAr mS mG mQ mWa mPa mLa mF mT mW mU mP mL mM mO mR mD mB mK) sz)) 0 0 (va_A (wX5 cyI mo aMF aMT aMW aMU aMP aML aMM aMO aMR aMD aMB aMK mTh mNo mAr mS mG mQ mWa mPa mLa mF mT mW mU mP mL mM mO mR mD mB mK) sz) := by
  refine q_ofWi (cc := cX5_thrown) (maxL := 1) (rt := (some .int)) (by decide) rfl (Nat.le_of_ble_eq_true rfl) ?_
  intro p e s m args below meth c ls A Q H locs hQ hx hb hr hts hown hlocks hml hA hK hP hD hS hl
  have hl : lv_has ls 1 [(0, .ref mo)] := hl
  have k0 := hts (.fieldLink RX5 53 "ConvexConduitModel" "thrown" "I") (by decide +kernel)
  have k1 : ∀ w ∈ u_ws RX5 TX5 21, w ∈ wsX5_thrown := by decide +kernel
  unfold pX5_thrown at h
  refine lv_aload_n hx hb dX5_thrown_0 rfl (lv_at hl 0 rfl) ?_
  refine va_get (D := (dC, dI)) (ci := 5) (v := .int mTh) (C := RX5) (T := TX5) (N := 21) hx hb hts k1 hown hK hP 0 rfl rfl 0 (by decide) k0 (fun _ h9 => h9) rfl dX5_thrown_1 ?_
  cases h
  exact q_iret hQ hx hb hr hlocks hP hK hD hS dX5_thrown_4
set_option maxHeartbeats 4000000 in
set_option maxRecDepth 100000 in
theorem c_X5_goesWell (l : Launch) (dC : Nat → ClassId) (dI : Nat → Nat → Nat) (cyI : ClassId) (mo aMF aMT aMW aMU aMP aML aMM aMO aMR aMD aMB aMK : Nat) (sz : Nat) (mTh mNo mAr mS mG mQ mWa mPa mLa : Int32) (mF mT mW mU mP mL mM mO mR mD mB mK : Nat → Int32) (p0 : Int32) (res : Bool × Int32) (h : pX5_goesWell p0 = some res) : Met l yX5_goesWell wsX5_goesWell { frames := 0, cells := 0, slots := 0, locals := 0 } (va_Pc [.ref mo, .int p0] (zPre (dC, dI) (wX5 cyI mo aMF aMT aMW aMU aMP aML aMM aMO aMR aMD aMB aMK mTh mNo mAr mS mG mQ mWa mPa mLa mF mT mW mU mP mL mM mO mR mD mB mK) [(cyI, .int)] sz)) (zQi (dC, dI) (wX5 cyI mo aMF aMT aMW aMU aMP aML aMM aMO aMR aMD aMB aMK res.2 mNo mAr mS mG mQ mWa mPa mLa mF mT mW mU mP mL mM mO mR mD mB mK) [(cyI, .int)] (b2i res.1) (va_A (wX5 cyI mo aMF aMT aMW aMU aMP aML aMM aMO aMR aMD aMB aMK mTh mNo mAr mS mG mQ mWa mPa mLa mF mT mW mU mP mL mM mO mR mD mB mK) sz)) 0 0 (va_A (wX5 cyI mo aMF aMT aMW aMU aMP aML aMM aMO aMR aMD aMB aMK mTh mNo mAr mS mG mQ mWa mPa mLa mF mT mW mU mP mL mM mO mR mD mB mK) sz) := by
  refine q_ofWi (cc := cX5_goesWell) (maxL := 2) (rt := (some .boolean)) (by decide) rfl (Nat.le_of_ble_eq_true rfl) ?_
  intro p e s m args below meth c ls A Q H locs hQ hx hb hr hts hown hlocks hml hA hK hP hD hS hl
  have hl : lv_has ls 2 [(0, .ref mo), (1, .int p0)] := hl
  have k0 := hts (.fieldLink RX5 53 "ConvexConduitModel" "thrown" "I") (by decide +kernel)
  have k1 : ∀ w ∈ u_ws RX5 TX5 21, w ∈ wsX5_goesWell := by decide +kernel
  unfold pX5_goesWell at h
  refine lv_aload_n hx hb dX5_goesWell_0 rfl (lv_at hl 0 rfl) ?_
  refine lv_iload_n hx hb dX5_goesWell_1 rfl (lv_at hl 1 rfl) ?_
  refine va_put (D := (dC, dI)) (ci := 5) (v := .int p0) (ty := .int) (C := RX5) (T := TX5) (N := 21) hx hb hts k1 tyX5 tyX5_ok nmX5 hown hK hP hD hS 0 rfl rfl 0 (by decide) k0 (fun _ h9 => h9) rfl (by decide +kernel) rfl rfl (Nat.le_of_ble_eq_true rfl) dX5_goesWell_2 (fun H locs hP hD hS => ?_)
  have hP : va_P (dC, dI) vwCl (wX5 cyI mo aMF aMT aMW aMU aMP aML aMM aMO aMR aMD aMB aMK p0 mNo mAr mS mG mQ mWa mPa mLa mF mT mW mU mP mL mM mO mR mD mB mK) H := hP
  have hD : va_D A (wX5 cyI mo aMF aMT aMW aMU aMP aML aMM aMO aMR aMD aMB aMK p0 mNo mAr mS mG mQ mWa mPa mLa mF mT mW mU mP mL mM mO mR mD mB mK) := hD
  refine lv_iload_n hx hb dX5_goesWell_5 rfl (lv_at hl 1 rfl) ?_
  refine lv_if_ne (tgt := 13) hx hb dX5_goesWell_6 (by decide) (fun c9 => ?_) (fun c9 => ?_)
  · have h := ineg c9 h
    refine lv_iconst (v := 0) hx hb dX5_goesWell_13 (by decide) ?_
    cases h
    exact q_zret (b := false) hQ hx hb hr hlocks hP hK hD hS dX5_goesWell_14
  · have h := ipos c9 h
    refine lv_iconst (v := 1) hx hb dX5_goesWell_9 (by decide) ?_
    refine lv_goto (tgt := 14) hx hb dX5_goesWell_10 (by decide) ?_
    cases h
    exact q_zret (b := true) hQ hx hb hr hlocks hP hK hD hS dX5_goesWell_14
set_option maxHeartbeats 4000000 in
set_option maxRecDepth 100000 in
theorem c_X5_in (l : Launch) (dC : Nat → ClassId) (dI : Nat → Nat → Nat) (sz : Nat) (p0 p1 p2 : Int32) (res : Bool) (h : pX5_in p0 p1 p2 = some res) : Met l yX5_in wsX5_in { frames := 0, cells := 0, slots := 0, locals := 0 } (va_Pc [.int p0, .int p1, .int p2] (zPre (dC, dI) ([]) [] sz)) (zQi (dC, dI) ([]) [] (b2i res) (va_A ([]) sz)) 0 0 (va_A ([]) sz) := by
  refine q_ofWi (cc := cX5_in) (maxL := 3) (rt := (some .boolean)) (by decide) rfl (Nat.le_of_ble_eq_true rfl) ?_
  intro p e s m args below meth c ls A Q H locs hQ hx hb hr hts hown hlocks hml hA hK hP hD hS hl
  have hl : lv_has ls 3 [(0, .int p0), (1, .int p1), (2, .int p2)] := hl
  unfold pX5_in at h
  refine lv_iload_n hx hb dX5_in_0 rfl (lv_at hl 0 rfl) ?_
  refine lv_iload_n hx hb dX5_in_1 rfl (lv_at hl 1 rfl) ?_
  refine lv_icmp_lt (tgt := 14) hx hb dX5_in_2 (by decide) (fun c9 => ?_) (fun c9 => ?_)
  · have h := ipos c9 h
    refine lv_iconst (v := 0) hx hb dX5_in_14 (by decide) ?_
    cases h
    exact q_zret (b := false) hQ hx hb hr hlocks hP hK hD hS dX5_in_15
  · have h := ineg c9 h
    refine lv_iload_n hx hb dX5_in_5 rfl (lv_at hl 0 rfl) ?_
    refine lv_iload_n hx hb dX5_in_6 rfl (lv_at hl 2 rfl) ?_
    refine lv_icmp_gt (tgt := 14) hx hb dX5_in_7 (by decide) (fun c9 => ?_) (fun c9 => ?_)
    · have h := ipos c9 h
      refine lv_iconst (v := 0) hx hb dX5_in_14 (by decide) ?_
      cases h
      exact q_zret (b := false) hQ hx hb hr hlocks hP hK hD hS dX5_in_15
    · have h := ineg c9 h
      refine lv_iconst (v := 1) hx hb dX5_in_10 (by decide) ?_
      refine lv_goto (tgt := 15) hx hb dX5_in_11 (by decide) ?_
      cases h
      exact q_zret (b := true) hQ hx hb hr hlocks hP hK hD hS dX5_in_15
set_option maxHeartbeats 4000000 in
set_option maxRecDepth 100000 in
theorem c_X5_isNode (l : Launch) (dC : Nat → ClassId) (dI : Nat → Nat → Nat) (cyI : ClassId) (mo aMF aMT aMW aMU aMP aML aMM aMO aMR aMD aMB aMK : Nat) (sz : Nat) (mTh mNo mAr mS mG mQ mWa mPa mLa : Int32) (mF mT mW mU mP mL mM mO mR mD mB mK : Nat → Int32) (p0 : Int32) (res : Bool) (h : pX5_isNode mNo p0 = some res) : Met l yX5_isNode wsX5_isNode { frames := 1, cells := 0, slots := 0, locals := 22 } (va_Pc [.ref mo, .int p0] (zPre (dC, dI) (wX5 cyI mo aMF aMT aMW aMU aMP aML aMM aMO aMR aMD aMB aMK mTh mNo mAr mS mG mQ mWa mPa mLa mF mT mW mU mP mL mM mO mR mD mB mK) [(cyI, .int)] sz)) (zQi (dC, dI) (wX5 cyI mo aMF aMT aMW aMU aMP aML aMM aMO aMR aMD aMB aMK mTh mNo mAr mS mG mQ mWa mPa mLa mF mT mW mU mP mL mM mO mR mD mB mK) [(cyI, .int)] (b2i res) (va_A (wX5 cyI mo aMF aMT aMW aMU aMP aML aMM aMO aMR aMD aMB aMK mTh mNo mAr mS mG mQ mWa mPa mLa mF mT mW mU mP mL mM mO mR mD mB mK) sz)) 0 0 (va_A (wX5 cyI mo aMF aMT aMW aMU aMP aML aMM aMO aMR aMD aMB aMK mTh mNo mAr mS mG mQ mWa mPa mLa mF mT mW mU mP mL mM mO mR mD mB mK) sz) := by
  refine q_ofWi (cc := cX5_isNode) (maxL := 2) (rt := (some .boolean)) (by decide) rfl (Nat.le_of_ble_eq_true rfl) ?_
  intro p e s m args below meth c ls A Q H locs hQ hx hb hr hts hown hlocks hml hA hK hP hD hS hl
  have hl : lv_has ls 2 [(0, .ref mo), (1, .int p0)] := hl
  have k0 := hts (.fieldLink RX5 50 "ConvexConduitModel" "nodes" "I") (by decide +kernel)
  have k1 : ∀ w ∈ u_ws RX5 TX5 21, w ∈ wsX5_isNode := by decide +kernel
  unfold pX5_isNode at h
  refine lv_iload_n hx hb dX5_isNode_0 rfl (lv_at hl 1 rfl) ?_
  refine lv_iconst (v := 0) hx hb dX5_isNode_1 (by decide) ?_
  refine lv_aload_n hx hb dX5_isNode_2 rfl (lv_at hl 0 rfl) ?_
  refine va_get (D := (dC, dI)) (ci := 5) (v := .int mNo) (C := RX5) (T := TX5) (N := 21) hx hb hts k1 hown hK hP 0 rfl rfl 1 (by decide) k0 (fun _ h9 => h9) rfl dX5_isNode_3 ?_
  refine lv_iconst (v := 1) hx hb dX5_isNode_6 (by decide) ?_
  refine lv_isub hx hb dX5_isNode_7 ?_
  obtain ⟨b1, e9, h⟩ := bd h
  refine q_callSi (ret := b2i b1) (As := [.int p0, .int 0, .int (mNo - 1)]) ⟨hx, hb, hml, hown, hts⟩ (c_X5_in l dC dI H.size p0 0 (mNo - 1) _ e9) (va_cwS 3 hts gX5_isNode_X5_in rfl rfl rfl (by decide +kernel) ⟨Nat.le_of_ble_eq_true rfl, Nat.le_of_ble_eq_true rfl⟩) hK hP hD hS hA [0, 1, 2, 3, 4, 5, 6, 7, 8, 9, 10, 11, 12] rfl rfl rfl hl.1 (Nat.le_of_ble_eq_true rfl) (Nat.le_of_ble_eq_true rfl) (Nat.le_of_ble_eq_true rfl) rfl dX5_isNode_8 (fun H locs hP hD hS => ?_)
  cases h
  exact q_zret hQ hx hb hr hlocks hP hK hD hS dX5_isNode_11
set_option maxHeartbeats 4000000 in
set_option maxRecDepth 100000 in
theorem c_X5_isArc (l : Launch) (dC : Nat → ClassId) (dI : Nat → Nat → Nat) (cyI : ClassId) (mo aMF aMT aMW aMU aMP aML aMM aMO aMR aMD aMB aMK : Nat) (sz : Nat) (mTh mNo mAr mS mG mQ mWa mPa mLa : Int32) (mF mT mW mU mP mL mM mO mR mD mB mK : Nat → Int32) (p0 : Int32) (res : Bool) (h : pX5_isArc mAr p0 = some res) : Met l yX5_isArc wsX5_isArc { frames := 1, cells := 0, slots := 0, locals := 22 } (va_Pc [.ref mo, .int p0] (zPre (dC, dI) (wX5 cyI mo aMF aMT aMW aMU aMP aML aMM aMO aMR aMD aMB aMK mTh mNo mAr mS mG mQ mWa mPa mLa mF mT mW mU mP mL mM mO mR mD mB mK) [(cyI, .int)] sz)) (zQi (dC, dI) (wX5 cyI mo aMF aMT aMW aMU aMP aML aMM aMO aMR aMD aMB aMK mTh mNo mAr mS mG mQ mWa mPa mLa mF mT mW mU mP mL mM mO mR mD mB mK) [(cyI, .int)] (b2i res) (va_A (wX5 cyI mo aMF aMT aMW aMU aMP aML aMM aMO aMR aMD aMB aMK mTh mNo mAr mS mG mQ mWa mPa mLa mF mT mW mU mP mL mM mO mR mD mB mK) sz)) 0 0 (va_A (wX5 cyI mo aMF aMT aMW aMU aMP aML aMM aMO aMR aMD aMB aMK mTh mNo mAr mS mG mQ mWa mPa mLa mF mT mW mU mP mL mM mO mR mD mB mK) sz) := by
  refine q_ofWi (cc := cX5_isArc) (maxL := 2) (rt := (some .boolean)) (by decide) rfl (Nat.le_of_ble_eq_true rfl) ?_
  intro p e s m args below meth c ls A Q H locs hQ hx hb hr hts hown hlocks hml hA hK hP hD hS hl
  have hl : lv_has ls 2 [(0, .ref mo), (1, .int p0)] := hl
  have k0 := hts (.fieldLink RX5 60 "ConvexConduitModel" "arcs" "I") (by decide +kernel)
  have k1 : ∀ w ∈ u_ws RX5 TX5 21, w ∈ wsX5_isArc := by decide +kernel
  unfold pX5_isArc at h
  refine lv_iload_n hx hb dX5_isArc_0 rfl (lv_at hl 1 rfl) ?_
  refine lv_iconst (v := 0) hx hb dX5_isArc_1 (by decide) ?_
  refine lv_aload_n hx hb dX5_isArc_2 rfl (lv_at hl 0 rfl) ?_
  refine va_get (D := (dC, dI)) (ci := 5) (v := .int mAr) (C := RX5) (T := TX5) (N := 21) hx hb hts k1 hown hK hP 0 rfl rfl 2 (by decide) k0 (fun _ h9 => h9) rfl dX5_isArc_3 ?_
  refine lv_iconst (v := 1) hx hb dX5_isArc_6 (by decide) ?_
  refine lv_isub hx hb dX5_isArc_7 ?_
  obtain ⟨b1, e9, h⟩ := bd h
  refine q_callSi (ret := b2i b1) (As := [.int p0, .int 0, .int (mAr - 1)]) ⟨hx, hb, hml, hown, hts⟩ (c_X5_in l dC dI H.size p0 0 (mAr - 1) _ e9) (va_cwS 3 hts gX5_isArc_X5_in rfl rfl rfl (by decide +kernel) ⟨Nat.le_of_ble_eq_true rfl, Nat.le_of_ble_eq_true rfl⟩) hK hP hD hS hA [0, 1, 2, 3, 4, 5, 6, 7, 8, 9, 10, 11, 12] rfl rfl rfl hl.1 (Nat.le_of_ble_eq_true rfl) (Nat.le_of_ble_eq_true rfl) (Nat.le_of_ble_eq_true rfl) rfl dX5_isArc_8 (fun H locs hP hD hS => ?_)
  cases h
  exact q_zret hQ hx hb hr hlocks hP hK hD hS dX5_isArc_11
set_option maxHeartbeats 4000000 in
set_option maxRecDepth 100000 in
theorem c_X5_capacityOf (l : Launch) (dC : Nat → ClassId) (dI : Nat → Nat → Nat) (cyI : ClassId) (mo aMF aMT aMW aMU aMP aML aMM aMO aMR aMD aMB aMK : Nat) (sz : Nat) (mTh mNo mAr mS mG mQ mWa mPa mLa : Int32) (mF mT mW mU mP mL mM mO mR mD mB mK : Nat → Int32) (p0 : Int32) (N : Nat) (res : Int32) (h : pX5_capacityOf N mW mP p0 = some res) : Met l yX5_capacityOf wsX5_capacityOf { frames := 0, cells := 0, slots := 0, locals := 0 } (va_Pc [.ref mo, .int p0] (zPre (dC, dI) (wX5 cyI mo aMF aMT aMW aMU aMP aML aMM aMO aMR aMD aMB aMK mTh mNo mAr mS mG mQ mWa mPa mLa mF mT mW mU mP mL mM mO mR mD mB mK) [(cyI, .int)] sz)) (zQi (dC, dI) (wX5 cyI mo aMF aMT aMW aMU aMP aML aMM aMO aMR aMD aMB aMK mTh mNo mAr mS mG mQ mWa mPa mLa mF mT mW mU mP mL mM mO mR mD mB mK) [(cyI, .int)] (res) (va_A (wX5 cyI mo aMF aMT aMW aMU aMP aML aMM aMO aMR aMD aMB aMK mTh mNo mAr mS mG mQ mWa mPa mLa mF mT mW mU mP mL mM mO mR mD mB mK) sz)) 0 0 (va_A (wX5 cyI mo aMF aMT aMW aMU aMP aML aMM aMO aMR aMD aMB aMK mTh mNo mAr mS mG mQ mWa mPa mLa mF mT mW mU mP mL mM mO mR mD mB mK) sz) := by
  refine q_ofWi (cc := cX5_capacityOf) (maxL := 4) (rt := (some .int)) (by decide) rfl (Nat.le_of_ble_eq_true rfl) ?_
  intro p e s m args below meth c ls A Q H locs hQ hx hb hr hts hown hlocks hml hA hK hP hD hS hl
  have hl : lv_has ls 4 [(0, .ref mo), (1, .int p0)] := hl
  have k0 := hts (.fieldLink RX5 22 "ConvexConduitModel" "pieces" "[I") (by decide +kernel)
  have k1 : ∀ w ∈ u_ws RX5 TX5 21, w ∈ wsX5_capacityOf := by decide +kernel
  have k2 := hts (.fieldLink RX5 16 "ConvexConduitModel" "widths" "[I") (by decide +kernel)
  unfold pX5_capacityOf at h
  refine lv_iconst (v := 0) hx hb dX5_capacityOf_0 (by decide) ?_
  refine lv_istore_n (lv' := [(2, .int 0), (0, .ref mo), (1, .int p0)]) hx hb dX5_capacityOf_1 rfl hl (by decide) rfl (fun ls hl => ?_)
  refine lv_iconst (v := 0) hx hb dX5_capacityOf_2 (by decide) ?_
  refine lv_istore_n (lv' := [(3, .int 0), (2, .int 0), (0, .ref mo), (1, .int p0)]) hx hb dX5_capacityOf_3 rfl hl (by decide) rfl (fun ls hl => ?_)
  obtain ⟨x2_5, x3_6, e0, h⟩ := bd2 h
  have hT0 : ∀ (H : Heap) (locs : List Loc), va_P (dC, dI) vwCl (wX5 cyI mo aMF aMT aMW aMU aMP aML aMM aMO aMR aMD aMB aMK mTh mNo mAr mS mG mQ mWa mPa mLa mF mT mW mU mP mL mM mO mR mD mB mK) H → va_D A (wX5 cyI mo aMF aMT aMW aMU aMP aML aMM aMO aMR aMD aMB aMK mTh mNo mAr mS mG mQ mWa mPa mLa mF mT mW mU mP mL mM mO mR mD mB mK) → va_S A s.heap H locs → ∀ ls : Array Slot, lv_has ls 4 [(0, .ref mo), (1, .int p0), (2, .int x2_5), (3, .int x3_6)] → W p l e { frames := 0, cells := 0, slots := 0, locals := 0 } s m args below meth c H locs 0 0 Q (F0 m 33 ls []) := by
    intro H locs hP hD hS ls hl
    refine lv_iload_n hx hb dX5_capacityOf_33 rfl (lv_at hl 2 rfl) ?_
    cases h
    exact q_iret hQ hx hb hr hlocks hP hK hD hS dX5_capacityOf_34
  have hL0 : ∀ (n9 : Nat) (x2_1 : Int32) (x3_2 : Int32), lp (un2 (pX5_capacityOf_l4 mP mW p0)) n9 ((x2_1, x3_2)) = some ((x2_5, x3_6)) → ∀ (H : Heap) (locs : List Loc), va_P (dC, dI) vwCl (wX5 cyI mo aMF aMT aMW aMU aMP aML aMM aMO aMR aMD aMB aMK mTh mNo mAr mS mG mQ mWa mPa mLa mF mT mW mU mP mL mM mO mR mD mB mK) H → va_D A (wX5 cyI mo aMF aMT aMW aMU aMP aML aMM aMO aMR aMD aMB aMK mTh mNo mAr mS mG mQ mWa mPa mLa mF mT mW mU mP mL mM mO mR mD mB mK) → va_S A s.heap H locs → ∀ ls : Array Slot, lv_has ls 4 [(0, .ref mo), (1, .int p0), (2, .int x2_1), (3, .int x3_2)] → W p l e { frames := 0, cells := 0, slots := 0, locals := 0 } s m args below meth c H locs 0 0 Q (F0 m 4 ls []) := by
    intro n9
    induction n9 with
    | zero =>
      intro x2_1 x3_2 h
      exact lp0 h
    | succ n9 ih0 =>
      intro x2_1 x3_2 h H locs hP hD hS ls hl
      obtain ⟨o9, g, h⟩ := lps h
      replace g : pX5_capacityOf_l4 mP mW p0 x2_1 x3_2 = some o9 := g
      unfold pX5_capacityOf_l4 at g
      refine lv_iload_n hx hb dX5_capacityOf_4 rfl (lv_at hl 3 rfl) ?_
      refine lv_aload_n hx hb dX5_capacityOf_5 rfl (lv_at hl 0 rfl) ?_
      refine va_get (D := (dC, dI)) (ci := 5) (v := .ref aMP) (C := RX5) (T := TX5) (N := 21) hx hb hts k1 hown hK hP 0 rfl rfl 7 (by decide) k0 (fun _ h9 => h9) rfl dX5_capacityOf_6 ?_
      refine lv_iload_n hx hb dX5_capacityOf_9 rfl (lv_at hl 1 rfl) ?_
      obtain ⟨t3, e9, g⟩ := bd g
      refine q_iald hx hb hK hP 5 0 rfl rfl e9 dX5_capacityOf_10 ?_
      refine lv_icmp_ge (tgt := 33) hx hb dX5_capacityOf_11 (by decide) (fun c9 => ?_) (fun c9 => ?_)
      · have g := ipos c9 g
        cases g
        have h := lpx h
        cases h
        exact hT0 _ _ hP hD hS _ (lv_sub hl [0, 1, 2, 3] rfl)
      · have g := ineg c9 g
        refine lv_iload_n hx hb dX5_capacityOf_14 rfl (lv_at hl 2 rfl) ?_
        refine lv_aload_n hx hb dX5_capacityOf_15 rfl (lv_at hl 0 rfl) ?_
        refine va_get (D := (dC, dI)) (ci := 5) (v := .ref aMW) (C := RX5) (T := TX5) (N := 21) hx hb hts k1 hown hK hP 0 rfl rfl 5 (by decide) k2 (fun _ h9 => h9) rfl dX5_capacityOf_16 ?_
        refine lv_iconst (v := 3) hx hb dX5_capacityOf_19 (by decide) ?_
        refine lv_iload_n hx hb dX5_capacityOf_20 rfl (lv_at hl 1 rfl) ?_
        refine lv_imul hx hb dX5_capacityOf_21 ?_
        refine lv_iload_n hx hb dX5_capacityOf_22 rfl (lv_at hl 3 rfl) ?_
        refine lv_iadd hx hb dX5_capacityOf_23 ?_
        obtain ⟨t4, e9, g⟩ := bd g
        refine q_iald hx hb hK hP 3 0 rfl rfl e9 dX5_capacityOf_24 ?_
        refine lv_iadd hx hb dX5_capacityOf_25 ?_
        refine lv_istore_n (lv' := [(2, .int (x2_1 + t4)), (0, .ref mo), (1, .int p0), (3, .int x3_2)]) hx hb dX5_capacityOf_26 rfl hl (by decide) rfl (fun ls hl => ?_)
        refine lv_iinc (v := x3_2 + 1) (lv' := [(3, .int (x3_2 + 1)), (2, .int (x2_1 + t4)), (0, .ref mo), (1, .int p0)]) hx hb dX5_capacityOf_27 hl (k := 3) rfl (by rfl) (by decide) rfl (fun ls hl => ?_)
        refine lv_goto (tgt := 4) hx hb dX5_capacityOf_30 (by decide) ?_
        cases g
        exact ih0 _ _ h _ _ hP hD hS _ (lv_sub hl [2, 3, 1, 0] rfl)
  exact hL0 N _ _  e0 _ _ hP hD hS _ (lv_sub hl [2, 3, 1, 0] rfl)
set_option maxHeartbeats 4000000 in
set_option maxRecDepth 100000 in
theorem c_X5_put (l : Launch) (dC : Nat → ClassId) (dI : Nat → Nat → Nat) (cyI : ClassId) (mo aMF aMT aMW aMU aMP aML aMM aMO aMR aMD aMB aMK : Nat) (sz : Nat) (mTh mNo mAr mS mG mQ mWa mPa mLa : Int32) (mF mT mW mU mP mL mM mO mR mD mB mK : Nat → Int32) (p0 p1 p2 : Int32) (res : (Nat → Int32) × (Nat → Int32) × (Nat → Int32)) (h : pX5_put mW mU mP p0 p1 p2 = some res) : Met l yX5_put wsX5_put { frames := 0, cells := 0, slots := 0, locals := 0 } (va_Pc [.ref mo, .int p0, .int p1, .int p2] (zPre (dC, dI) (wX5 cyI mo aMF aMT aMW aMU aMP aML aMM aMO aMR aMD aMB aMK mTh mNo mAr mS mG mQ mWa mPa mLa mF mT mW mU mP mL mM mO mR mD mB mK) [(cyI, .int)] sz)) (zQv (dC, dI) (wX5 cyI mo aMF aMT aMW aMU aMP aML aMM aMO aMR aMD aMB aMK mTh mNo mAr mS mG mQ mWa mPa mLa mF mT res.1 res.2.1 res.2.2 mL mM mO mR mD mB mK) [(cyI, .int)] (va_A (wX5 cyI mo aMF aMT aMW aMU aMP aML aMM aMO aMR aMD aMB aMK mTh mNo mAr mS mG mQ mWa mPa mLa mF mT mW mU mP mL mM mO mR mD mB mK) sz)) 0 0 (va_A (wX5 cyI mo aMF aMT aMW aMU aMP aML aMM aMO aMR aMD aMB aMK mTh mNo mAr mS mG mQ mWa mPa mLa mF mT mW mU mP mL mM mO mR mD mB mK) sz) := by
  refine q_ofWv (cc := cX5_put) (maxL := 4) (rt := none) (by decide) rfl (Nat.le_of_ble_eq_true rfl) ?_
  intro p e s m args below meth c ls A Q H locs hQ hx hb hr hts hown hlocks hml hA hK hP hD hS hl
  have hl : lv_has ls 4 [(0, .ref mo), (1, .int p0), (2, .int p1), (3, .int p2)] := hl
  have k0 := hts (.fieldLink RX5 16 "ConvexConduitModel" "widths" "[I") (by decide +kernel)
  have k1 : ∀ w ∈ u_ws RX5 TX5 21, w ∈ wsX5_put := by decide +kernel
  have k2 := hts (.fieldLink RX5 22 "ConvexConduitModel" "pieces" "[I") (by decide +kernel)
  have k3 := hts (.fieldLink RX5 19 "ConvexConduitModel" "prices" "[I") (by decide +kernel)
  unfold pX5_put at h
  refine lv_aload_n hx hb dX5_put_0 rfl (lv_at hl 0 rfl) ?_
  refine va_get (D := (dC, dI)) (ci := 5) (v := .ref aMW) (C := RX5) (T := TX5) (N := 21) hx hb hts k1 hown hK hP 0 rfl rfl 5 (by decide) k0 (fun _ h9 => h9) rfl dX5_put_1 ?_
  refine lv_iconst (v := 3) hx hb dX5_put_4 (by decide) ?_
  refine lv_iload_n hx hb dX5_put_5 rfl (lv_at hl 1 rfl) ?_
  refine lv_imul hx hb dX5_put_6 ?_
  refine lv_aload_n hx hb dX5_put_7 rfl (lv_at hl 0 rfl) ?_
  refine va_get (D := (dC, dI)) (ci := 5) (v := .ref aMP) (C := RX5) (T := TX5) (N := 21) hx hb hts k1 hown hK hP 0 rfl rfl 7 (by decide) k2 (fun _ h9 => h9) rfl dX5_put_8 ?_
  refine lv_iload_n hx hb dX5_put_11 rfl (lv_at hl 1 rfl) ?_
  obtain ⟨t1, e9, h⟩ := bd h
  refine q_iald hx hb hK hP 5 0 rfl rfl e9 dX5_put_12 ?_
  refine lv_iadd hx hb dX5_put_13 ?_
  refine lv_iload_n hx hb dX5_put_14 rfl (lv_at hl 2 rfl) ?_
  obtain ⟨mW_2, e9, h⟩ := bd h
  refine q_iast (ws2 := wX5 cyI mo aMF aMT aMW aMU aMP aML aMM aMO aMR aMD aMB aMK mTh mNo mAr mS mG mQ mWa mPa mLa mF mT mW_2 mU mP mL mM mO mR mD mB mK) hx hb hK hP hD hS 3 0 rfl rfl e9 dX5_put_15 rfl (fun H locs hP hD hS => ?_)
  refine lv_aload_n hx hb dX5_put_16 rfl (lv_at hl 0 rfl) ?_
  refine va_get (D := (dC, dI)) (ci := 5) (v := .ref aMU) (C := RX5) (T := TX5) (N := 21) hx hb hts k1 hown hK hP 0 rfl rfl 6 (by decide) k3 (fun _ h9 => h9) rfl dX5_put_17 ?_
  refine lv_iconst (v := 3) hx hb dX5_put_20 (by decide) ?_
  refine lv_iload_n hx hb dX5_put_21 rfl (lv_at hl 1 rfl) ?_
  refine lv_imul hx hb dX5_put_22 ?_
  refine lv_aload_n hx hb dX5_put_23 rfl (lv_at hl 0 rfl) ?_
  refine va_get (D := (dC, dI)) (ci := 5) (v := .ref aMP) (C := RX5) (T := TX5) (N := 21) hx hb hts k1 hown hK hP 0 rfl rfl 7 (by decide) k2 (fun _ h9 => h9) rfl dX5_put_24 ?_
  refine lv_iload_n hx hb dX5_put_27 rfl (lv_at hl 1 rfl) ?_
  obtain ⟨t3, e9, h⟩ := bd h
  refine q_iald hx hb hK hP 5 0 rfl rfl e9 dX5_put_28 ?_
  refine lv_iadd hx hb dX5_put_29 ?_
  refine lv_iload_n hx hb dX5_put_30 rfl (lv_at hl 3 rfl) ?_
  obtain ⟨mU_4, e9, h⟩ := bd h
  refine q_iast (ws2 := wX5 cyI mo aMF aMT aMW aMU aMP aML aMM aMO aMR aMD aMB aMK mTh mNo mAr mS mG mQ mWa mPa mLa mF mT mW_2 mU_4 mP mL mM mO mR mD mB mK) hx hb hK hP hD hS 4 0 rfl rfl e9 dX5_put_31 rfl (fun H locs hP hD hS => ?_)
  refine lv_aload_n hx hb dX5_put_32 rfl (lv_at hl 0 rfl) ?_
  refine va_get (D := (dC, dI)) (ci := 5) (v := .ref aMP) (C := RX5) (T := TX5) (N := 21) hx hb hts k1 hown hK hP 0 rfl rfl 7 (by decide) k2 (fun _ h9 => h9) rfl dX5_put_33 ?_
  refine lv_iload_n hx hb dX5_put_36 rfl (lv_at hl 1 rfl) ?_
  refine lv_dup2_11 hx hb dX5_put_37 rfl rfl ?_
  obtain ⟨t5, e9, h⟩ := bd h
  refine q_iald hx hb hK hP 5 0 rfl rfl e9 dX5_put_38 ?_
  refine lv_iconst (v := 1) hx hb dX5_put_39 (by decide) ?_
  refine lv_iadd hx hb dX5_put_40 ?_
  obtain ⟨mP_6, e9, h⟩ := bd h
  refine q_iast (ws2 := wX5 cyI mo aMF aMT aMW aMU aMP aML aMM aMO aMR aMD aMB aMK mTh mNo mAr mS mG mQ mWa mPa mLa mF mT mW_2 mU_4 mP_6 mL mM mO mR mD mB mK) hx hb hK hP hD hS 5 0 rfl rfl e9 dX5_put_41 rfl (fun H locs hP hD hS => ?_)
  cases h
  exact q_vret hQ hx hb hr hlocks hP hK hD hS dX5_put_42
set_option maxHeartbeats 4000000 in
set_option maxRecDepth 100000 in
theorem c_X5_arc (l : Launch) (dC : Nat → ClassId) (dI : Nat → Nat → Nat) (cyI : ClassId) (mo aMF aMT aMW aMU aMP aML aMM aMO aMR aMD aMB aMK : Nat) (sz : Nat) (mTh mNo mAr mS mG mQ mWa mPa mLa : Int32) (mF mT mW mU mP mL mM mO mR mD mB mK : Nat → Int32) (p0 p1 p2 p3 : Int32) (res : Int32 × Int32 × Int32 × (Nat → Int32) × (Nat → Int32) × (Nat → Int32) × (Nat → Int32) × (Nat → Int32)) (h : pX5_arc mNo mAr mF mT mW mU mP p0 p1 p2 p3 = some res) : Met l yX5_arc wsX5_arc { frames := 2, cells := 0, slots := 0, locals := 43 } (va_Pc [.ref mo, .int p0, .int p1, .int p2, .int p3] (zPre (dC, dI) (wX5 cyI mo aMF aMT aMW aMU aMP aML aMM aMO aMR aMD aMB aMK mTh mNo mAr mS mG mQ mWa mPa mLa mF mT mW mU mP mL mM mO mR mD mB mK) [(cyI, .int)] sz)) (zQi (dC, dI) (wX5 cyI mo aMF aMT aMW aMU aMP aML aMM aMO aMR aMD aMB aMK res.2.1 mNo res.2.2.1 mS mG mQ mWa mPa mLa res.2.2.2.1 res.2.2.2.2.1 res.2.2.2.2.2.1 res.2.2.2.2.2.2.1 res.2.2.2.2.2.2.2 mL mM mO mR mD mB mK) [(cyI, .int)] (res.1) (va_A (wX5 cyI mo aMF aMT aMW aMU aMP aML aMM aMO aMR aMD aMB aMK mTh mNo mAr mS mG mQ mWa mPa mLa mF mT mW mU mP mL mM mO mR mD mB mK) sz)) 0 0 (va_A (wX5 cyI mo aMF aMT aMW aMU aMP aML aMM aMO aMR aMD aMB aMK mTh mNo mAr mS mG mQ mWa mPa mLa mF mT mW mU mP mL mM mO mR mD mB mK) sz) := by
  refine q_ofWi (cc := cX5_arc) (maxL := 6) (rt := (some .int)) (by decide) rfl (Nat.le_of_ble_eq_true rfl) ?_
  intro p e s m args below meth c ls A Q H locs hQ hx hb hr hts hown hlocks hml hA hK hP hD hS hl
  have hl : lv_has ls 6 [(0, .ref mo), (1, .int p0), (2, .int p1), (3, .int p2), (4, .int p3)] := hl
  have k0 := hts (.fieldLink RX5 7 "ConvexConduitModel" "froms" "[I") (by decide +kernel)
  have k1 : ∀ w ∈ u_ws RX5 TX5 21, w ∈ wsX5_arc := by decide +kernel
  have k2 := hts (.fieldLink RX5 60 "ConvexConduitModel" "arcs" "I") (by decide +kernel)
  have k3 := hts (.fieldLink RX5 13 "ConvexConduitModel" "tos" "[I") (by decide +kernel)
  have k4 := hts (.fieldLink RX5 22 "ConvexConduitModel" "pieces" "[I") (by decide +kernel)
  unfold pX5_arc at h
  refine lv_iload_n hx hb dX5_arc_0 rfl (lv_at hl 1 rfl) ?_
  refine lv_iload_n hx hb dX5_arc_1 rfl (lv_at hl 2 rfl) ?_
  refine lv_icmp_eq (tgt := 29) hx hb dX5_arc_2 (by decide) (fun c9 => ?_) (fun c9 => ?_)
  · have h := ipos c9 h
    refine lv_iconst (v := 0) hx hb dX5_arc_29 (by decide) ?_
    refine lv_istore (lv' := [(5, .int 0), (0, .ref mo), (1, .int p0), (2, .int p1), (3, .int p2), (4, .int p3)]) hx hb dX5_arc_30 hl (by decide) rfl (fun ls hl => ?_)
    refine lv_aload_n hx hb dX5_arc_32 rfl (lv_at hl 1 rfl) ?_
    refine lv_aload_n hx hb dX5_arc_33 rfl (lv_at hl 1 rfl) ?_
    refine lv_iload_n hx hb dX5_arc_34 rfl (lv_at hl 2 rfl) ?_
    obtain ⟨b1, e9, h⟩ := bd h
    refine q_callVi (ret := b2i b1) (As := [.int p0]) (w1 := wX5 cyI mo aMF aMT aMW aMU aMP aML aMM aMO aMR aMD aMB aMK mTh mNo mAr mS mG mQ mWa mPa mLa mF mT mW mU mP mL mM mO mR mD mB mK) (ws2 := wX5 cyI mo aMF aMT aMW aMU aMP aML aMM aMO aMR aMD aMB aMK mTh mNo mAr mS mG mQ mWa mPa mLa mF mT mW mU mP mL mM mO mR mD mB mK) ⟨hx, hb, hml, hown, hts⟩ (c_X5_isNode l dC dI cyI mo aMF aMT aMW aMU aMP aML aMM aMO aMR aMD aMB aMK H.size mTh mNo mAr mS mG mQ mWa mPa mLa mF mT mW mU mP mL mM mO mR mD mB mK p0 _ e9) (cwV 1 hts gX5_arc_X5_isNode rfl rfl rfl (by decide +kernel) ⟨Nat.le_of_ble_eq_true rfl, Nat.le_of_ble_eq_true rfl⟩) hK hP hD hS hA [0, 1, 2, 3, 4, 5, 6, 7, 8, 9, 10, 11, 12] [] [0, 1, 2, 3, 4, 5, 6, 7, 8, 9, 10, 11, 12] [0] rfl rfl rfl rfl (by decide) rfl rfl rfl 5 0 rfl rfl rfl hl.1 (Nat.le_of_ble_eq_true rfl) (Nat.le_of_ble_eq_true rfl) (Nat.le_of_ble_eq_true rfl) rfl dX5_arc_35 (fun H locs hP hD hS => ?_)
    refine lv_if_eq (tgt := 49) hx hb dX5_arc_38 (by decide) (fun c9 => ?_) (fun c9 => ?_)
    · have h := ipos c9 h
      refine lv_iconst (v := 1) hx hb dX5_arc_49 (by decide) ?_
      refine lv_goto (tgt := 76) hx hb dX5_arc_50 (by decide) ?_
      obtain ⟨b2, mTh_3, e9, h⟩ := bd2 h
      refine q_callVi (ret := b2i b2) (As := [.int 1]) (w1 := wX5 cyI mo aMF aMT aMW aMU aMP aML aMM aMO aMR aMD aMB aMK mTh_3 mNo mAr mS mG mQ mWa mPa mLa mF mT mW mU mP mL mM mO mR mD mB mK) (ws2 := wX5 cyI mo aMF aMT aMW aMU aMP aML aMM aMO aMR aMD aMB aMK mTh_3 mNo mAr mS mG mQ mWa mPa mLa mF mT mW mU mP mL mM mO mR mD mB mK) ⟨hx, hb, hml, hown, hts⟩ (c_X5_goesWell l dC dI cyI mo aMF aMT aMW aMU aMP aML aMM aMO aMR aMD aMB aMK H.size mTh mNo mAr mS mG mQ mWa mPa mLa mF mT mW mU mP mL mM mO mR mD mB mK 1 _ e9) (cwV 1 hts gX5_arc_X5_goesWell rfl rfl rfl (by decide +kernel) ⟨Nat.le_of_ble_eq_true rfl, Nat.le_of_ble_eq_true rfl⟩) hK hP hD hS hA [0, 1, 2, 3, 4, 5, 6, 7, 8, 9, 10, 11, 12] [] [0, 1, 2, 3, 4, 5, 6, 7, 8, 9, 10, 11, 12] [0] rfl rfl rfl rfl (by decide) rfl rfl rfl 5 0 rfl rfl rfl hl.1 (Nat.le_of_ble_eq_true rfl) (Nat.le_of_ble_eq_true rfl) (Nat.le_of_ble_eq_true rfl) rfl dX5_arc_76 (fun H locs hP hD hS => ?_)
      refine lv_if_ne (tgt := 84) hx hb dX5_arc_79 (by decide) (fun c9 => ?_) (fun c9 => ?_)
      · have h := ineg c9 h
        refine lv_aload_n hx hb dX5_arc_84 rfl (lv_at hl 1 rfl) ?_
        refine va_get (D := (dC, dI)) (ci := 5) (v := .ref aMF) (C := RX5) (T := TX5) (N := 21) hx hb hts k1 hown hK hP 0 rfl rfl 3 (by decide) k0 (fun _ h9 => h9) rfl dX5_arc_85 ?_
        refine lv_aload_n hx hb dX5_arc_88 rfl (lv_at hl 1 rfl) ?_
        refine va_get (D := (dC, dI)) (ci := 5) (v := .int mAr) (C := RX5) (T := TX5) (N := 21) hx hb hts k1 hown hK hP 0 rfl rfl 2 (by decide) k2 (fun _ h9 => h9) rfl dX5_arc_89 ?_
        refine lv_iload_n hx hb dX5_arc_92 rfl (lv_at hl 2 rfl) ?_
        obtain ⟨mF_4, e9, h⟩ := bd h
        refine q_iast (ws2 := wX5 cyI mo aMF aMT aMW aMU aMP aML aMM aMO aMR aMD aMB aMK mTh_3 mNo mAr mS mG mQ mWa mPa mLa mF_4 mT mW mU mP mL mM mO mR mD mB mK) hx hb hK hP hD hS 1 0 rfl rfl e9 dX5_arc_93 rfl (fun H locs hP hD hS => ?_)
        refine lv_aload_n hx hb dX5_arc_94 rfl (lv_at hl 1 rfl) ?_
        refine va_get (D := (dC, dI)) (ci := 5) (v := .ref aMT) (C := RX5) (T := TX5) (N := 21) hx hb hts k1 hown hK hP 0 rfl rfl 4 (by decide) k3 (fun _ h9 => h9) rfl dX5_arc_95 ?_
        refine lv_aload_n hx hb dX5_arc_98 rfl (lv_at hl 1 rfl) ?_
        refine va_get (D := (dC, dI)) (ci := 5) (v := .int mAr) (C := RX5) (T := TX5) (N := 21) hx hb hts k1 hown hK hP 0 rfl rfl 2 (by decide) k2 (fun _ h9 => h9) rfl dX5_arc_99 ?_
        refine lv_iload_n hx hb dX5_arc_102 rfl (lv_at hl 3 rfl) ?_
        obtain ⟨mT_5, e9, h⟩ := bd h
        refine q_iast (ws2 := wX5 cyI mo aMF aMT aMW aMU aMP aML aMM aMO aMR aMD aMB aMK mTh_3 mNo mAr mS mG mQ mWa mPa mLa mF_4 mT_5 mW mU mP mL mM mO mR mD mB mK) hx hb hK hP hD hS 2 0 rfl rfl e9 dX5_arc_103 rfl (fun H locs hP hD hS => ?_)
        refine lv_aload_n hx hb dX5_arc_104 rfl (lv_at hl 1 rfl) ?_
        refine va_get (D := (dC, dI)) (ci := 5) (v := .ref aMP) (C := RX5) (T := TX5) (N := 21) hx hb hts k1 hown hK hP 0 rfl rfl 7 (by decide) k4 (fun _ h9 => h9) rfl dX5_arc_105 ?_
        refine lv_aload_n hx hb dX5_arc_108 rfl (lv_at hl 1 rfl) ?_
        refine va_get (D := (dC, dI)) (ci := 5) (v := .int mAr) (C := RX5) (T := TX5) (N := 21) hx hb hts k1 hown hK hP 0 rfl rfl 2 (by decide) k2 (fun _ h9 => h9) rfl dX5_arc_109 ?_
        refine lv_iconst (v := 0) hx hb dX5_arc_112 (by decide) ?_
        obtain ⟨mP_6, e9, h⟩ := bd h
        refine q_iast (ws2 := wX5 cyI mo aMF aMT aMW aMU aMP aML aMM aMO aMR aMD aMB aMK mTh_3 mNo mAr mS mG mQ mWa mPa mLa mF_4 mT_5 mW mU mP_6 mL mM mO mR mD mB mK) hx hb hK hP hD hS 5 0 rfl rfl e9 dX5_arc_113 rfl (fun H locs hP hD hS => ?_)
        refine lv_aload_n hx hb dX5_arc_114 rfl (lv_at hl 1 rfl) ?_
        refine lv_aload_n hx hb dX5_arc_115 rfl (lv_at hl 1 rfl) ?_
        refine va_get (D := (dC, dI)) (ci := 5) (v := .int mAr) (C := RX5) (T := TX5) (N := 21) hx hb hts k1 hown hK hP 0 rfl rfl 2 (by decide) k2 (fun _ h9 => h9) rfl dX5_arc_116 ?_
        refine lv_iload_n hx hb dX5_arc_119 rfl (lv_at hl 4 rfl) ?_
        refine lv_iload hx hb dX5_arc_120 (lv_at hl 5 rfl) ?_
        obtain ⟨mW_7, mU_8, mP_9, e9, h⟩ := bd3 h
        refine q_callVv (As := [.int mAr, .int p2, .int p3]) (w1 := wX5 cyI mo aMF aMT aMW aMU aMP aML aMM aMO aMR aMD aMB aMK mTh_3 mNo mAr mS mG mQ mWa mPa mLa mF_4 mT_5 mW_7 mU_8 mP_9 mL mM mO mR mD mB mK) (ws2 := wX5 cyI mo aMF aMT aMW aMU aMP aML aMM aMO aMR aMD aMB aMK mTh_3 mNo mAr mS mG mQ mWa mPa mLa mF_4 mT_5 mW_7 mU_8 mP_9 mL mM mO mR mD mB mK) ⟨hx, hb, hml, hown, hts⟩ (c_X5_put l dC dI cyI mo aMF aMT aMW aMU aMP aML aMM aMO aMR aMD aMB aMK H.size mTh_3 mNo mAr mS mG mQ mWa mPa mLa mF_4 mT_5 mW mU mP_6 mL mM mO mR mD mB mK mAr p2 p3 _ e9) (cwV 3 hts gX5_arc_X5_put rfl rfl rfl (by decide +kernel) ⟨Nat.le_of_ble_eq_true rfl, Nat.le_of_ble_eq_true rfl⟩) hK hP hD hS hA [0, 1, 2, 3, 4, 5, 6, 7, 8, 9, 10, 11, 12] [] [0, 1, 2, 3, 4, 5, 6, 7, 8, 9, 10, 11, 12] [0] rfl rfl rfl rfl (by decide) rfl rfl rfl 5 0 rfl rfl rfl hl.1 (Nat.le_of_ble_eq_true rfl) (Nat.le_of_ble_eq_true rfl) (Nat.le_of_ble_eq_true rfl) rfl dX5_arc_122 (fun H locs hP hD hS => ?_)
        refine lv_aload_n hx hb dX5_arc_125 rfl (lv_at hl 1 rfl) ?_
        refine lv_dup hx hb dX5_arc_126 rfl ?_
        refine va_get (D := (dC, dI)) (ci := 5) (v := .int mAr) (C := RX5) (T := TX5) (N := 21) hx hb hts k1 hown hK hP 0 rfl rfl 2 (by decide) k2 (fun _ h9 => h9) rfl dX5_arc_127 ?_
        refine lv_iconst (v := 1) hx hb dX5_arc_130 (by decide) ?_
        refine lv_iadd hx hb dX5_arc_131 ?_
        refine va_put (D := (dC, dI)) (ci := 5) (v := .int (mAr + 1)) (ty := .int) (C := RX5) (T := TX5) (N := 21) hx hb hts k1 tyX5 tyX5_ok nmX5 hown hK hP hD hS 0 rfl rfl 2 (by decide) k2 (fun _ h9 => h9) rfl (by decide +kernel) rfl rfl (Nat.le_of_ble_eq_true rfl) dX5_arc_132 (fun H locs hP hD hS => ?_)
        have hP : va_P (dC, dI) vwCl (wX5 cyI mo aMF aMT aMW aMU aMP aML aMM aMO aMR aMD aMB aMK mTh_3 mNo (mAr + 1) mS mG mQ mWa mPa mLa mF_4 mT_5 mW_7 mU_8 mP_9 mL mM mO mR mD mB mK) H := hP
        have hD : va_D A (wX5 cyI mo aMF aMT aMW aMU aMP aML aMM aMO aMR aMD aMB aMK mTh_3 mNo (mAr + 1) mS mG mQ mWa mPa mLa mF_4 mT_5 mW_7 mU_8 mP_9 mL mM mO mR mD mB mK) := hD
        refine lv_aload_n hx hb dX5_arc_135 rfl (lv_at hl 1 rfl) ?_
        refine va_get (D := (dC, dI)) (ci := 5) (v := .int (mAr + 1)) (C := RX5) (T := TX5) (N := 21) hx hb hts k1 hown hK hP 0 rfl rfl 2 (by decide) k2 (fun _ h9 => h9) rfl dX5_arc_136 ?_
        refine lv_iconst (v := 1) hx hb dX5_arc_139 (by decide) ?_
        refine lv_isub hx hb dX5_arc_140 ?_
        cases h
        exact q_iret hQ hx hb hr hlocks hP hK hD hS dX5_arc_141
      · have h := ipos c9 h
        refine lv_iconst (v := 0) hx hb dX5_arc_82 (by decide) ?_
        cases h
        exact q_iret hQ hx hb hr hlocks hP hK hD hS dX5_arc_83
    · have h := ineg c9 h
      refine lv_aload_n hx hb dX5_arc_41 rfl (lv_at hl 1 rfl) ?_
      refine lv_iload_n hx hb dX5_arc_42 rfl (lv_at hl 3 rfl) ?_
      obtain ⟨b10, e9, h⟩ := bd h
      refine q_callVi (ret := b2i b10) (As := [.int p1]) (w1 := wX5 cyI mo aMF aMT aMW aMU aMP aML aMM aMO aMR aMD aMB aMK mTh mNo mAr mS mG mQ mWa mPa mLa mF mT mW mU mP mL mM mO mR mD mB mK) (ws2 := wX5 cyI mo aMF aMT aMW aMU aMP aML aMM aMO aMR aMD aMB aMK mTh mNo mAr mS mG mQ mWa mPa mLa mF mT mW mU mP mL mM mO mR mD mB mK) ⟨hx, hb, hml, hown, hts⟩ (c_X5_isNode l dC dI cyI mo aMF aMT aMW aMU aMP aML aMM aMO aMR aMD aMB aMK H.size mTh mNo mAr mS mG mQ mWa mPa mLa mF mT mW mU mP mL mM mO mR mD mB mK p1 _ e9) (cwV 1 hts gX5_arc_X5_isNode rfl rfl rfl (by decide +kernel) ⟨Nat.le_of_ble_eq_true rfl, Nat.le_of_ble_eq_true rfl⟩) hK hP hD hS hA [0, 1, 2, 3, 4, 5, 6, 7, 8, 9, 10, 11, 12] [] [0, 1, 2, 3, 4, 5, 6, 7, 8, 9, 10, 11, 12] [0] rfl rfl rfl rfl (by decide) rfl rfl rfl 5 0 rfl rfl rfl hl.1 (Nat.le_of_ble_eq_true rfl) (Nat.le_of_ble_eq_true rfl) (Nat.le_of_ble_eq_true rfl) rfl dX5_arc_43 (fun H locs hP hD hS => ?_)
      refine lv_if_ne (tgt := 53) hx hb dX5_arc_46 (by decide) (fun c9 => ?_) (fun c9 => ?_)
      · have h := ineg c9 h
        refine lv_iload hx hb dX5_arc_53 (lv_at hl 0 rfl) ?_
        refine lv_if_ne (tgt := 62) hx hb dX5_arc_55 (by decide) (fun c9 => absurd (by decide) c9) (fun _ => ?_)
        refine lv_iconst (v := 2) hx hb dX5_arc_58 (by decide) ?_
        refine lv_goto (tgt := 76) hx hb dX5_arc_59 (by decide) ?_
        obtain ⟨b11, mTh_12, e9, h⟩ := bd2 h
        refine q_callVi (ret := b2i b11) (As := [.int 2]) (w1 := wX5 cyI mo aMF aMT aMW aMU aMP aML aMM aMO aMR aMD aMB aMK mTh_12 mNo mAr mS mG mQ mWa mPa mLa mF mT mW mU mP mL mM mO mR mD mB mK) (ws2 := wX5 cyI mo aMF aMT aMW aMU aMP aML aMM aMO aMR aMD aMB aMK mTh_12 mNo mAr mS mG mQ mWa mPa mLa mF mT mW mU mP mL mM mO mR mD mB mK) ⟨hx, hb, hml, hown, hts⟩ (c_X5_goesWell l dC dI cyI mo aMF aMT aMW aMU aMP aML aMM aMO aMR aMD aMB aMK H.size mTh mNo mAr mS mG mQ mWa mPa mLa mF mT mW mU mP mL mM mO mR mD mB mK 2 _ e9) (cwV 1 hts gX5_arc_X5_goesWell rfl rfl rfl (by decide +kernel) ⟨Nat.le_of_ble_eq_true rfl, Nat.le_of_ble_eq_true rfl⟩) hK hP hD hS hA [0, 1, 2, 3, 4, 5, 6, 7, 8, 9, 10, 11, 12] [] [0, 1, 2, 3, 4, 5, 6, 7, 8, 9, 10, 11, 12] [0] rfl rfl rfl rfl (by decide) rfl rfl rfl 5 0 rfl rfl rfl hl.1 (Nat.le_of_ble_eq_true rfl) (Nat.le_of_ble_eq_true rfl) (Nat.le_of_ble_eq_true rfl) rfl dX5_arc_76 (fun H locs hP hD hS => ?_)
        refine lv_if_ne (tgt := 84) hx hb dX5_arc_79 (by decide) (fun c9 => ?_) (fun c9 => ?_)
        · have h := ineg c9 h
          refine lv_aload_n hx hb dX5_arc_84 rfl (lv_at hl 1 rfl) ?_
          refine va_get (D := (dC, dI)) (ci := 5) (v := .ref aMF) (C := RX5) (T := TX5) (N := 21) hx hb hts k1 hown hK hP 0 rfl rfl 3 (by decide) k0 (fun _ h9 => h9) rfl dX5_arc_85 ?_
          refine lv_aload_n hx hb dX5_arc_88 rfl (lv_at hl 1 rfl) ?_
          refine va_get (D := (dC, dI)) (ci := 5) (v := .int mAr) (C := RX5) (T := TX5) (N := 21) hx hb hts k1 hown hK hP 0 rfl rfl 2 (by decide) k2 (fun _ h9 => h9) rfl dX5_arc_89 ?_
          refine lv_iload_n hx hb dX5_arc_92 rfl (lv_at hl 2 rfl) ?_
          obtain ⟨mF_13, e9, h⟩ := bd h
          refine q_iast (ws2 := wX5 cyI mo aMF aMT aMW aMU aMP aML aMM aMO aMR aMD aMB aMK mTh_12 mNo mAr mS mG mQ mWa mPa mLa mF_13 mT mW mU mP mL mM mO mR mD mB mK) hx hb hK hP hD hS 1 0 rfl rfl e9 dX5_arc_93 rfl (fun H locs hP hD hS => ?_)
          refine lv_aload_n hx hb dX5_arc_94 rfl (lv_at hl 1 rfl) ?_
          refine va_get (D := (dC, dI)) (ci := 5) (v := .ref aMT) (C := RX5) (T := TX5) (N := 21) hx hb hts k1 hown hK hP 0 rfl rfl 4 (by decide) k3 (fun _ h9 => h9) rfl dX5_arc_95 ?_
          refine lv_aload_n hx hb dX5_arc_98 rfl (lv_at hl 1 rfl) ?_
          refine va_get (D := (dC, dI)) (ci := 5) (v := .int mAr) (C := RX5) (T := TX5) (N := 21) hx hb hts k1 hown hK hP 0 rfl rfl 2 (by decide) k2 (fun _ h9 => h9) rfl dX5_arc_99 ?_
          refine lv_iload_n hx hb dX5_arc_102 rfl (lv_at hl 3 rfl) ?_
          obtain ⟨mT_14, e9, h⟩ := bd h
          refine q_iast (ws2 := wX5 cyI mo aMF aMT aMW aMU aMP aML aMM aMO aMR aMD aMB aMK mTh_12 mNo mAr mS mG mQ mWa mPa mLa mF_13 mT_14 mW mU mP mL mM mO mR mD mB mK) hx hb hK hP hD hS 2 0 rfl rfl e9 dX5_arc_103 rfl (fun H locs hP hD hS => ?_)
          refine lv_aload_n hx hb dX5_arc_104 rfl (lv_at hl 1 rfl) ?_
          refine va_get (D := (dC, dI)) (ci := 5) (v := .ref aMP) (C := RX5) (T := TX5) (N := 21) hx hb hts k1 hown hK hP 0 rfl rfl 7 (by decide) k4 (fun _ h9 => h9) rfl dX5_arc_105 ?_
          refine lv_aload_n hx hb dX5_arc_108 rfl (lv_at hl 1 rfl) ?_
          refine va_get (D := (dC, dI)) (ci := 5) (v := .int mAr) (C := RX5) (T := TX5) (N := 21) hx hb hts k1 hown hK hP 0 rfl rfl 2 (by decide) k2 (fun _ h9 => h9) rfl dX5_arc_109 ?_
          refine lv_iconst (v := 0) hx hb dX5_arc_112 (by decide) ?_
          obtain ⟨mP_15, e9, h⟩ := bd h
          refine q_iast (ws2 := wX5 cyI mo aMF aMT aMW aMU aMP aML aMM aMO aMR aMD aMB aMK mTh_12 mNo mAr mS mG mQ mWa mPa mLa mF_13 mT_14 mW mU mP_15 mL mM mO mR mD mB mK) hx hb hK hP hD hS 5 0 rfl rfl e9 dX5_arc_113 rfl (fun H locs hP hD hS => ?_)
          refine lv_aload_n hx hb dX5_arc_114 rfl (lv_at hl 1 rfl) ?_
          refine lv_aload_n hx hb dX5_arc_115 rfl (lv_at hl 1 rfl) ?_
          refine va_get (D := (dC, dI)) (ci := 5) (v := .int mAr) (C := RX5) (T := TX5) (N := 21) hx hb hts k1 hown hK hP 0 rfl rfl 2 (by decide) k2 (fun _ h9 => h9) rfl dX5_arc_116 ?_
          refine lv_iload_n hx hb dX5_arc_119 rfl (lv_at hl 4 rfl) ?_
          refine lv_iload hx hb dX5_arc_120 (lv_at hl 5 rfl) ?_
          obtain ⟨mW_16, mU_17, mP_18, e9, h⟩ := bd3 h
          refine q_callVv (As := [.int mAr, .int p2, .int p3]) (w1 := wX5 cyI mo aMF aMT aMW aMU aMP aML aMM aMO aMR aMD aMB aMK mTh_12 mNo mAr mS mG mQ mWa mPa mLa mF_13 mT_14 mW_16 mU_17 mP_18 mL mM mO mR mD mB mK) (ws2 := wX5 cyI mo aMF aMT aMW aMU aMP aML aMM aMO aMR aMD aMB aMK mTh_12 mNo mAr mS mG mQ mWa mPa mLa mF_13 mT_14 mW_16 mU_17 mP_18 mL mM mO mR mD mB mK) ⟨hx, hb, hml, hown, hts⟩ (c_X5_put l dC dI cyI mo aMF aMT aMW aMU aMP aML aMM aMO aMR aMD aMB aMK H.size mTh_12 mNo mAr mS mG mQ mWa mPa mLa mF_13 mT_14 mW mU mP_15 mL mM mO mR mD mB mK mAr p2 p3 _ e9) (cwV 3 hts gX5_arc_X5_put rfl rfl rfl (by decide +kernel) ⟨Nat.le_of_ble_eq_true rfl, Nat.le_of_ble_eq_true rfl⟩) hK hP hD hS hA [0, 1, 2, 3, 4, 5, 6, 7, 8, 9, 10, 11, 12] [] [0, 1, 2, 3, 4, 5, 6, 7, 8, 9, 10, 11, 12] [0] rfl rfl rfl rfl (by decide) rfl rfl rfl 5 0 rfl rfl rfl hl.1 (Nat.le_of_ble_eq_true rfl) (Nat.le_of_ble_eq_true rfl) (Nat.le_of_ble_eq_true rfl) rfl dX5_arc_122 (fun H locs hP hD hS => ?_)
          refine lv_aload_n hx hb dX5_arc_125 rfl (lv_at hl 1 rfl) ?_
          refine lv_dup hx hb dX5_arc_126 rfl ?_
          refine va_get (D := (dC, dI)) (ci := 5) (v := .int mAr) (C := RX5) (T := TX5) (N := 21) hx hb hts k1 hown hK hP 0 rfl rfl 2 (by decide) k2 (fun _ h9 => h9) rfl dX5_arc_127 ?_
          refine lv_iconst (v := 1) hx hb dX5_arc_130 (by decide) ?_
          refine lv_iadd hx hb dX5_arc_131 ?_
          refine va_put (D := (dC, dI)) (ci := 5) (v := .int (mAr + 1)) (ty := .int) (C := RX5) (T := TX5) (N := 21) hx hb hts k1 tyX5 tyX5_ok nmX5 hown hK hP hD hS 0 rfl rfl 2 (by decide) k2 (fun _ h9 => h9) rfl (by decide +kernel) rfl rfl (Nat.le_of_ble_eq_true rfl) dX5_arc_132 (fun H locs hP hD hS => ?_)
          have hP : va_P (dC, dI) vwCl (wX5 cyI mo aMF aMT aMW aMU aMP aML aMM aMO aMR aMD aMB aMK mTh_12 mNo (mAr + 1) mS mG mQ mWa mPa mLa mF_13 mT_14 mW_16 mU_17 mP_18 mL mM mO mR mD mB mK) H := hP
          have hD : va_D A (wX5 cyI mo aMF aMT aMW aMU aMP aML aMM aMO aMR aMD aMB aMK mTh_12 mNo (mAr + 1) mS mG mQ mWa mPa mLa mF_13 mT_14 mW_16 mU_17 mP_18 mL mM mO mR mD mB mK) := hD
          refine lv_aload_n hx hb dX5_arc_135 rfl (lv_at hl 1 rfl) ?_
          refine va_get (D := (dC, dI)) (ci := 5) (v := .int (mAr + 1)) (C := RX5) (T := TX5) (N := 21) hx hb hts k1 hown hK hP 0 rfl rfl 2 (by decide) k2 (fun _ h9 => h9) rfl dX5_arc_136 ?_
          refine lv_iconst (v := 1) hx hb dX5_arc_139 (by decide) ?_
          refine lv_isub hx hb dX5_arc_140 ?_
          cases h
          exact q_iret hQ hx hb hr hlocks hP hK hD hS dX5_arc_141
        · have h := ipos c9 h
          refine lv_iconst (v := 0) hx hb dX5_arc_82 (by decide) ?_
          cases h
          exact q_iret hQ hx hb hr hlocks hP hK hD hS dX5_arc_83
      · have h := ipos c9 h
        refine lv_iconst (v := 1) hx hb dX5_arc_49 (by decide) ?_
        refine lv_goto (tgt := 76) hx hb dX5_arc_50 (by decide) ?_
        obtain ⟨b19, mTh_20, e9, h⟩ := bd2 h
        refine q_callVi (ret := b2i b19) (As := [.int 1]) (w1 := wX5 cyI mo aMF aMT aMW aMU aMP aML aMM aMO aMR aMD aMB aMK mTh_20 mNo mAr mS mG mQ mWa mPa mLa mF mT mW mU mP mL mM mO mR mD mB mK) (ws2 := wX5 cyI mo aMF aMT aMW aMU aMP aML aMM aMO aMR aMD aMB aMK mTh_20 mNo mAr mS mG mQ mWa mPa mLa mF mT mW mU mP mL mM mO mR mD mB mK) ⟨hx, hb, hml, hown, hts⟩ (c_X5_goesWell l dC dI cyI mo aMF aMT aMW aMU aMP aML aMM aMO aMR aMD aMB aMK H.size mTh mNo mAr mS mG mQ mWa mPa mLa mF mT mW mU mP mL mM mO mR mD mB mK 1 _ e9) (cwV 1 hts gX5_arc_X5_goesWell rfl rfl rfl (by decide +kernel) ⟨Nat.le_of_ble_eq_true rfl, Nat.le_of_ble_eq_true rfl⟩) hK hP hD hS hA [0, 1, 2, 3, 4, 5, 6, 7, 8, 9, 10, 11, 12] [] [0, 1, 2, 3, 4, 5, 6, 7, 8, 9, 10, 11, 12] [0] rfl rfl rfl rfl (by decide) rfl rfl rfl 5 0 rfl rfl rfl hl.1 (Nat.le_of_ble_eq_true rfl) (Nat.le_of_ble_eq_true rfl) (Nat.le_of_ble_eq_true rfl) rfl dX5_arc_76 (fun H locs hP hD hS => ?_)
        refine lv_if_ne (tgt := 84) hx hb dX5_arc_79 (by decide) (fun c9 => ?_) (fun c9 => ?_)
        · have h := ineg c9 h
          refine lv_aload_n hx hb dX5_arc_84 rfl (lv_at hl 1 rfl) ?_
          refine va_get (D := (dC, dI)) (ci := 5) (v := .ref aMF) (C := RX5) (T := TX5) (N := 21) hx hb hts k1 hown hK hP 0 rfl rfl 3 (by decide) k0 (fun _ h9 => h9) rfl dX5_arc_85 ?_
          refine lv_aload_n hx hb dX5_arc_88 rfl (lv_at hl 1 rfl) ?_
          refine va_get (D := (dC, dI)) (ci := 5) (v := .int mAr) (C := RX5) (T := TX5) (N := 21) hx hb hts k1 hown hK hP 0 rfl rfl 2 (by decide) k2 (fun _ h9 => h9) rfl dX5_arc_89 ?_
          refine lv_iload_n hx hb dX5_arc_92 rfl (lv_at hl 2 rfl) ?_
          obtain ⟨mF_21, e9, h⟩ := bd h
          refine q_iast (ws2 := wX5 cyI mo aMF aMT aMW aMU aMP aML aMM aMO aMR aMD aMB aMK mTh_20 mNo mAr mS mG mQ mWa mPa mLa mF_21 mT mW mU mP mL mM mO mR mD mB mK) hx hb hK hP hD hS 1 0 rfl rfl e9 dX5_arc_93 rfl (fun H locs hP hD hS => ?_)
          refine lv_aload_n hx hb dX5_arc_94 rfl (lv_at hl 1 rfl) ?_
          refine va_get (D := (dC, dI)) (ci := 5) (v := .ref aMT) (C := RX5) (T := TX5) (N := 21) hx hb hts k1 hown hK hP 0 rfl rfl 4 (by decide) k3 (fun _ h9 => h9) rfl dX5_arc_95 ?_
          refine lv_aload_n hx hb dX5_arc_98 rfl (lv_at hl 1 rfl) ?_
          refine va_get (D := (dC, dI)) (ci := 5) (v := .int mAr) (C := RX5) (T := TX5) (N := 21) hx hb hts k1 hown hK hP 0 rfl rfl 2 (by decide) k2 (fun _ h9 => h9) rfl dX5_arc_99 ?_
          refine lv_iload_n hx hb dX5_arc_102 rfl (lv_at hl 3 rfl) ?_
          obtain ⟨mT_22, e9, h⟩ := bd h
          refine q_iast (ws2 := wX5 cyI mo aMF aMT aMW aMU aMP aML aMM aMO aMR aMD aMB aMK mTh_20 mNo mAr mS mG mQ mWa mPa mLa mF_21 mT_22 mW mU mP mL mM mO mR mD mB mK) hx hb hK hP hD hS 2 0 rfl rfl e9 dX5_arc_103 rfl (fun H locs hP hD hS => ?_)
          refine lv_aload_n hx hb dX5_arc_104 rfl (lv_at hl 1 rfl) ?_
          refine va_get (D := (dC, dI)) (ci := 5) (v := .ref aMP) (C := RX5) (T := TX5) (N := 21) hx hb hts k1 hown hK hP 0 rfl rfl 7 (by decide) k4 (fun _ h9 => h9) rfl dX5_arc_105 ?_
          refine lv_aload_n hx hb dX5_arc_108 rfl (lv_at hl 1 rfl) ?_
          refine va_get (D := (dC, dI)) (ci := 5) (v := .int mAr) (C := RX5) (T := TX5) (N := 21) hx hb hts k1 hown hK hP 0 rfl rfl 2 (by decide) k2 (fun _ h9 => h9) rfl dX5_arc_109 ?_
          refine lv_iconst (v := 0) hx hb dX5_arc_112 (by decide) ?_
          obtain ⟨mP_23, e9, h⟩ := bd h
          refine q_iast (ws2 := wX5 cyI mo aMF aMT aMW aMU aMP aML aMM aMO aMR aMD aMB aMK mTh_20 mNo mAr mS mG mQ mWa mPa mLa mF_21 mT_22 mW mU mP_23 mL mM mO mR mD mB mK) hx hb hK hP hD hS 5 0 rfl rfl e9 dX5_arc_113 rfl (fun H locs hP hD hS => ?_)
          refine lv_aload_n hx hb dX5_arc_114 rfl (lv_at hl 1 rfl) ?_
          refine lv_aload_n hx hb dX5_arc_115 rfl (lv_at hl 1 rfl) ?_
          refine va_get (D := (dC, dI)) (ci := 5) (v := .int mAr) (C := RX5) (T := TX5) (N := 21) hx hb hts k1 hown hK hP 0 rfl rfl 2 (by decide) k2 (fun _ h9 => h9) rfl dX5_arc_116 ?_
          refine lv_iload_n hx hb dX5_arc_119 rfl (lv_at hl 4 rfl) ?_
          refine lv_iload hx hb dX5_arc_120 (lv_at hl 5 rfl) ?_
          obtain ⟨mW_24, mU_25, mP_26, e9, h⟩ := bd3 h
          refine q_callVv (As := [.int mAr, .int p2, .int p3]) (w1 := wX5 cyI mo aMF aMT aMW aMU aMP aML aMM aMO aMR aMD aMB aMK mTh_20 mNo mAr mS mG mQ mWa mPa mLa mF_21 mT_22 mW_24 mU_25 mP_26 mL mM mO mR mD mB mK) (ws2 := wX5 cyI mo aMF aMT aMW aMU aMP aML aMM aMO aMR aMD aMB aMK mTh_20 mNo mAr mS mG mQ mWa mPa mLa mF_21 mT_22 mW_24 mU_25 mP_26 mL mM mO mR mD mB mK) ⟨hx, hb, hml, hown, hts⟩ (c_X5_put l dC dI cyI mo aMF aMT aMW aMU aMP aML aMM aMO aMR aMD aMB aMK H.size mTh_20 mNo mAr mS mG mQ mWa mPa mLa mF_21 mT_22 mW mU mP_23 mL mM mO mR mD mB mK mAr p2 p3 _ e9) (cwV 3 hts gX5_arc_X5_put rfl rfl rfl (by decide +kernel) ⟨Nat.le_of_ble_eq_true rfl, Nat.le_of_ble_eq_true rfl⟩) hK hP hD hS hA [0, 1, 2, 3, 4, 5, 6, 7, 8, 9, 10, 11, 12] [] [0, 1, 2, 3, 4, 5, 6, 7, 8, 9, 10, 11, 12] [0] rfl rfl rfl rfl (by decide) rfl rfl rfl 5 0 rfl rfl rfl hl.1 (Nat.le_of_ble_eq_true rfl) (Nat.le_of_ble_eq_true rfl) (Nat.le_of_ble_eq_true rfl) rfl dX5_arc_122 (fun H locs hP hD hS => ?_)
          refine lv_aload_n hx hb dX5_arc_125 rfl (lv_at hl 1 rfl) ?_
          refine lv_dup hx hb dX5_arc_126 rfl ?_
          refine va_get (D := (dC, dI)) (ci := 5) (v := .int mAr) (C := RX5) (T := TX5) (N := 21) hx hb hts k1 hown hK hP 0 rfl rfl 2 (by decide) k2 (fun _ h9 => h9) rfl dX5_arc_127 ?_
          refine lv_iconst (v := 1) hx hb dX5_arc_130 (by decide) ?_
          refine lv_iadd hx hb dX5_arc_131 ?_
          refine va_put (D := (dC, dI)) (ci := 5) (v := .int (mAr + 1)) (ty := .int) (C := RX5) (T := TX5) (N := 21) hx hb hts k1 tyX5 tyX5_ok nmX5 hown hK hP hD hS 0 rfl rfl 2 (by decide) k2 (fun _ h9 => h9) rfl (by decide +kernel) rfl rfl (Nat.le_of_ble_eq_true rfl) dX5_arc_132 (fun H locs hP hD hS => ?_)
          have hP : va_P (dC, dI) vwCl (wX5 cyI mo aMF aMT aMW aMU aMP aML aMM aMO aMR aMD aMB aMK mTh_20 mNo (mAr + 1) mS mG mQ mWa mPa mLa mF_21 mT_22 mW_24 mU_25 mP_26 mL mM mO mR mD mB mK) H := hP
          have hD : va_D A (wX5 cyI mo aMF aMT aMW aMU aMP aML aMM aMO aMR aMD aMB aMK mTh_20 mNo (mAr + 1) mS mG mQ mWa mPa mLa mF_21 mT_22 mW_24 mU_25 mP_26 mL mM mO mR mD mB mK) := hD
          refine lv_aload_n hx hb dX5_arc_135 rfl (lv_at hl 1 rfl) ?_
          refine va_get (D := (dC, dI)) (ci := 5) (v := .int (mAr + 1)) (C := RX5) (T := TX5) (N := 21) hx hb hts k1 hown hK hP 0 rfl rfl 2 (by decide) k2 (fun _ h9 => h9) rfl dX5_arc_136 ?_
          refine lv_iconst (v := 1) hx hb dX5_arc_139 (by decide) ?_
          refine lv_isub hx hb dX5_arc_140 ?_
          cases h
          exact q_iret hQ hx hb hr hlocks hP hK hD hS dX5_arc_141
        · have h := ipos c9 h
          refine lv_iconst (v := 0) hx hb dX5_arc_82 (by decide) ?_
          cases h
          exact q_iret hQ hx hb hr hlocks hP hK hD hS dX5_arc_83
  · have h := ineg c9 h
    refine lv_iload_n hx hb dX5_arc_5 rfl (lv_at hl 3 rfl) ?_
    refine lv_iconst (v := 1) hx hb dX5_arc_6 (by decide) ?_
    refine lv_iconst (v := 5) hx hb dX5_arc_7 (by decide) ?_
    obtain ⟨b27, e9, h⟩ := bd h
    refine q_callSi (ret := b2i b27) (As := [.int p2, .int 1, .int 5]) ⟨hx, hb, hml, hown, hts⟩ (c_X5_in l dC dI H.size p2 1 5 _ e9) (va_cwS 3 hts gX5_arc_X5_in rfl rfl rfl (by decide +kernel) ⟨Nat.le_of_ble_eq_true rfl, Nat.le_of_ble_eq_true rfl⟩) hK hP hD hS hA [0, 1, 2, 3, 4, 5, 6, 7, 8, 9, 10, 11, 12] rfl rfl rfl hl.1 (Nat.le_of_ble_eq_true rfl) (Nat.le_of_ble_eq_true rfl) (Nat.le_of_ble_eq_true rfl) rfl dX5_arc_8 (fun H locs hP hD hS => ?_)
    refine lv_if_eq (tgt := 29) hx hb dX5_arc_11 (by decide) (fun c9 => ?_) (fun c9 => ?_)
    · have h := ipos c9 h
      refine lv_iconst (v := 0) hx hb dX5_arc_29 (by decide) ?_
      refine lv_istore (lv' := [(5, .int 0), (0, .ref mo), (1, .int p0), (2, .int p1), (3, .int p2), (4, .int p3)]) hx hb dX5_arc_30 hl (by decide) rfl (fun ls hl => ?_)
      refine lv_aload_n hx hb dX5_arc_32 rfl (lv_at hl 1 rfl) ?_
      refine lv_aload_n hx hb dX5_arc_33 rfl (lv_at hl 1 rfl) ?_
      refine lv_iload_n hx hb dX5_arc_34 rfl (lv_at hl 2 rfl) ?_
      obtain ⟨b28, e9, h⟩ := bd h
      refine q_callVi (ret := b2i b28) (As := [.int p0]) (w1 := wX5 cyI mo aMF aMT aMW aMU aMP aML aMM aMO aMR aMD aMB aMK mTh mNo mAr mS mG mQ mWa mPa mLa mF mT mW mU mP mL mM mO mR mD mB mK) (ws2 := wX5 cyI mo aMF aMT aMW aMU aMP aML aMM aMO aMR aMD aMB aMK mTh mNo mAr mS mG mQ mWa mPa mLa mF mT mW mU mP mL mM mO mR mD mB mK) ⟨hx, hb, hml, hown, hts⟩ (c_X5_isNode l dC dI cyI mo aMF aMT aMW aMU aMP aML aMM aMO aMR aMD aMB aMK H.size mTh mNo mAr mS mG mQ mWa mPa mLa mF mT mW mU mP mL mM mO mR mD mB mK p0 _ e9) (cwV 1 hts gX5_arc_X5_isNode rfl rfl rfl (by decide +kernel) ⟨Nat.le_of_ble_eq_true rfl, Nat.le_of_ble_eq_true rfl⟩) hK hP hD hS hA [0, 1, 2, 3, 4, 5, 6, 7, 8, 9, 10, 11, 12] [] [0, 1, 2, 3, 4, 5, 6, 7, 8, 9, 10, 11, 12] [0] rfl rfl rfl rfl (by decide) rfl rfl rfl 5 0 rfl rfl rfl hl.1 (Nat.le_of_ble_eq_true rfl) (Nat.le_of_ble_eq_true rfl) (Nat.le_of_ble_eq_true rfl) rfl dX5_arc_35 (fun H locs hP hD hS => ?_)
      refine lv_if_eq (tgt := 49) hx hb dX5_arc_38 (by decide) (fun c9 => ?_) (fun c9 => ?_)
      · have h := ipos c9 h
        refine lv_iconst (v := 1) hx hb dX5_arc_49 (by decide) ?_
        refine lv_goto (tgt := 76) hx hb dX5_arc_50 (by decide) ?_
        obtain ⟨b29, mTh_30, e9, h⟩ := bd2 h
        refine q_callVi (ret := b2i b29) (As := [.int 1]) (w1 := wX5 cyI mo aMF aMT aMW aMU aMP aML aMM aMO aMR aMD aMB aMK mTh_30 mNo mAr mS mG mQ mWa mPa mLa mF mT mW mU mP mL mM mO mR mD mB mK) (ws2 := wX5 cyI mo aMF aMT aMW aMU aMP aML aMM aMO aMR aMD aMB aMK mTh_30 mNo mAr mS mG mQ mWa mPa mLa mF mT mW mU mP mL mM mO mR mD mB mK) ⟨hx, hb, hml, hown, hts⟩ (c_X5_goesWell l dC dI cyI mo aMF aMT aMW aMU aMP aML aMM aMO aMR aMD aMB aMK H.size mTh mNo mAr mS mG mQ mWa mPa mLa mF mT mW mU mP mL mM mO mR mD mB mK 1 _ e9) (cwV 1 hts gX5_arc_X5_goesWell rfl rfl rfl (by decide +kernel) ⟨Nat.le_of_ble_eq_true rfl, Nat.le_of_ble_eq_true rfl⟩) hK hP hD hS hA [0, 1, 2, 3, 4, 5, 6, 7, 8, 9, 10, 11, 12] [] [0, 1, 2, 3, 4, 5, 6, 7, 8, 9, 10, 11, 12] [0] rfl rfl rfl rfl (by decide) rfl rfl rfl 5 0 rfl rfl rfl hl.1 (Nat.le_of_ble_eq_true rfl) (Nat.le_of_ble_eq_true rfl) (Nat.le_of_ble_eq_true rfl) rfl dX5_arc_76 (fun H locs hP hD hS => ?_)
        refine lv_if_ne (tgt := 84) hx hb dX5_arc_79 (by decide) (fun c9 => ?_) (fun c9 => ?_)
        · have h := ineg c9 h
          refine lv_aload_n hx hb dX5_arc_84 rfl (lv_at hl 1 rfl) ?_
          refine va_get (D := (dC, dI)) (ci := 5) (v := .ref aMF) (C := RX5) (T := TX5) (N := 21) hx hb hts k1 hown hK hP 0 rfl rfl 3 (by decide) k0 (fun _ h9 => h9) rfl dX5_arc_85 ?_
          refine lv_aload_n hx hb dX5_arc_88 rfl (lv_at hl 1 rfl) ?_
          refine va_get (D := (dC, dI)) (ci := 5) (v := .int mAr) (C := RX5) (T := TX5) (N := 21) hx hb hts k1 hown hK hP 0 rfl rfl 2 (by decide) k2 (fun _ h9 => h9) rfl dX5_arc_89 ?_
          refine lv_iload_n hx hb dX5_arc_92 rfl (lv_at hl 2 rfl) ?_
          obtain ⟨mF_31, e9, h⟩ := bd h
          refine q_iast (ws2 := wX5 cyI mo aMF aMT aMW aMU aMP aML aMM aMO aMR aMD aMB aMK mTh_30 mNo mAr mS mG mQ mWa mPa mLa mF_31 mT mW mU mP mL mM mO mR mD mB mK) hx hb hK hP hD hS 1 0 rfl rfl e9 dX5_arc_93 rfl (fun H locs hP hD hS => ?_)
          refine lv_aload_n hx hb dX5_arc_94 rfl (lv_at hl 1 rfl) ?_
          refine va_get (D := (dC, dI)) (ci := 5) (v := .ref aMT) (C := RX5) (T := TX5) (N := 21) hx hb hts k1 hown hK hP 0 rfl rfl 4 (by decide) k3 (fun _ h9 => h9) rfl dX5_arc_95 ?_
          refine lv_aload_n hx hb dX5_arc_98 rfl (lv_at hl 1 rfl) ?_
          refine va_get (D := (dC, dI)) (ci := 5) (v := .int mAr) (C := RX5) (T := TX5) (N := 21) hx hb hts k1 hown hK hP 0 rfl rfl 2 (by decide) k2 (fun _ h9 => h9) rfl dX5_arc_99 ?_
          refine lv_iload_n hx hb dX5_arc_102 rfl (lv_at hl 3 rfl) ?_
          obtain ⟨mT_32, e9, h⟩ := bd h
          refine q_iast (ws2 := wX5 cyI mo aMF aMT aMW aMU aMP aML aMM aMO aMR aMD aMB aMK mTh_30 mNo mAr mS mG mQ mWa mPa mLa mF_31 mT_32 mW mU mP mL mM mO mR mD mB mK) hx hb hK hP hD hS 2 0 rfl rfl e9 dX5_arc_103 rfl (fun H locs hP hD hS => ?_)
          refine lv_aload_n hx hb dX5_arc_104 rfl (lv_at hl 1 rfl) ?_
          refine va_get (D := (dC, dI)) (ci := 5) (v := .ref aMP) (C := RX5) (T := TX5) (N := 21) hx hb hts k1 hown hK hP 0 rfl rfl 7 (by decide) k4 (fun _ h9 => h9) rfl dX5_arc_105 ?_
          refine lv_aload_n hx hb dX5_arc_108 rfl (lv_at hl 1 rfl) ?_
          refine va_get (D := (dC, dI)) (ci := 5) (v := .int mAr) (C := RX5) (T := TX5) (N := 21) hx hb hts k1 hown hK hP 0 rfl rfl 2 (by decide) k2 (fun _ h9 => h9) rfl dX5_arc_109 ?_
          refine lv_iconst (v := 0) hx hb dX5_arc_112 (by decide) ?_
          obtain ⟨mP_33, e9, h⟩ := bd h
          refine q_iast (ws2 := wX5 cyI mo aMF aMT aMW aMU aMP aML aMM aMO aMR aMD aMB aMK mTh_30 mNo mAr mS mG mQ mWa mPa mLa mF_31 mT_32 mW mU mP_33 mL mM mO mR mD mB mK) hx hb hK hP hD hS 5 0 rfl rfl e9 dX5_arc_113 rfl (fun H locs hP hD hS => ?_)
          refine lv_aload_n hx hb dX5_arc_114 rfl (lv_at hl 1 rfl) ?_
          refine lv_aload_n hx hb dX5_arc_115 rfl (lv_at hl 1 rfl) ?_
          refine va_get (D := (dC, dI)) (ci := 5) (v := .int mAr) (C := RX5) (T := TX5) (N := 21) hx hb hts k1 hown hK hP 0 rfl rfl 2 (by decide) k2 (fun _ h9 => h9) rfl dX5_arc_116 ?_
          refine lv_iload_n hx hb dX5_arc_119 rfl (lv_at hl 4 rfl) ?_
          refine lv_iload hx hb dX5_arc_120 (lv_at hl 5 rfl) ?_
          obtain ⟨mW_34, mU_35, mP_36, e9, h⟩ := bd3 h
          refine q_callVv (As := [.int mAr, .int p2, .int p3]) (w1 := wX5 cyI mo aMF aMT aMW aMU aMP aML aMM aMO aMR aMD aMB aMK mTh_30 mNo mAr mS mG mQ mWa mPa mLa mF_31 mT_32 mW_34 mU_35 mP_36 mL mM mO mR mD mB mK) (ws2 := wX5 cyI mo aMF aMT aMW aMU aMP aML aMM aMO aMR aMD aMB aMK mTh_30 mNo mAr mS mG mQ mWa mPa mLa mF_31 mT_32 mW_34 mU_35 mP_36 mL mM mO mR mD mB mK) ⟨hx, hb, hml, hown, hts⟩ (c_X5_put l dC dI cyI mo aMF aMT aMW aMU aMP aML aMM aMO aMR aMD aMB aMK H.size mTh_30 mNo mAr mS mG mQ mWa mPa mLa mF_31 mT_32 mW mU mP_33 mL mM mO mR mD mB mK mAr p2 p3 _ e9) (cwV 3 hts gX5_arc_X5_put rfl rfl rfl (by decide +kernel) ⟨Nat.le_of_ble_eq_true rfl, Nat.le_of_ble_eq_true rfl⟩) hK hP hD hS hA [0, 1, 2, 3, 4, 5, 6, 7, 8, 9, 10, 11, 12] [] [0, 1, 2, 3, 4, 5, 6, 7, 8, 9, 10, 11, 12] [0] rfl rfl rfl rfl (by decide) rfl rfl rfl 5 0 rfl rfl rfl hl.1 (Nat.le_of_ble_eq_true rfl) (Nat.le_of_ble_eq_true rfl) (Nat.le_of_ble_eq_true rfl) rfl dX5_arc_122 (fun H locs hP hD hS => ?_)
          refine lv_aload_n hx hb dX5_arc_125 rfl (lv_at hl 1 rfl) ?_
          refine lv_dup hx hb dX5_arc_126 rfl ?_
          refine va_get (D := (dC, dI)) (ci := 5) (v := .int mAr) (C := RX5) (T := TX5) (N := 21) hx hb hts k1 hown hK hP 0 rfl rfl 2 (by decide) k2 (fun _ h9 => h9) rfl dX5_arc_127 ?_
          refine lv_iconst (v := 1) hx hb dX5_arc_130 (by decide) ?_
          refine lv_iadd hx hb dX5_arc_131 ?_
          refine va_put (D := (dC, dI)) (ci := 5) (v := .int (mAr + 1)) (ty := .int) (C := RX5) (T := TX5) (N := 21) hx hb hts k1 tyX5 tyX5_ok nmX5 hown hK hP hD hS 0 rfl rfl 2 (by decide) k2 (fun _ h9 => h9) rfl (by decide +kernel) rfl rfl (Nat.le_of_ble_eq_true rfl) dX5_arc_132 (fun H locs hP hD hS => ?_)
          have hP : va_P (dC, dI) vwCl (wX5 cyI mo aMF aMT aMW aMU aMP aML aMM aMO aMR aMD aMB aMK mTh_30 mNo (mAr + 1) mS mG mQ mWa mPa mLa mF_31 mT_32 mW_34 mU_35 mP_36 mL mM mO mR mD mB mK) H := hP
          have hD : va_D A (wX5 cyI mo aMF aMT aMW aMU aMP aML aMM aMO aMR aMD aMB aMK mTh_30 mNo (mAr + 1) mS mG mQ mWa mPa mLa mF_31 mT_32 mW_34 mU_35 mP_36 mL mM mO mR mD mB mK) := hD
          refine lv_aload_n hx hb dX5_arc_135 rfl (lv_at hl 1 rfl) ?_
          refine va_get (D := (dC, dI)) (ci := 5) (v := .int (mAr + 1)) (C := RX5) (T := TX5) (N := 21) hx hb hts k1 hown hK hP 0 rfl rfl 2 (by decide) k2 (fun _ h9 => h9) rfl dX5_arc_136 ?_
          refine lv_iconst (v := 1) hx hb dX5_arc_139 (by decide) ?_
          refine lv_isub hx hb dX5_arc_140 ?_
          cases h
          exact q_iret hQ hx hb hr hlocks hP hK hD hS dX5_arc_141
        · have h := ipos c9 h
          refine lv_iconst (v := 0) hx hb dX5_arc_82 (by decide) ?_
          cases h
          exact q_iret hQ hx hb hr hlocks hP hK hD hS dX5_arc_83
      · have h := ineg c9 h
        refine lv_aload_n hx hb dX5_arc_41 rfl (lv_at hl 1 rfl) ?_
        refine lv_iload_n hx hb dX5_arc_42 rfl (lv_at hl 3 rfl) ?_
        obtain ⟨b37, e9, h⟩ := bd h
        refine q_callVi (ret := b2i b37) (As := [.int p1]) (w1 := wX5 cyI mo aMF aMT aMW aMU aMP aML aMM aMO aMR aMD aMB aMK mTh mNo mAr mS mG mQ mWa mPa mLa mF mT mW mU mP mL mM mO mR mD mB mK) (ws2 := wX5 cyI mo aMF aMT aMW aMU aMP aML aMM aMO aMR aMD aMB aMK mTh mNo mAr mS mG mQ mWa mPa mLa mF mT mW mU mP mL mM mO mR mD mB mK) ⟨hx, hb, hml, hown, hts⟩ (c_X5_isNode l dC dI cyI mo aMF aMT aMW aMU aMP aML aMM aMO aMR aMD aMB aMK H.size mTh mNo mAr mS mG mQ mWa mPa mLa mF mT mW mU mP mL mM mO mR mD mB mK p1 _ e9) (cwV 1 hts gX5_arc_X5_isNode rfl rfl rfl (by decide +kernel) ⟨Nat.le_of_ble_eq_true rfl, Nat.le_of_ble_eq_true rfl⟩) hK hP hD hS hA [0, 1, 2, 3, 4, 5, 6, 7, 8, 9, 10, 11, 12] [] [0, 1, 2, 3, 4, 5, 6, 7, 8, 9, 10, 11, 12] [0] rfl rfl rfl rfl (by decide) rfl rfl rfl 5 0 rfl rfl rfl hl.1 (Nat.le_of_ble_eq_true rfl) (Nat.le_of_ble_eq_true rfl) (Nat.le_of_ble_eq_true rfl) rfl dX5_arc_43 (fun H locs hP hD hS => ?_)
        refine lv_if_ne (tgt := 53) hx hb dX5_arc_46 (by decide) (fun c9 => ?_) (fun c9 => ?_)
        · have h := ineg c9 h
          refine lv_iload hx hb dX5_arc_53 (lv_at hl 0 rfl) ?_
          refine lv_if_ne (tgt := 62) hx hb dX5_arc_55 (by decide) (fun c9 => absurd (by decide) c9) (fun _ => ?_)
          refine lv_iconst (v := 2) hx hb dX5_arc_58 (by decide) ?_
          refine lv_goto (tgt := 76) hx hb dX5_arc_59 (by decide) ?_
          obtain ⟨b38, mTh_39, e9, h⟩ := bd2 h
          refine q_callVi (ret := b2i b38) (As := [.int 2]) (w1 := wX5 cyI mo aMF aMT aMW aMU aMP aML aMM aMO aMR aMD aMB aMK mTh_39 mNo mAr mS mG mQ mWa mPa mLa mF mT mW mU mP mL mM mO mR mD mB mK) (ws2 := wX5 cyI mo aMF aMT aMW aMU aMP aML aMM aMO aMR aMD aMB aMK mTh_39 mNo mAr mS mG mQ mWa mPa mLa mF mT mW mU mP mL mM mO mR mD mB mK) ⟨hx, hb, hml, hown, hts⟩ (c_X5_goesWell l dC dI cyI mo aMF aMT aMW aMU aMP aML aMM aMO aMR aMD aMB aMK H.size mTh mNo mAr mS mG mQ mWa mPa mLa mF mT mW mU mP mL mM mO mR mD mB mK 2 _ e9) (cwV 1 hts gX5_arc_X5_goesWell rfl rfl rfl (by decide +kernel) ⟨Nat.le_of_ble_eq_true rfl, Nat.le_of_ble_eq_true rfl⟩) hK hP hD hS hA [0, 1, 2, 3, 4, 5, 6, 7, 8, 9, 10, 11, 12] [] [0, 1, 2, 3, 4, 5, 6, 7, 8, 9, 10, 11, 12] [0] rfl rfl rfl rfl (by decide) rfl rfl rfl 5 0 rfl rfl rfl hl.1 (Nat.le_of_ble_eq_true rfl) (Nat.le_of_ble_eq_true rfl) (Nat.le_of_ble_eq_true rfl) rfl dX5_arc_76 (fun H locs hP hD hS => ?_)
          refine lv_if_ne (tgt := 84) hx hb dX5_arc_79 (by decide) (fun c9 => ?_) (fun c9 => ?_)
          · have h := ineg c9 h
            refine lv_aload_n hx hb dX5_arc_84 rfl (lv_at hl 1 rfl) ?_
            refine va_get (D := (dC, dI)) (ci := 5) (v := .ref aMF) (C := RX5) (T := TX5) (N := 21) hx hb hts k1 hown hK hP 0 rfl rfl 3 (by decide) k0 (fun _ h9 => h9) rfl dX5_arc_85 ?_
            refine lv_aload_n hx hb dX5_arc_88 rfl (lv_at hl 1 rfl) ?_
            refine va_get (D := (dC, dI)) (ci := 5) (v := .int mAr) (C := RX5) (T := TX5) (N := 21) hx hb hts k1 hown hK hP 0 rfl rfl 2 (by decide) k2 (fun _ h9 => h9) rfl dX5_arc_89 ?_
            refine lv_iload_n hx hb dX5_arc_92 rfl (lv_at hl 2 rfl) ?_
            obtain ⟨mF_40, e9, h⟩ := bd h
            refine q_iast (ws2 := wX5 cyI mo aMF aMT aMW aMU aMP aML aMM aMO aMR aMD aMB aMK mTh_39 mNo mAr mS mG mQ mWa mPa mLa mF_40 mT mW mU mP mL mM mO mR mD mB mK) hx hb hK hP hD hS 1 0 rfl rfl e9 dX5_arc_93 rfl (fun H locs hP hD hS => ?_)
            refine lv_aload_n hx hb dX5_arc_94 rfl (lv_at hl 1 rfl) ?_
            refine va_get (D := (dC, dI)) (ci := 5) (v := .ref aMT) (C := RX5) (T := TX5) (N := 21) hx hb hts k1 hown hK hP 0 rfl rfl 4 (by decide) k3 (fun _ h9 => h9) rfl dX5_arc_95 ?_
            refine lv_aload_n hx hb dX5_arc_98 rfl (lv_at hl 1 rfl) ?_
            refine va_get (D := (dC, dI)) (ci := 5) (v := .int mAr) (C := RX5) (T := TX5) (N := 21) hx hb hts k1 hown hK hP 0 rfl rfl 2 (by decide) k2 (fun _ h9 => h9) rfl dX5_arc_99 ?_
            refine lv_iload_n hx hb dX5_arc_102 rfl (lv_at hl 3 rfl) ?_
            obtain ⟨mT_41, e9, h⟩ := bd h
            refine q_iast (ws2 := wX5 cyI mo aMF aMT aMW aMU aMP aML aMM aMO aMR aMD aMB aMK mTh_39 mNo mAr mS mG mQ mWa mPa mLa mF_40 mT_41 mW mU mP mL mM mO mR mD mB mK) hx hb hK hP hD hS 2 0 rfl rfl e9 dX5_arc_103 rfl (fun H locs hP hD hS => ?_)
            refine lv_aload_n hx hb dX5_arc_104 rfl (lv_at hl 1 rfl) ?_
            refine va_get (D := (dC, dI)) (ci := 5) (v := .ref aMP) (C := RX5) (T := TX5) (N := 21) hx hb hts k1 hown hK hP 0 rfl rfl 7 (by decide) k4 (fun _ h9 => h9) rfl dX5_arc_105 ?_
            refine lv_aload_n hx hb dX5_arc_108 rfl (lv_at hl 1 rfl) ?_
            refine va_get (D := (dC, dI)) (ci := 5) (v := .int mAr) (C := RX5) (T := TX5) (N := 21) hx hb hts k1 hown hK hP 0 rfl rfl 2 (by decide) k2 (fun _ h9 => h9) rfl dX5_arc_109 ?_
            refine lv_iconst (v := 0) hx hb dX5_arc_112 (by decide) ?_
            obtain ⟨mP_42, e9, h⟩ := bd h
            refine q_iast (ws2 := wX5 cyI mo aMF aMT aMW aMU aMP aML aMM aMO aMR aMD aMB aMK mTh_39 mNo mAr mS mG mQ mWa mPa mLa mF_40 mT_41 mW mU mP_42 mL mM mO mR mD mB mK) hx hb hK hP hD hS 5 0 rfl rfl e9 dX5_arc_113 rfl (fun H locs hP hD hS => ?_)
            refine lv_aload_n hx hb dX5_arc_114 rfl (lv_at hl 1 rfl) ?_
            refine lv_aload_n hx hb dX5_arc_115 rfl (lv_at hl 1 rfl) ?_
            refine va_get (D := (dC, dI)) (ci := 5) (v := .int mAr) (C := RX5) (T := TX5) (N := 21) hx hb hts k1 hown hK hP 0 rfl rfl 2 (by decide) k2 (fun _ h9 => h9) rfl dX5_arc_116 ?_
            refine lv_iload_n hx hb dX5_arc_119 rfl (lv_at hl 4 rfl) ?_
            refine lv_iload hx hb dX5_arc_120 (lv_at hl 5 rfl) ?_
            obtain ⟨mW_43, mU_44, mP_45, e9, h⟩ := bd3 h
            refine q_callVv (As := [.int mAr, .int p2, .int p3]) (w1 := wX5 cyI mo aMF aMT aMW aMU aMP aML aMM aMO aMR aMD aMB aMK mTh_39 mNo mAr mS mG mQ mWa mPa mLa mF_40 mT_41 mW_43 mU_44 mP_45 mL mM mO mR mD mB mK) (ws2 := wX5 cyI mo aMF aMT aMW aMU aMP aML aMM aMO aMR aMD aMB aMK mTh_39 mNo mAr mS mG mQ mWa mPa mLa mF_40 mT_41 mW_43 mU_44 mP_45 mL mM mO mR mD mB mK) ⟨hx, hb, hml, hown, hts⟩ (c_X5_put l dC dI cyI mo aMF aMT aMW aMU aMP aML aMM aMO aMR aMD aMB aMK H.size mTh_39 mNo mAr mS mG mQ mWa mPa mLa mF_40 mT_41 mW mU mP_42 mL mM mO mR mD mB mK mAr p2 p3 _ e9) (cwV 3 hts gX5_arc_X5_put rfl rfl rfl (by decide +kernel) ⟨Nat.le_of_ble_eq_true rfl, Nat.le_of_ble_eq_true rfl⟩) hK hP hD hS hA [0, 1, 2, 3, 4, 5, 6, 7, 8, 9, 10, 11, 12] [] [0, 1, 2, 3, 4, 5, 6, 7, 8, 9, 10, 11, 12] [0] rfl rfl rfl rfl (by decide) rfl rfl rfl 5 0 rfl rfl rfl hl.1 (Nat.le_of_ble_eq_true rfl) (Nat.le_of_ble_eq_true rfl) (Nat.le_of_ble_eq_true rfl) rfl dX5_arc_122 (fun H locs hP hD hS => ?_)
            refine lv_aload_n hx hb dX5_arc_125 rfl (lv_at hl 1 rfl) ?_
            refine lv_dup hx hb dX5_arc_126 rfl ?_
            refine va_get (D := (dC, dI)) (ci := 5) (v := .int mAr) (C := RX5) (T := TX5) (N := 21) hx hb hts k1 hown hK hP 0 rfl rfl 2 (by decide) k2 (fun _ h9 => h9) rfl dX5_arc_127 ?_
            refine lv_iconst (v := 1) hx hb dX5_arc_130 (by decide) ?_
            refine lv_iadd hx hb dX5_arc_131 ?_
            refine va_put (D := (dC, dI)) (ci := 5) (v := .int (mAr + 1)) (ty := .int) (C := RX5) (T := TX5) (N := 21) hx hb hts k1 tyX5 tyX5_ok nmX5 hown hK hP hD hS 0 rfl rfl 2 (by decide) k2 (fun _ h9 => h9) rfl (by decide +kernel) rfl rfl (Nat.le_of_ble_eq_true rfl) dX5_arc_132 (fun H locs hP hD hS => ?_)
            have hP : va_P (dC, dI) vwCl (wX5 cyI mo aMF aMT aMW aMU aMP aML aMM aMO aMR aMD aMB aMK mTh_39 mNo (mAr + 1) mS mG mQ mWa mPa mLa mF_40 mT_41 mW_43 mU_44 mP_45 mL mM mO mR mD mB mK) H := hP
            have hD : va_D A (wX5 cyI mo aMF aMT aMW aMU aMP aML aMM aMO aMR aMD aMB aMK mTh_39 mNo (mAr + 1) mS mG mQ mWa mPa mLa mF_40 mT_41 mW_43 mU_44 mP_45 mL mM mO mR mD mB mK) := hD
            refine lv_aload_n hx hb dX5_arc_135 rfl (lv_at hl 1 rfl) ?_
            refine va_get (D := (dC, dI)) (ci := 5) (v := .int (mAr + 1)) (C := RX5) (T := TX5) (N := 21) hx hb hts k1 hown hK hP 0 rfl rfl 2 (by decide) k2 (fun _ h9 => h9) rfl dX5_arc_136 ?_
            refine lv_iconst (v := 1) hx hb dX5_arc_139 (by decide) ?_
            refine lv_isub hx hb dX5_arc_140 ?_
            cases h
            exact q_iret hQ hx hb hr hlocks hP hK hD hS dX5_arc_141
          · have h := ipos c9 h
            refine lv_iconst (v := 0) hx hb dX5_arc_82 (by decide) ?_
            cases h
            exact q_iret hQ hx hb hr hlocks hP hK hD hS dX5_arc_83
        · have h := ipos c9 h
          refine lv_iconst (v := 1) hx hb dX5_arc_49 (by decide) ?_
          refine lv_goto (tgt := 76) hx hb dX5_arc_50 (by decide) ?_
          obtain ⟨b46, mTh_47, e9, h⟩ := bd2 h
          refine q_callVi (ret := b2i b46) (As := [.int 1]) (w1 := wX5 cyI mo aMF aMT aMW aMU aMP aML aMM aMO aMR aMD aMB aMK mTh_47 mNo mAr mS mG mQ mWa mPa mLa mF mT mW mU mP mL mM mO mR mD mB mK) (ws2 := wX5 cyI mo aMF aMT aMW aMU aMP aML aMM aMO aMR aMD aMB aMK mTh_47 mNo mAr mS mG mQ mWa mPa mLa mF mT mW mU mP mL mM mO mR mD mB mK) ⟨hx, hb, hml, hown, hts⟩ (c_X5_goesWell l dC dI cyI mo aMF aMT aMW aMU aMP aML aMM aMO aMR aMD aMB aMK H.size mTh mNo mAr mS mG mQ mWa mPa mLa mF mT mW mU mP mL mM mO mR mD mB mK 1 _ e9) (cwV 1 hts gX5_arc_X5_goesWell rfl rfl rfl (by decide +kernel) ⟨Nat.le_of_ble_eq_true rfl, Nat.le_of_ble_eq_true rfl⟩) hK hP hD hS hA [0, 1, 2, 3, 4, 5, 6, 7, 8, 9, 10, 11, 12] [] [0, 1, 2, 3, 4, 5, 6, 7, 8, 9, 10, 11, 12] [0] rfl rfl rfl rfl (by decide) rfl rfl rfl 5 0 rfl rfl rfl hl.1 (Nat.le_of_ble_eq_true rfl) (Nat.le_of_ble_eq_true rfl) (Nat.le_of_ble_eq_true rfl) rfl dX5_arc_76 (fun H locs hP hD hS => ?_)
          refine lv_if_ne (tgt := 84) hx hb dX5_arc_79 (by decide) (fun c9 => ?_) (fun c9 => ?_)
          · have h := ineg c9 h
            refine lv_aload_n hx hb dX5_arc_84 rfl (lv_at hl 1 rfl) ?_
            refine va_get (D := (dC, dI)) (ci := 5) (v := .ref aMF) (C := RX5) (T := TX5) (N := 21) hx hb hts k1 hown hK hP 0 rfl rfl 3 (by decide) k0 (fun _ h9 => h9) rfl dX5_arc_85 ?_
            refine lv_aload_n hx hb dX5_arc_88 rfl (lv_at hl 1 rfl) ?_
            refine va_get (D := (dC, dI)) (ci := 5) (v := .int mAr) (C := RX5) (T := TX5) (N := 21) hx hb hts k1 hown hK hP 0 rfl rfl 2 (by decide) k2 (fun _ h9 => h9) rfl dX5_arc_89 ?_
            refine lv_iload_n hx hb dX5_arc_92 rfl (lv_at hl 2 rfl) ?_
            obtain ⟨mF_48, e9, h⟩ := bd h
            refine q_iast (ws2 := wX5 cyI mo aMF aMT aMW aMU aMP aML aMM aMO aMR aMD aMB aMK mTh_47 mNo mAr mS mG mQ mWa mPa mLa mF_48 mT mW mU mP mL mM mO mR mD mB mK) hx hb hK hP hD hS 1 0 rfl rfl e9 dX5_arc_93 rfl (fun H locs hP hD hS => ?_)
            refine lv_aload_n hx hb dX5_arc_94 rfl (lv_at hl 1 rfl) ?_
            refine va_get (D := (dC, dI)) (ci := 5) (v := .ref aMT) (C := RX5) (T := TX5) (N := 21) hx hb hts k1 hown hK hP 0 rfl rfl 4 (by decide) k3 (fun _ h9 => h9) rfl dX5_arc_95 ?_
            refine lv_aload_n hx hb dX5_arc_98 rfl (lv_at hl 1 rfl) ?_
            refine va_get (D := (dC, dI)) (ci := 5) (v := .int mAr) (C := RX5) (T := TX5) (N := 21) hx hb hts k1 hown hK hP 0 rfl rfl 2 (by decide) k2 (fun _ h9 => h9) rfl dX5_arc_99 ?_
            refine lv_iload_n hx hb dX5_arc_102 rfl (lv_at hl 3 rfl) ?_
            obtain ⟨mT_49, e9, h⟩ := bd h
            refine q_iast (ws2 := wX5 cyI mo aMF aMT aMW aMU aMP aML aMM aMO aMR aMD aMB aMK mTh_47 mNo mAr mS mG mQ mWa mPa mLa mF_48 mT_49 mW mU mP mL mM mO mR mD mB mK) hx hb hK hP hD hS 2 0 rfl rfl e9 dX5_arc_103 rfl (fun H locs hP hD hS => ?_)
            refine lv_aload_n hx hb dX5_arc_104 rfl (lv_at hl 1 rfl) ?_
            refine va_get (D := (dC, dI)) (ci := 5) (v := .ref aMP) (C := RX5) (T := TX5) (N := 21) hx hb hts k1 hown hK hP 0 rfl rfl 7 (by decide) k4 (fun _ h9 => h9) rfl dX5_arc_105 ?_
            refine lv_aload_n hx hb dX5_arc_108 rfl (lv_at hl 1 rfl) ?_
            refine va_get (D := (dC, dI)) (ci := 5) (v := .int mAr) (C := RX5) (T := TX5) (N := 21) hx hb hts k1 hown hK hP 0 rfl rfl 2 (by decide) k2 (fun _ h9 => h9) rfl dX5_arc_109 ?_
            refine lv_iconst (v := 0) hx hb dX5_arc_112 (by decide) ?_
            obtain ⟨mP_50, e9, h⟩ := bd h
            refine q_iast (ws2 := wX5 cyI mo aMF aMT aMW aMU aMP aML aMM aMO aMR aMD aMB aMK mTh_47 mNo mAr mS mG mQ mWa mPa mLa mF_48 mT_49 mW mU mP_50 mL mM mO mR mD mB mK) hx hb hK hP hD hS 5 0 rfl rfl e9 dX5_arc_113 rfl (fun H locs hP hD hS => ?_)
            refine lv_aload_n hx hb dX5_arc_114 rfl (lv_at hl 1 rfl) ?_
            refine lv_aload_n hx hb dX5_arc_115 rfl (lv_at hl 1 rfl) ?_
            refine va_get (D := (dC, dI)) (ci := 5) (v := .int mAr) (C := RX5) (T := TX5) (N := 21) hx hb hts k1 hown hK hP 0 rfl rfl 2 (by decide) k2 (fun _ h9 => h9) rfl dX5_arc_116 ?_
            refine lv_iload_n hx hb dX5_arc_119 rfl (lv_at hl 4 rfl) ?_
            refine lv_iload hx hb dX5_arc_120 (lv_at hl 5 rfl) ?_
            obtain ⟨mW_51, mU_52, mP_53, e9, h⟩ := bd3 h
            refine q_callVv (As := [.int mAr, .int p2, .int p3]) (w1 := wX5 cyI mo aMF aMT aMW aMU aMP aML aMM aMO aMR aMD aMB aMK mTh_47 mNo mAr mS mG mQ mWa mPa mLa mF_48 mT_49 mW_51 mU_52 mP_53 mL mM mO mR mD mB mK) (ws2 := wX5 cyI mo aMF aMT aMW aMU aMP aML aMM aMO aMR aMD aMB aMK mTh_47 mNo mAr mS mG mQ mWa mPa mLa mF_48 mT_49 mW_51 mU_52 mP_53 mL mM mO mR mD mB mK) ⟨hx, hb, hml, hown, hts⟩ (c_X5_put l dC dI cyI mo aMF aMT aMW aMU aMP aML aMM aMO aMR aMD aMB aMK H.size mTh_47 mNo mAr mS mG mQ mWa mPa mLa mF_48 mT_49 mW mU mP_50 mL mM mO mR mD mB mK mAr p2 p3 _ e9) (cwV 3 hts gX5_arc_X5_put rfl rfl rfl (by decide +kernel) ⟨Nat.le_of_ble_eq_true rfl, Nat.le_of_ble_eq_true rfl⟩) hK hP hD hS hA [0, 1, 2, 3, 4, 5, 6, 7, 8, 9, 10, 11, 12] [] [0, 1, 2, 3, 4, 5, 6, 7, 8, 9, 10, 11, 12] [0] rfl rfl rfl rfl (by decide) rfl rfl rfl 5 0 rfl rfl rfl hl.1 (Nat.le_of_ble_eq_true rfl) (Nat.le_of_ble_eq_true rfl) (Nat.le_of_ble_eq_true rfl) rfl dX5_arc_122 (fun H locs hP hD hS => ?_)
            refine lv_aload_n hx hb dX5_arc_125 rfl (lv_at hl 1 rfl) ?_
            refine lv_dup hx hb dX5_arc_126 rfl ?_
            refine va_get (D := (dC, dI)) (ci := 5) (v := .int mAr) (C := RX5) (T := TX5) (N := 21) hx hb hts k1 hown hK hP 0 rfl rfl 2 (by decide) k2 (fun _ h9 => h9) rfl dX5_arc_127 ?_
            refine lv_iconst (v := 1) hx hb dX5_arc_130 (by decide) ?_
            refine lv_iadd hx hb dX5_arc_131 ?_
            refine va_put (D := (dC, dI)) (ci := 5) (v := .int (mAr + 1)) (ty := .int) (C := RX5) (T := TX5) (N := 21) hx hb hts k1 tyX5 tyX5_ok nmX5 hown hK hP hD hS 0 rfl rfl 2 (by decide) k2 (fun _ h9 => h9) rfl (by decide +kernel) rfl rfl (Nat.le_of_ble_eq_true rfl) dX5_arc_132 (fun H locs hP hD hS => ?_)
            have hP : va_P (dC, dI) vwCl (wX5 cyI mo aMF aMT aMW aMU aMP aML aMM aMO aMR aMD aMB aMK mTh_47 mNo (mAr + 1) mS mG mQ mWa mPa mLa mF_48 mT_49 mW_51 mU_52 mP_53 mL mM mO mR mD mB mK) H := hP
            have hD : va_D A (wX5 cyI mo aMF aMT aMW aMU aMP aML aMM aMO aMR aMD aMB aMK mTh_47 mNo (mAr + 1) mS mG mQ mWa mPa mLa mF_48 mT_49 mW_51 mU_52 mP_53 mL mM mO mR mD mB mK) := hD
            refine lv_aload_n hx hb dX5_arc_135 rfl (lv_at hl 1 rfl) ?_
            refine va_get (D := (dC, dI)) (ci := 5) (v := .int (mAr + 1)) (C := RX5) (T := TX5) (N := 21) hx hb hts k1 hown hK hP 0 rfl rfl 2 (by decide) k2 (fun _ h9 => h9) rfl dX5_arc_136 ?_
            refine lv_iconst (v := 1) hx hb dX5_arc_139 (by decide) ?_
            refine lv_isub hx hb dX5_arc_140 ?_
            cases h
            exact q_iret hQ hx hb hr hlocks hP hK hD hS dX5_arc_141
          · have h := ipos c9 h
            refine lv_iconst (v := 0) hx hb dX5_arc_82 (by decide) ?_
            cases h
            exact q_iret hQ hx hb hr hlocks hP hK hD hS dX5_arc_83
    · have h := ineg c9 h
      refine lv_iload hx hb dX5_arc_14 (lv_at hl 4 rfl) ?_
      refine lv_iconst (v := 0) hx hb dX5_arc_16 (by decide) ?_
      refine lv_bipush (v := 99) hx hb dX5_arc_17 (by decide) ?_
      obtain ⟨b54, e9, h⟩ := bd h
      refine q_callSi (ret := b2i b54) (As := [.int p3, .int 0, .int 99]) ⟨hx, hb, hml, hown, hts⟩ (c_X5_in l dC dI H.size p3 0 99 _ e9) (va_cwS 3 hts gX5_arc_X5_in rfl rfl rfl (by decide +kernel) ⟨Nat.le_of_ble_eq_true rfl, Nat.le_of_ble_eq_true rfl⟩) hK hP hD hS hA [0, 1, 2, 3, 4, 5, 6, 7, 8, 9, 10, 11, 12] rfl rfl rfl hl.1 (Nat.le_of_ble_eq_true rfl) (Nat.le_of_ble_eq_true rfl) (Nat.le_of_ble_eq_true rfl) rfl dX5_arc_19 (fun H locs hP hD hS => ?_)
      refine lv_if_eq (tgt := 29) hx hb dX5_arc_22 (by decide) (fun c9 => ?_) (fun c9 => ?_)
      · have h := ipos c9 h
        refine lv_iconst (v := 0) hx hb dX5_arc_29 (by decide) ?_
        refine lv_istore (lv' := [(5, .int 0), (0, .ref mo), (1, .int p0), (2, .int p1), (3, .int p2), (4, .int p3)]) hx hb dX5_arc_30 hl (by decide) rfl (fun ls hl => ?_)
        refine lv_aload_n hx hb dX5_arc_32 rfl (lv_at hl 1 rfl) ?_
        refine lv_aload_n hx hb dX5_arc_33 rfl (lv_at hl 1 rfl) ?_
        refine lv_iload_n hx hb dX5_arc_34 rfl (lv_at hl 2 rfl) ?_
        obtain ⟨b55, e9, h⟩ := bd h
        refine q_callVi (ret := b2i b55) (As := [.int p0]) (w1 := wX5 cyI mo aMF aMT aMW aMU aMP aML aMM aMO aMR aMD aMB aMK mTh mNo mAr mS mG mQ mWa mPa mLa mF mT mW mU mP mL mM mO mR mD mB mK) (ws2 := wX5 cyI mo aMF aMT aMW aMU aMP aML aMM aMO aMR aMD aMB aMK mTh mNo mAr mS mG mQ mWa mPa mLa mF mT mW mU mP mL mM mO mR mD mB mK) ⟨hx, hb, hml, hown, hts⟩ (c_X5_isNode l dC dI cyI mo aMF aMT aMW aMU aMP aML aMM aMO aMR aMD aMB aMK H.size mTh mNo mAr mS mG mQ mWa mPa mLa mF mT mW mU mP mL mM mO mR mD mB mK p0 _ e9) (cwV 1 hts gX5_arc_X5_isNode rfl rfl rfl (by decide +kernel) ⟨Nat.le_of_ble_eq_true rfl, Nat.le_of_ble_eq_true rfl⟩) hK hP hD hS hA [0, 1, 2, 3, 4, 5, 6, 7, 8, 9, 10, 11, 12] [] [0, 1, 2, 3, 4, 5, 6, 7, 8, 9, 10, 11, 12] [0] rfl rfl rfl rfl (by decide) rfl rfl rfl 5 0 rfl rfl rfl hl.1 (Nat.le_of_ble_eq_true rfl) (Nat.le_of_ble_eq_true rfl) (Nat.le_of_ble_eq_true rfl) rfl dX5_arc_35 (fun H locs hP hD hS => ?_)
        refine lv_if_eq (tgt := 49) hx hb dX5_arc_38 (by decide) (fun c9 => ?_) (fun c9 => ?_)
        · have h := ipos c9 h
          refine lv_iconst (v := 1) hx hb dX5_arc_49 (by decide) ?_
          refine lv_goto (tgt := 76) hx hb dX5_arc_50 (by decide) ?_
          obtain ⟨b56, mTh_57, e9, h⟩ := bd2 h
          refine q_callVi (ret := b2i b56) (As := [.int 1]) (w1 := wX5 cyI mo aMF aMT aMW aMU aMP aML aMM aMO aMR aMD aMB aMK mTh_57 mNo mAr mS mG mQ mWa mPa mLa mF mT mW mU mP mL mM mO mR mD mB mK) (ws2 := wX5 cyI mo aMF aMT aMW aMU aMP aML aMM aMO aMR aMD aMB aMK mTh_57 mNo mAr mS mG mQ mWa mPa mLa mF mT mW mU mP mL mM mO mR mD mB mK) ⟨hx, hb, hml, hown, hts⟩ (c_X5_goesWell l dC dI cyI mo aMF aMT aMW aMU aMP aML aMM aMO aMR aMD aMB aMK H.size mTh mNo mAr mS mG mQ mWa mPa mLa mF mT mW mU mP mL mM mO mR mD mB mK 1 _ e9) (cwV 1 hts gX5_arc_X5_goesWell rfl rfl rfl (by decide +kernel) ⟨Nat.le_of_ble_eq_true rfl, Nat.le_of_ble_eq_true rfl⟩) hK hP hD hS hA [0, 1, 2, 3, 4, 5, 6, 7, 8, 9, 10, 11, 12] [] [0, 1, 2, 3, 4, 5, 6, 7, 8, 9, 10, 11, 12] [0] rfl rfl rfl rfl (by decide) rfl rfl rfl 5 0 rfl rfl rfl hl.1 (Nat.le_of_ble_eq_true rfl) (Nat.le_of_ble_eq_true rfl) (Nat.le_of_ble_eq_true rfl) rfl dX5_arc_76 (fun H locs hP hD hS => ?_)
          refine lv_if_ne (tgt := 84) hx hb dX5_arc_79 (by decide) (fun c9 => ?_) (fun c9 => ?_)
          · have h := ineg c9 h
            refine lv_aload_n hx hb dX5_arc_84 rfl (lv_at hl 1 rfl) ?_
            refine va_get (D := (dC, dI)) (ci := 5) (v := .ref aMF) (C := RX5) (T := TX5) (N := 21) hx hb hts k1 hown hK hP 0 rfl rfl 3 (by decide) k0 (fun _ h9 => h9) rfl dX5_arc_85 ?_
            refine lv_aload_n hx hb dX5_arc_88 rfl (lv_at hl 1 rfl) ?_
            refine va_get (D := (dC, dI)) (ci := 5) (v := .int mAr) (C := RX5) (T := TX5) (N := 21) hx hb hts k1 hown hK hP 0 rfl rfl 2 (by decide) k2 (fun _ h9 => h9) rfl dX5_arc_89 ?_
            refine lv_iload_n hx hb dX5_arc_92 rfl (lv_at hl 2 rfl) ?_
            obtain ⟨mF_58, e9, h⟩ := bd h
            refine q_iast (ws2 := wX5 cyI mo aMF aMT aMW aMU aMP aML aMM aMO aMR aMD aMB aMK mTh_57 mNo mAr mS mG mQ mWa mPa mLa mF_58 mT mW mU mP mL mM mO mR mD mB mK) hx hb hK hP hD hS 1 0 rfl rfl e9 dX5_arc_93 rfl (fun H locs hP hD hS => ?_)
            refine lv_aload_n hx hb dX5_arc_94 rfl (lv_at hl 1 rfl) ?_
            refine va_get (D := (dC, dI)) (ci := 5) (v := .ref aMT) (C := RX5) (T := TX5) (N := 21) hx hb hts k1 hown hK hP 0 rfl rfl 4 (by decide) k3 (fun _ h9 => h9) rfl dX5_arc_95 ?_
            refine lv_aload_n hx hb dX5_arc_98 rfl (lv_at hl 1 rfl) ?_
            refine va_get (D := (dC, dI)) (ci := 5) (v := .int mAr) (C := RX5) (T := TX5) (N := 21) hx hb hts k1 hown hK hP 0 rfl rfl 2 (by decide) k2 (fun _ h9 => h9) rfl dX5_arc_99 ?_
            refine lv_iload_n hx hb dX5_arc_102 rfl (lv_at hl 3 rfl) ?_
            obtain ⟨mT_59, e9, h⟩ := bd h
            refine q_iast (ws2 := wX5 cyI mo aMF aMT aMW aMU aMP aML aMM aMO aMR aMD aMB aMK mTh_57 mNo mAr mS mG mQ mWa mPa mLa mF_58 mT_59 mW mU mP mL mM mO mR mD mB mK) hx hb hK hP hD hS 2 0 rfl rfl e9 dX5_arc_103 rfl (fun H locs hP hD hS => ?_)
            refine lv_aload_n hx hb dX5_arc_104 rfl (lv_at hl 1 rfl) ?_
            refine va_get (D := (dC, dI)) (ci := 5) (v := .ref aMP) (C := RX5) (T := TX5) (N := 21) hx hb hts k1 hown hK hP 0 rfl rfl 7 (by decide) k4 (fun _ h9 => h9) rfl dX5_arc_105 ?_
            refine lv_aload_n hx hb dX5_arc_108 rfl (lv_at hl 1 rfl) ?_
            refine va_get (D := (dC, dI)) (ci := 5) (v := .int mAr) (C := RX5) (T := TX5) (N := 21) hx hb hts k1 hown hK hP 0 rfl rfl 2 (by decide) k2 (fun _ h9 => h9) rfl dX5_arc_109 ?_
            refine lv_iconst (v := 0) hx hb dX5_arc_112 (by decide) ?_
            obtain ⟨mP_60, e9, h⟩ := bd h
            refine q_iast (ws2 := wX5 cyI mo aMF aMT aMW aMU aMP aML aMM aMO aMR aMD aMB aMK mTh_57 mNo mAr mS mG mQ mWa mPa mLa mF_58 mT_59 mW mU mP_60 mL mM mO mR mD mB mK) hx hb hK hP hD hS 5 0 rfl rfl e9 dX5_arc_113 rfl (fun H locs hP hD hS => ?_)
            refine lv_aload_n hx hb dX5_arc_114 rfl (lv_at hl 1 rfl) ?_
            refine lv_aload_n hx hb dX5_arc_115 rfl (lv_at hl 1 rfl) ?_
            refine va_get (D := (dC, dI)) (ci := 5) (v := .int mAr) (C := RX5) (T := TX5) (N := 21) hx hb hts k1 hown hK hP 0 rfl rfl 2 (by decide) k2 (fun _ h9 => h9) rfl dX5_arc_116 ?_
            refine lv_iload_n hx hb dX5_arc_119 rfl (lv_at hl 4 rfl) ?_
            refine lv_iload hx hb dX5_arc_120 (lv_at hl 5 rfl) ?_
            obtain ⟨mW_61, mU_62, mP_63, e9, h⟩ := bd3 h
            refine q_callVv (As := [.int mAr, .int p2, .int p3]) (w1 := wX5 cyI mo aMF aMT aMW aMU aMP aML aMM aMO aMR aMD aMB aMK mTh_57 mNo mAr mS mG mQ mWa mPa mLa mF_58 mT_59 mW_61 mU_62 mP_63 mL mM mO mR mD mB mK) (ws2 := wX5 cyI mo aMF aMT aMW aMU aMP aML aMM aMO aMR aMD aMB aMK mTh_57 mNo mAr mS mG mQ mWa mPa mLa mF_58 mT_59 mW_61 mU_62 mP_63 mL mM mO mR mD mB mK) ⟨hx, hb, hml, hown, hts⟩ (c_X5_put l dC dI cyI mo aMF aMT aMW aMU aMP aML aMM aMO aMR aMD aMB aMK H.size mTh_57 mNo mAr mS mG mQ mWa mPa mLa mF_58 mT_59 mW mU mP_60 mL mM mO mR mD mB mK mAr p2 p3 _ e9) (cwV 3 hts gX5_arc_X5_put rfl rfl rfl (by decide +kernel) ⟨Nat.le_of_ble_eq_true rfl, Nat.le_of_ble_eq_true rfl⟩) hK hP hD hS hA [0, 1, 2, 3, 4, 5, 6, 7, 8, 9, 10, 11, 12] [] [0, 1, 2, 3, 4, 5, 6, 7, 8, 9, 10, 11, 12] [0] rfl rfl rfl rfl (by decide) rfl rfl rfl 5 0 rfl rfl rfl hl.1 (Nat.le_of_ble_eq_true rfl) (Nat.le_of_ble_eq_true rfl) (Nat.le_of_ble_eq_true rfl) rfl dX5_arc_122 (fun H locs hP hD hS => ?_)
            refine lv_aload_n hx hb dX5_arc_125 rfl (lv_at hl 1 rfl) ?_
            refine lv_dup hx hb dX5_arc_126 rfl ?_
            refine va_get (D := (dC, dI)) (ci := 5) (v := .int mAr) (C := RX5) (T := TX5) (N := 21) hx hb hts k1 hown hK hP 0 rfl rfl 2 (by decide) k2 (fun _ h9 => h9) rfl dX5_arc_127 ?_
            refine lv_iconst (v := 1) hx hb dX5_arc_130 (by decide) ?_
            refine lv_iadd hx hb dX5_arc_131 ?_
            refine va_put (D := (dC, dI)) (ci := 5) (v := .int (mAr + 1)) (ty := .int) (C := RX5) (T := TX5) (N := 21) hx hb hts k1 tyX5 tyX5_ok nmX5 hown hK hP hD hS 0 rfl rfl 2 (by decide) k2 (fun _ h9 => h9) rfl (by decide +kernel) rfl rfl (Nat.le_of_ble_eq_true rfl) dX5_arc_132 (fun H locs hP hD hS => ?_)
            have hP : va_P (dC, dI) vwCl (wX5 cyI mo aMF aMT aMW aMU aMP aML aMM aMO aMR aMD aMB aMK mTh_57 mNo (mAr + 1) mS mG mQ mWa mPa mLa mF_58 mT_59 mW_61 mU_62 mP_63 mL mM mO mR mD mB mK) H := hP
            have hD : va_D A (wX5 cyI mo aMF aMT aMW aMU aMP aML aMM aMO aMR aMD aMB aMK mTh_57 mNo (mAr + 1) mS mG mQ mWa mPa mLa mF_58 mT_59 mW_61 mU_62 mP_63 mL mM mO mR mD mB mK) := hD
            refine lv_aload_n hx hb dX5_arc_135 rfl (lv_at hl 1 rfl) ?_
            refine va_get (D := (dC, dI)) (ci := 5) (v := .int (mAr + 1)) (C := RX5) (T := TX5) (N := 21) hx hb hts k1 hown hK hP 0 rfl rfl 2 (by decide) k2 (fun _ h9 => h9) rfl dX5_arc_136 ?_
            refine lv_iconst (v := 1) hx hb dX5_arc_139 (by decide) ?_
            refine lv_isub hx hb dX5_arc_140 ?_
            cases h
            exact q_iret hQ hx hb hr hlocks hP hK hD hS dX5_arc_141
          · have h := ipos c9 h
            refine lv_iconst (v := 0) hx hb dX5_arc_82 (by decide) ?_
            cases h
            exact q_iret hQ hx hb hr hlocks hP hK hD hS dX5_arc_83
        · have h := ineg c9 h
          refine lv_aload_n hx hb dX5_arc_41 rfl (lv_at hl 1 rfl) ?_
          refine lv_iload_n hx hb dX5_arc_42 rfl (lv_at hl 3 rfl) ?_
          obtain ⟨b64, e9, h⟩ := bd h
          refine q_callVi (ret := b2i b64) (As := [.int p1]) (w1 := wX5 cyI mo aMF aMT aMW aMU aMP aML aMM aMO aMR aMD aMB aMK mTh mNo mAr mS mG mQ mWa mPa mLa mF mT mW mU mP mL mM mO mR mD mB mK) (ws2 := wX5 cyI mo aMF aMT aMW aMU aMP aML aMM aMO aMR aMD aMB aMK mTh mNo mAr mS mG mQ mWa mPa mLa mF mT mW mU mP mL mM mO mR mD mB mK) ⟨hx, hb, hml, hown, hts⟩ (c_X5_isNode l dC dI cyI mo aMF aMT aMW aMU aMP aML aMM aMO aMR aMD aMB aMK H.size mTh mNo mAr mS mG mQ mWa mPa mLa mF mT mW mU mP mL mM mO mR mD mB mK p1 _ e9) (cwV 1 hts gX5_arc_X5_isNode rfl rfl rfl (by decide +kernel) ⟨Nat.le_of_ble_eq_true rfl, Nat.le_of_ble_eq_true rfl⟩) hK hP hD hS hA [0, 1, 2, 3, 4, 5, 6, 7, 8, 9, 10, 11, 12] [] [0, 1, 2, 3, 4, 5, 6, 7, 8, 9, 10, 11, 12] [0] rfl rfl rfl rfl (by decide) rfl rfl rfl 5 0 rfl rfl rfl hl.1 (Nat.le_of_ble_eq_true rfl) (Nat.le_of_ble_eq_true rfl) (Nat.le_of_ble_eq_true rfl) rfl dX5_arc_43 (fun H locs hP hD hS => ?_)
          refine lv_if_ne (tgt := 53) hx hb dX5_arc_46 (by decide) (fun c9 => ?_) (fun c9 => ?_)
          · have h := ineg c9 h
            refine lv_iload hx hb dX5_arc_53 (lv_at hl 0 rfl) ?_
            refine lv_if_ne (tgt := 62) hx hb dX5_arc_55 (by decide) (fun c9 => absurd (by decide) c9) (fun _ => ?_)
            refine lv_iconst (v := 2) hx hb dX5_arc_58 (by decide) ?_
            refine lv_goto (tgt := 76) hx hb dX5_arc_59 (by decide) ?_
            obtain ⟨b65, mTh_66, e9, h⟩ := bd2 h
            refine q_callVi (ret := b2i b65) (As := [.int 2]) (w1 := wX5 cyI mo aMF aMT aMW aMU aMP aML aMM aMO aMR aMD aMB aMK mTh_66 mNo mAr mS mG mQ mWa mPa mLa mF mT mW mU mP mL mM mO mR mD mB mK) (ws2 := wX5 cyI mo aMF aMT aMW aMU aMP aML aMM aMO aMR aMD aMB aMK mTh_66 mNo mAr mS mG mQ mWa mPa mLa mF mT mW mU mP mL mM mO mR mD mB mK) ⟨hx, hb, hml, hown, hts⟩ (c_X5_goesWell l dC dI cyI mo aMF aMT aMW aMU aMP aML aMM aMO aMR aMD aMB aMK H.size mTh mNo mAr mS mG mQ mWa mPa mLa mF mT mW mU mP mL mM mO mR mD mB mK 2 _ e9) (cwV 1 hts gX5_arc_X5_goesWell rfl rfl rfl (by decide +kernel) ⟨Nat.le_of_ble_eq_true rfl, Nat.le_of_ble_eq_true rfl⟩) hK hP hD hS hA [0, 1, 2, 3, 4, 5, 6, 7, 8, 9, 10, 11, 12] [] [0, 1, 2, 3, 4, 5, 6, 7, 8, 9, 10, 11, 12] [0] rfl rfl rfl rfl (by decide) rfl rfl rfl 5 0 rfl rfl rfl hl.1 (Nat.le_of_ble_eq_true rfl) (Nat.le_of_ble_eq_true rfl) (Nat.le_of_ble_eq_true rfl) rfl dX5_arc_76 (fun H locs hP hD hS => ?_)
            refine lv_if_ne (tgt := 84) hx hb dX5_arc_79 (by decide) (fun c9 => ?_) (fun c9 => ?_)
            · have h := ineg c9 h
              refine lv_aload_n hx hb dX5_arc_84 rfl (lv_at hl 1 rfl) ?_
              refine va_get (D := (dC, dI)) (ci := 5) (v := .ref aMF) (C := RX5) (T := TX5) (N := 21) hx hb hts k1 hown hK hP 0 rfl rfl 3 (by decide) k0 (fun _ h9 => h9) rfl dX5_arc_85 ?_
              refine lv_aload_n hx hb dX5_arc_88 rfl (lv_at hl 1 rfl) ?_
              refine va_get (D := (dC, dI)) (ci := 5) (v := .int mAr) (C := RX5) (T := TX5) (N := 21) hx hb hts k1 hown hK hP 0 rfl rfl 2 (by decide) k2 (fun _ h9 => h9) rfl dX5_arc_89 ?_
              refine lv_iload_n hx hb dX5_arc_92 rfl (lv_at hl 2 rfl) ?_
              obtain ⟨mF_67, e9, h⟩ := bd h
              refine q_iast (ws2 := wX5 cyI mo aMF aMT aMW aMU aMP aML aMM aMO aMR aMD aMB aMK mTh_66 mNo mAr mS mG mQ mWa mPa mLa mF_67 mT mW mU mP mL mM mO mR mD mB mK) hx hb hK hP hD hS 1 0 rfl rfl e9 dX5_arc_93 rfl (fun H locs hP hD hS => ?_)
              refine lv_aload_n hx hb dX5_arc_94 rfl (lv_at hl 1 rfl) ?_
              refine va_get (D := (dC, dI)) (ci := 5) (v := .ref aMT) (C := RX5) (T := TX5) (N := 21) hx hb hts k1 hown hK hP 0 rfl rfl 4 (by decide) k3 (fun _ h9 => h9) rfl dX5_arc_95 ?_
              refine lv_aload_n hx hb dX5_arc_98 rfl (lv_at hl 1 rfl) ?_
              refine va_get (D := (dC, dI)) (ci := 5) (v := .int mAr) (C := RX5) (T := TX5) (N := 21) hx hb hts k1 hown hK hP 0 rfl rfl 2 (by decide) k2 (fun _ h9 => h9) rfl dX5_arc_99 ?_
              refine lv_iload_n hx hb dX5_arc_102 rfl (lv_at hl 3 rfl) ?_
              obtain ⟨mT_68, e9, h⟩ := bd h
              refine q_iast (ws2 := wX5 cyI mo aMF aMT aMW aMU aMP aML aMM aMO aMR aMD aMB aMK mTh_66 mNo mAr mS mG mQ mWa mPa mLa mF_67 mT_68 mW mU mP mL mM mO mR mD mB mK) hx hb hK hP hD hS 2 0 rfl rfl e9 dX5_arc_103 rfl (fun H locs hP hD hS => ?_)
              refine lv_aload_n hx hb dX5_arc_104 rfl (lv_at hl 1 rfl) ?_
              refine va_get (D := (dC, dI)) (ci := 5) (v := .ref aMP) (C := RX5) (T := TX5) (N := 21) hx hb hts k1 hown hK hP 0 rfl rfl 7 (by decide) k4 (fun _ h9 => h9) rfl dX5_arc_105 ?_
              refine lv_aload_n hx hb dX5_arc_108 rfl (lv_at hl 1 rfl) ?_
              refine va_get (D := (dC, dI)) (ci := 5) (v := .int mAr) (C := RX5) (T := TX5) (N := 21) hx hb hts k1 hown hK hP 0 rfl rfl 2 (by decide) k2 (fun _ h9 => h9) rfl dX5_arc_109 ?_
              refine lv_iconst (v := 0) hx hb dX5_arc_112 (by decide) ?_
              obtain ⟨mP_69, e9, h⟩ := bd h
              refine q_iast (ws2 := wX5 cyI mo aMF aMT aMW aMU aMP aML aMM aMO aMR aMD aMB aMK mTh_66 mNo mAr mS mG mQ mWa mPa mLa mF_67 mT_68 mW mU mP_69 mL mM mO mR mD mB mK) hx hb hK hP hD hS 5 0 rfl rfl e9 dX5_arc_113 rfl (fun H locs hP hD hS => ?_)
              refine lv_aload_n hx hb dX5_arc_114 rfl (lv_at hl 1 rfl) ?_
              refine lv_aload_n hx hb dX5_arc_115 rfl (lv_at hl 1 rfl) ?_
              refine va_get (D := (dC, dI)) (ci := 5) (v := .int mAr) (C := RX5) (T := TX5) (N := 21) hx hb hts k1 hown hK hP 0 rfl rfl 2 (by decide) k2 (fun _ h9 => h9) rfl dX5_arc_116 ?_
              refine lv_iload_n hx hb dX5_arc_119 rfl (lv_at hl 4 rfl) ?_
              refine lv_iload hx hb dX5_arc_120 (lv_at hl 5 rfl) ?_
              obtain ⟨mW_70, mU_71, mP_72, e9, h⟩ := bd3 h
              refine q_callVv (As := [.int mAr, .int p2, .int p3]) (w1 := wX5 cyI mo aMF aMT aMW aMU aMP aML aMM aMO aMR aMD aMB aMK mTh_66 mNo mAr mS mG mQ mWa mPa mLa mF_67 mT_68 mW_70 mU_71 mP_72 mL mM mO mR mD mB mK) (ws2 := wX5 cyI mo aMF aMT aMW aMU aMP aML aMM aMO aMR aMD aMB aMK mTh_66 mNo mAr mS mG mQ mWa mPa mLa mF_67 mT_68 mW_70 mU_71 mP_72 mL mM mO mR mD mB mK) ⟨hx, hb, hml, hown, hts⟩ (c_X5_put l dC dI cyI mo aMF aMT aMW aMU aMP aML aMM aMO aMR aMD aMB aMK H.size mTh_66 mNo mAr mS mG mQ mWa mPa mLa mF_67 mT_68 mW mU mP_69 mL mM mO mR mD mB mK mAr p2 p3 _ e9) (cwV 3 hts gX5_arc_X5_put rfl rfl rfl (by decide +kernel) ⟨Nat.le_of_ble_eq_true rfl, Nat.le_of_ble_eq_true rfl⟩) hK hP hD hS hA [0, 1, 2, 3, 4, 5, 6, 7, 8, 9, 10, 11, 12] [] [0, 1, 2, 3, 4, 5, 6, 7, 8, 9, 10, 11, 12] [0] rfl rfl rfl rfl (by decide) rfl rfl rfl 5 0 rfl rfl rfl hl.1 (Nat.le_of_ble_eq_true rfl) (Nat.le_of_ble_eq_true rfl) (Nat.le_of_ble_eq_true rfl) rfl dX5_arc_122 (fun H locs hP hD hS => ?_)
              refine lv_aload_n hx hb dX5_arc_125 rfl (lv_at hl 1 rfl) ?_
              refine lv_dup hx hb dX5_arc_126 rfl ?_
              refine va_get (D := (dC, dI)) (ci := 5) (v := .int mAr) (C := RX5) (T := TX5) (N := 21) hx hb hts k1 hown hK hP 0 rfl rfl 2 (by decide) k2 (fun _ h9 => h9) rfl dX5_arc_127 ?_
              refine lv_iconst (v := 1) hx hb dX5_arc_130 (by decide) ?_
              refine lv_iadd hx hb dX5_arc_131 ?_
              refine va_put (D := (dC, dI)) (ci := 5) (v := .int (mAr + 1)) (ty := .int) (C := RX5) (T := TX5) (N := 21) hx hb hts k1 tyX5 tyX5_ok nmX5 hown hK hP hD hS 0 rfl rfl 2 (by decide) k2 (fun _ h9 => h9) rfl (by decide +kernel) rfl rfl (Nat.le_of_ble_eq_true rfl) dX5_arc_132 (fun H locs hP hD hS => ?_)
              have hP : va_P (dC, dI) vwCl (wX5 cyI mo aMF aMT aMW aMU aMP aML aMM aMO aMR aMD aMB aMK mTh_66 mNo (mAr + 1) mS mG mQ mWa mPa mLa mF_67 mT_68 mW_70 mU_71 mP_72 mL mM mO mR mD mB mK) H := hP
              have hD : va_D A (wX5 cyI mo aMF aMT aMW aMU aMP aML aMM aMO aMR aMD aMB aMK mTh_66 mNo (mAr + 1) mS mG mQ mWa mPa mLa mF_67 mT_68 mW_70 mU_71 mP_72 mL mM mO mR mD mB mK) := hD
              refine lv_aload_n hx hb dX5_arc_135 rfl (lv_at hl 1 rfl) ?_
              refine va_get (D := (dC, dI)) (ci := 5) (v := .int (mAr + 1)) (C := RX5) (T := TX5) (N := 21) hx hb hts k1 hown hK hP 0 rfl rfl 2 (by decide) k2 (fun _ h9 => h9) rfl dX5_arc_136 ?_
              refine lv_iconst (v := 1) hx hb dX5_arc_139 (by decide) ?_
              refine lv_isub hx hb dX5_arc_140 ?_
              cases h
              exact q_iret hQ hx hb hr hlocks hP hK hD hS dX5_arc_141
            · have h := ipos c9 h
              refine lv_iconst (v := 0) hx hb dX5_arc_82 (by decide) ?_
              cases h
              exact q_iret hQ hx hb hr hlocks hP hK hD hS dX5_arc_83
          · have h := ipos c9 h
            refine lv_iconst (v := 1) hx hb dX5_arc_49 (by decide) ?_
            refine lv_goto (tgt := 76) hx hb dX5_arc_50 (by decide) ?_
            obtain ⟨b73, mTh_74, e9, h⟩ := bd2 h
            refine q_callVi (ret := b2i b73) (As := [.int 1]) (w1 := wX5 cyI mo aMF aMT aMW aMU aMP aML aMM aMO aMR aMD aMB aMK mTh_74 mNo mAr mS mG mQ mWa mPa mLa mF mT mW mU mP mL mM mO mR mD mB mK) (ws2 := wX5 cyI mo aMF aMT aMW aMU aMP aML aMM aMO aMR aMD aMB aMK mTh_74 mNo mAr mS mG mQ mWa mPa mLa mF mT mW mU mP mL mM mO mR mD mB mK) ⟨hx, hb, hml, hown, hts⟩ (c_X5_goesWell l dC dI cyI mo aMF aMT aMW aMU aMP aML aMM aMO aMR aMD aMB aMK H.size mTh mNo mAr mS mG mQ mWa mPa mLa mF mT mW mU mP mL mM mO mR mD mB mK 1 _ e9) (cwV 1 hts gX5_arc_X5_goesWell rfl rfl rfl (by decide +kernel) ⟨Nat.le_of_ble_eq_true rfl, Nat.le_of_ble_eq_true rfl⟩) hK hP hD hS hA [0, 1, 2, 3, 4, 5, 6, 7, 8, 9, 10, 11, 12] [] [0, 1, 2, 3, 4, 5, 6, 7, 8, 9, 10, 11, 12] [0] rfl rfl rfl rfl (by decide) rfl rfl rfl 5 0 rfl rfl rfl hl.1 (Nat.le_of_ble_eq_true rfl) (Nat.le_of_ble_eq_true rfl) (Nat.le_of_ble_eq_true rfl) rfl dX5_arc_76 (fun H locs hP hD hS => ?_)
            refine lv_if_ne (tgt := 84) hx hb dX5_arc_79 (by decide) (fun c9 => ?_) (fun c9 => ?_)
            · have h := ineg c9 h
              refine lv_aload_n hx hb dX5_arc_84 rfl (lv_at hl 1 rfl) ?_
              refine va_get (D := (dC, dI)) (ci := 5) (v := .ref aMF) (C := RX5) (T := TX5) (N := 21) hx hb hts k1 hown hK hP 0 rfl rfl 3 (by decide) k0 (fun _ h9 => h9) rfl dX5_arc_85 ?_
              refine lv_aload_n hx hb dX5_arc_88 rfl (lv_at hl 1 rfl) ?_
              refine va_get (D := (dC, dI)) (ci := 5) (v := .int mAr) (C := RX5) (T := TX5) (N := 21) hx hb hts k1 hown hK hP 0 rfl rfl 2 (by decide) k2 (fun _ h9 => h9) rfl dX5_arc_89 ?_
              refine lv_iload_n hx hb dX5_arc_92 rfl (lv_at hl 2 rfl) ?_
              obtain ⟨mF_75, e9, h⟩ := bd h
              refine q_iast (ws2 := wX5 cyI mo aMF aMT aMW aMU aMP aML aMM aMO aMR aMD aMB aMK mTh_74 mNo mAr mS mG mQ mWa mPa mLa mF_75 mT mW mU mP mL mM mO mR mD mB mK) hx hb hK hP hD hS 1 0 rfl rfl e9 dX5_arc_93 rfl (fun H locs hP hD hS => ?_)
              refine lv_aload_n hx hb dX5_arc_94 rfl (lv_at hl 1 rfl) ?_
              refine va_get (D := (dC, dI)) (ci := 5) (v := .ref aMT) (C := RX5) (T := TX5) (N := 21) hx hb hts k1 hown hK hP 0 rfl rfl 4 (by decide) k3 (fun _ h9 => h9) rfl dX5_arc_95 ?_
              refine lv_aload_n hx hb dX5_arc_98 rfl (lv_at hl 1 rfl) ?_
              refine va_get (D := (dC, dI)) (ci := 5) (v := .int mAr) (C := RX5) (T := TX5) (N := 21) hx hb hts k1 hown hK hP 0 rfl rfl 2 (by decide) k2 (fun _ h9 => h9) rfl dX5_arc_99 ?_
              refine lv_iload_n hx hb dX5_arc_102 rfl (lv_at hl 3 rfl) ?_
              obtain ⟨mT_76, e9, h⟩ := bd h
              refine q_iast (ws2 := wX5 cyI mo aMF aMT aMW aMU aMP aML aMM aMO aMR aMD aMB aMK mTh_74 mNo mAr mS mG mQ mWa mPa mLa mF_75 mT_76 mW mU mP mL mM mO mR mD mB mK) hx hb hK hP hD hS 2 0 rfl rfl e9 dX5_arc_103 rfl (fun H locs hP hD hS => ?_)
              refine lv_aload_n hx hb dX5_arc_104 rfl (lv_at hl 1 rfl) ?_
              refine va_get (D := (dC, dI)) (ci := 5) (v := .ref aMP) (C := RX5) (T := TX5) (N := 21) hx hb hts k1 hown hK hP 0 rfl rfl 7 (by decide) k4 (fun _ h9 => h9) rfl dX5_arc_105 ?_
              refine lv_aload_n hx hb dX5_arc_108 rfl (lv_at hl 1 rfl) ?_
              refine va_get (D := (dC, dI)) (ci := 5) (v := .int mAr) (C := RX5) (T := TX5) (N := 21) hx hb hts k1 hown hK hP 0 rfl rfl 2 (by decide) k2 (fun _ h9 => h9) rfl dX5_arc_109 ?_
              refine lv_iconst (v := 0) hx hb dX5_arc_112 (by decide) ?_
              obtain ⟨mP_77, e9, h⟩ := bd h
              refine q_iast (ws2 := wX5 cyI mo aMF aMT aMW aMU aMP aML aMM aMO aMR aMD aMB aMK mTh_74 mNo mAr mS mG mQ mWa mPa mLa mF_75 mT_76 mW mU mP_77 mL mM mO mR mD mB mK) hx hb hK hP hD hS 5 0 rfl rfl e9 dX5_arc_113 rfl (fun H locs hP hD hS => ?_)
              refine lv_aload_n hx hb dX5_arc_114 rfl (lv_at hl 1 rfl) ?_
              refine lv_aload_n hx hb dX5_arc_115 rfl (lv_at hl 1 rfl) ?_
              refine va_get (D := (dC, dI)) (ci := 5) (v := .int mAr) (C := RX5) (T := TX5) (N := 21) hx hb hts k1 hown hK hP 0 rfl rfl 2 (by decide) k2 (fun _ h9 => h9) rfl dX5_arc_116 ?_
              refine lv_iload_n hx hb dX5_arc_119 rfl (lv_at hl 4 rfl) ?_
              refine lv_iload hx hb dX5_arc_120 (lv_at hl 5 rfl) ?_
              obtain ⟨mW_78, mU_79, mP_80, e9, h⟩ := bd3 h
              refine q_callVv (As := [.int mAr, .int p2, .int p3]) (w1 := wX5 cyI mo aMF aMT aMW aMU aMP aML aMM aMO aMR aMD aMB aMK mTh_74 mNo mAr mS mG mQ mWa mPa mLa mF_75 mT_76 mW_78 mU_79 mP_80 mL mM mO mR mD mB mK) (ws2 := wX5 cyI mo aMF aMT aMW aMU aMP aML aMM aMO aMR aMD aMB aMK mTh_74 mNo mAr mS mG mQ mWa mPa mLa mF_75 mT_76 mW_78 mU_79 mP_80 mL mM mO mR mD mB mK) ⟨hx, hb, hml, hown, hts⟩ (c_X5_put l dC dI cyI mo aMF aMT aMW aMU aMP aML aMM aMO aMR aMD aMB aMK H.size mTh_74 mNo mAr mS mG mQ mWa mPa mLa mF_75 mT_76 mW mU mP_77 mL mM mO mR mD mB mK mAr p2 p3 _ e9) (cwV 3 hts gX5_arc_X5_put rfl rfl rfl (by decide +kernel) ⟨Nat.le_of_ble_eq_true rfl, Nat.le_of_ble_eq_true rfl⟩) hK hP hD hS hA [0, 1, 2, 3, 4, 5, 6, 7, 8, 9, 10, 11, 12] [] [0, 1, 2, 3, 4, 5, 6, 7, 8, 9, 10, 11, 12] [0] rfl rfl rfl rfl (by decide) rfl rfl rfl 5 0 rfl rfl rfl hl.1 (Nat.le_of_ble_eq_true rfl) (Nat.le_of_ble_eq_true rfl) (Nat.le_of_ble_eq_true rfl) rfl dX5_arc_122 (fun H locs hP hD hS => ?_)
              refine lv_aload_n hx hb dX5_arc_125 rfl (lv_at hl 1 rfl) ?_
              refine lv_dup hx hb dX5_arc_126 rfl ?_
              refine va_get (D := (dC, dI)) (ci := 5) (v := .int mAr) (C := RX5) (T := TX5) (N := 21) hx hb hts k1 hown hK hP 0 rfl rfl 2 (by decide) k2 (fun _ h9 => h9) rfl dX5_arc_127 ?_
              refine lv_iconst (v := 1) hx hb dX5_arc_130 (by decide) ?_
              refine lv_iadd hx hb dX5_arc_131 ?_
              refine va_put (D := (dC, dI)) (ci := 5) (v := .int (mAr + 1)) (ty := .int) (C := RX5) (T := TX5) (N := 21) hx hb hts k1 tyX5 tyX5_ok nmX5 hown hK hP hD hS 0 rfl rfl 2 (by decide) k2 (fun _ h9 => h9) rfl (by decide +kernel) rfl rfl (Nat.le_of_ble_eq_true rfl) dX5_arc_132 (fun H locs hP hD hS => ?_)
              have hP : va_P (dC, dI) vwCl (wX5 cyI mo aMF aMT aMW aMU aMP aML aMM aMO aMR aMD aMB aMK mTh_74 mNo (mAr + 1) mS mG mQ mWa mPa mLa mF_75 mT_76 mW_78 mU_79 mP_80 mL mM mO mR mD mB mK) H := hP
              have hD : va_D A (wX5 cyI mo aMF aMT aMW aMU aMP aML aMM aMO aMR aMD aMB aMK mTh_74 mNo (mAr + 1) mS mG mQ mWa mPa mLa mF_75 mT_76 mW_78 mU_79 mP_80 mL mM mO mR mD mB mK) := hD
              refine lv_aload_n hx hb dX5_arc_135 rfl (lv_at hl 1 rfl) ?_
              refine va_get (D := (dC, dI)) (ci := 5) (v := .int (mAr + 1)) (C := RX5) (T := TX5) (N := 21) hx hb hts k1 hown hK hP 0 rfl rfl 2 (by decide) k2 (fun _ h9 => h9) rfl dX5_arc_136 ?_
              refine lv_iconst (v := 1) hx hb dX5_arc_139 (by decide) ?_
              refine lv_isub hx hb dX5_arc_140 ?_
              cases h
              exact q_iret hQ hx hb hr hlocks hP hK hD hS dX5_arc_141
            · have h := ipos c9 h
              refine lv_iconst (v := 0) hx hb dX5_arc_82 (by decide) ?_
              cases h
              exact q_iret hQ hx hb hr hlocks hP hK hD hS dX5_arc_83
      · have h := ineg c9 h
        refine lv_iconst (v := 1) hx hb dX5_arc_25 (by decide) ?_
        refine lv_goto (tgt := 30) hx hb dX5_arc_26 (by decide) ?_
        refine lv_istore (lv' := [(5, .int 1), (0, .ref mo), (1, .int p0), (2, .int p1), (3, .int p2), (4, .int p3)]) hx hb dX5_arc_30 hl (by decide) rfl (fun ls hl => ?_)
        refine lv_aload_n hx hb dX5_arc_32 rfl (lv_at hl 1 rfl) ?_
        refine lv_aload_n hx hb dX5_arc_33 rfl (lv_at hl 1 rfl) ?_
        refine lv_iload_n hx hb dX5_arc_34 rfl (lv_at hl 2 rfl) ?_
        obtain ⟨b81, e9, h⟩ := bd h
        refine q_callVi (ret := b2i b81) (As := [.int p0]) (w1 := wX5 cyI mo aMF aMT aMW aMU aMP aML aMM aMO aMR aMD aMB aMK mTh mNo mAr mS mG mQ mWa mPa mLa mF mT mW mU mP mL mM mO mR mD mB mK) (ws2 := wX5 cyI mo aMF aMT aMW aMU aMP aML aMM aMO aMR aMD aMB aMK mTh mNo mAr mS mG mQ mWa mPa mLa mF mT mW mU mP mL mM mO mR mD mB mK) ⟨hx, hb, hml, hown, hts⟩ (c_X5_isNode l dC dI cyI mo aMF aMT aMW aMU aMP aML aMM aMO aMR aMD aMB aMK H.size mTh mNo mAr mS mG mQ mWa mPa mLa mF mT mW mU mP mL mM mO mR mD mB mK p0 _ e9) (cwV 1 hts gX5_arc_X5_isNode rfl rfl rfl (by decide +kernel) ⟨Nat.le_of_ble_eq_true rfl, Nat.le_of_ble_eq_true rfl⟩) hK hP hD hS hA [0, 1, 2, 3, 4, 5, 6, 7, 8, 9, 10, 11, 12] [] [0, 1, 2, 3, 4, 5, 6, 7, 8, 9, 10, 11, 12] [0] rfl rfl rfl rfl (by decide) rfl rfl rfl 5 0 rfl rfl rfl hl.1 (Nat.le_of_ble_eq_true rfl) (Nat.le_of_ble_eq_true rfl) (Nat.le_of_ble_eq_true rfl) rfl dX5_arc_35 (fun H locs hP hD hS => ?_)
        refine lv_if_eq (tgt := 49) hx hb dX5_arc_38 (by decide) (fun c9 => ?_) (fun c9 => ?_)
        · have h := ipos c9 h
          refine lv_iconst (v := 1) hx hb dX5_arc_49 (by decide) ?_
          refine lv_goto (tgt := 76) hx hb dX5_arc_50 (by decide) ?_
          obtain ⟨b82, mTh_83, e9, h⟩ := bd2 h
          refine q_callVi (ret := b2i b82) (As := [.int 1]) (w1 := wX5 cyI mo aMF aMT aMW aMU aMP aML aMM aMO aMR aMD aMB aMK mTh_83 mNo mAr mS mG mQ mWa mPa mLa mF mT mW mU mP mL mM mO mR mD mB mK) (ws2 := wX5 cyI mo aMF aMT aMW aMU aMP aML aMM aMO aMR aMD aMB aMK mTh_83 mNo mAr mS mG mQ mWa mPa mLa mF mT mW mU mP mL mM mO mR mD mB mK) ⟨hx, hb, hml, hown, hts⟩ (c_X5_goesWell l dC dI cyI mo aMF aMT aMW aMU aMP aML aMM aMO aMR aMD aMB aMK H.size mTh mNo mAr mS mG mQ mWa mPa mLa mF mT mW mU mP mL mM mO mR mD mB mK 1 _ e9) (cwV 1 hts gX5_arc_X5_goesWell rfl rfl rfl (by decide +kernel) ⟨Nat.le_of_ble_eq_true rfl, Nat.le_of_ble_eq_true rfl⟩) hK hP hD hS hA [0, 1, 2, 3, 4, 5, 6, 7, 8, 9, 10, 11, 12] [] [0, 1, 2, 3, 4, 5, 6, 7, 8, 9, 10, 11, 12] [0] rfl rfl rfl rfl (by decide) rfl rfl rfl 5 0 rfl rfl rfl hl.1 (Nat.le_of_ble_eq_true rfl) (Nat.le_of_ble_eq_true rfl) (Nat.le_of_ble_eq_true rfl) rfl dX5_arc_76 (fun H locs hP hD hS => ?_)
          refine lv_if_ne (tgt := 84) hx hb dX5_arc_79 (by decide) (fun c9 => ?_) (fun c9 => ?_)
          · have h := ineg c9 h
            refine lv_aload_n hx hb dX5_arc_84 rfl (lv_at hl 1 rfl) ?_
            refine va_get (D := (dC, dI)) (ci := 5) (v := .ref aMF) (C := RX5) (T := TX5) (N := 21) hx hb hts k1 hown hK hP 0 rfl rfl 3 (by decide) k0 (fun _ h9 => h9) rfl dX5_arc_85 ?_
            refine lv_aload_n hx hb dX5_arc_88 rfl (lv_at hl 1 rfl) ?_
            refine va_get (D := (dC, dI)) (ci := 5) (v := .int mAr) (C := RX5) (T := TX5) (N := 21) hx hb hts k1 hown hK hP 0 rfl rfl 2 (by decide) k2 (fun _ h9 => h9) rfl dX5_arc_89 ?_
            refine lv_iload_n hx hb dX5_arc_92 rfl (lv_at hl 2 rfl) ?_
            obtain ⟨mF_84, e9, h⟩ := bd h
            refine q_iast (ws2 := wX5 cyI mo aMF aMT aMW aMU aMP aML aMM aMO aMR aMD aMB aMK mTh_83 mNo mAr mS mG mQ mWa mPa mLa mF_84 mT mW mU mP mL mM mO mR mD mB mK) hx hb hK hP hD hS 1 0 rfl rfl e9 dX5_arc_93 rfl (fun H locs hP hD hS => ?_)
            refine lv_aload_n hx hb dX5_arc_94 rfl (lv_at hl 1 rfl) ?_
            refine va_get (D := (dC, dI)) (ci := 5) (v := .ref aMT) (C := RX5) (T := TX5) (N := 21) hx hb hts k1 hown hK hP 0 rfl rfl 4 (by decide) k3 (fun _ h9 => h9) rfl dX5_arc_95 ?_
            refine lv_aload_n hx hb dX5_arc_98 rfl (lv_at hl 1 rfl) ?_
            refine va_get (D := (dC, dI)) (ci := 5) (v := .int mAr) (C := RX5) (T := TX5) (N := 21) hx hb hts k1 hown hK hP 0 rfl rfl 2 (by decide) k2 (fun _ h9 => h9) rfl dX5_arc_99 ?_
            refine lv_iload_n hx hb dX5_arc_102 rfl (lv_at hl 3 rfl) ?_
            obtain ⟨mT_85, e9, h⟩ := bd h
            refine q_iast (ws2 := wX5 cyI mo aMF aMT aMW aMU aMP aML aMM aMO aMR aMD aMB aMK mTh_83 mNo mAr mS mG mQ mWa mPa mLa mF_84 mT_85 mW mU mP mL mM mO mR mD mB mK) hx hb hK hP hD hS 2 0 rfl rfl e9 dX5_arc_103 rfl (fun H locs hP hD hS => ?_)
            refine lv_aload_n hx hb dX5_arc_104 rfl (lv_at hl 1 rfl) ?_
            refine va_get (D := (dC, dI)) (ci := 5) (v := .ref aMP) (C := RX5) (T := TX5) (N := 21) hx hb hts k1 hown hK hP 0 rfl rfl 7 (by decide) k4 (fun _ h9 => h9) rfl dX5_arc_105 ?_
            refine lv_aload_n hx hb dX5_arc_108 rfl (lv_at hl 1 rfl) ?_
            refine va_get (D := (dC, dI)) (ci := 5) (v := .int mAr) (C := RX5) (T := TX5) (N := 21) hx hb hts k1 hown hK hP 0 rfl rfl 2 (by decide) k2 (fun _ h9 => h9) rfl dX5_arc_109 ?_
            refine lv_iconst (v := 0) hx hb dX5_arc_112 (by decide) ?_
            obtain ⟨mP_86, e9, h⟩ := bd h
            refine q_iast (ws2 := wX5 cyI mo aMF aMT aMW aMU aMP aML aMM aMO aMR aMD aMB aMK mTh_83 mNo mAr mS mG mQ mWa mPa mLa mF_84 mT_85 mW mU mP_86 mL mM mO mR mD mB mK) hx hb hK hP hD hS 5 0 rfl rfl e9 dX5_arc_113 rfl (fun H locs hP hD hS => ?_)
            refine lv_aload_n hx hb dX5_arc_114 rfl (lv_at hl 1 rfl) ?_
            refine lv_aload_n hx hb dX5_arc_115 rfl (lv_at hl 1 rfl) ?_
            refine va_get (D := (dC, dI)) (ci := 5) (v := .int mAr) (C := RX5) (T := TX5) (N := 21) hx hb hts k1 hown hK hP 0 rfl rfl 2 (by decide) k2 (fun _ h9 => h9) rfl dX5_arc_116 ?_
            refine lv_iload_n hx hb dX5_arc_119 rfl (lv_at hl 4 rfl) ?_
            refine lv_iload hx hb dX5_arc_120 (lv_at hl 5 rfl) ?_
            obtain ⟨mW_87, mU_88, mP_89, e9, h⟩ := bd3 h
            refine q_callVv (As := [.int mAr, .int p2, .int p3]) (w1 := wX5 cyI mo aMF aMT aMW aMU aMP aML aMM aMO aMR aMD aMB aMK mTh_83 mNo mAr mS mG mQ mWa mPa mLa mF_84 mT_85 mW_87 mU_88 mP_89 mL mM mO mR mD mB mK) (ws2 := wX5 cyI mo aMF aMT aMW aMU aMP aML aMM aMO aMR aMD aMB aMK mTh_83 mNo mAr mS mG mQ mWa mPa mLa mF_84 mT_85 mW_87 mU_88 mP_89 mL mM mO mR mD mB mK) ⟨hx, hb, hml, hown, hts⟩ (c_X5_put l dC dI cyI mo aMF aMT aMW aMU aMP aML aMM aMO aMR aMD aMB aMK H.size mTh_83 mNo mAr mS mG mQ mWa mPa mLa mF_84 mT_85 mW mU mP_86 mL mM mO mR mD mB mK mAr p2 p3 _ e9) (cwV 3 hts gX5_arc_X5_put rfl rfl rfl (by decide +kernel) ⟨Nat.le_of_ble_eq_true rfl, Nat.le_of_ble_eq_true rfl⟩) hK hP hD hS hA [0, 1, 2, 3, 4, 5, 6, 7, 8, 9, 10, 11, 12] [] [0, 1, 2, 3, 4, 5, 6, 7, 8, 9, 10, 11, 12] [0] rfl rfl rfl rfl (by decide) rfl rfl rfl 5 0 rfl rfl rfl hl.1 (Nat.le_of_ble_eq_true rfl) (Nat.le_of_ble_eq_true rfl) (Nat.le_of_ble_eq_true rfl) rfl dX5_arc_122 (fun H locs hP hD hS => ?_)
            refine lv_aload_n hx hb dX5_arc_125 rfl (lv_at hl 1 rfl) ?_
            refine lv_dup hx hb dX5_arc_126 rfl ?_
            refine va_get (D := (dC, dI)) (ci := 5) (v := .int mAr) (C := RX5) (T := TX5) (N := 21) hx hb hts k1 hown hK hP 0 rfl rfl 2 (by decide) k2 (fun _ h9 => h9) rfl dX5_arc_127 ?_
            refine lv_iconst (v := 1) hx hb dX5_arc_130 (by decide) ?_
            refine lv_iadd hx hb dX5_arc_131 ?_
            refine va_put (D := (dC, dI)) (ci := 5) (v := .int (mAr + 1)) (ty := .int) (C := RX5) (T := TX5) (N := 21) hx hb hts k1 tyX5 tyX5_ok nmX5 hown hK hP hD hS 0 rfl rfl 2 (by decide) k2 (fun _ h9 => h9) rfl (by decide +kernel) rfl rfl (Nat.le_of_ble_eq_true rfl) dX5_arc_132 (fun H locs hP hD hS => ?_)
            have hP : va_P (dC, dI) vwCl (wX5 cyI mo aMF aMT aMW aMU aMP aML aMM aMO aMR aMD aMB aMK mTh_83 mNo (mAr + 1) mS mG mQ mWa mPa mLa mF_84 mT_85 mW_87 mU_88 mP_89 mL mM mO mR mD mB mK) H := hP
            have hD : va_D A (wX5 cyI mo aMF aMT aMW aMU aMP aML aMM aMO aMR aMD aMB aMK mTh_83 mNo (mAr + 1) mS mG mQ mWa mPa mLa mF_84 mT_85 mW_87 mU_88 mP_89 mL mM mO mR mD mB mK) := hD
            refine lv_aload_n hx hb dX5_arc_135 rfl (lv_at hl 1 rfl) ?_
            refine va_get (D := (dC, dI)) (ci := 5) (v := .int (mAr + 1)) (C := RX5) (T := TX5) (N := 21) hx hb hts k1 hown hK hP 0 rfl rfl 2 (by decide) k2 (fun _ h9 => h9) rfl dX5_arc_136 ?_
            refine lv_iconst (v := 1) hx hb dX5_arc_139 (by decide) ?_
            refine lv_isub hx hb dX5_arc_140 ?_
            cases h
            exact q_iret hQ hx hb hr hlocks hP hK hD hS dX5_arc_141
          · have h := ipos c9 h
            refine lv_iconst (v := 0) hx hb dX5_arc_82 (by decide) ?_
            cases h
            exact q_iret hQ hx hb hr hlocks hP hK hD hS dX5_arc_83
        · have h := ineg c9 h
          refine lv_aload_n hx hb dX5_arc_41 rfl (lv_at hl 1 rfl) ?_
          refine lv_iload_n hx hb dX5_arc_42 rfl (lv_at hl 3 rfl) ?_
          obtain ⟨b90, e9, h⟩ := bd h
          refine q_callVi (ret := b2i b90) (As := [.int p1]) (w1 := wX5 cyI mo aMF aMT aMW aMU aMP aML aMM aMO aMR aMD aMB aMK mTh mNo mAr mS mG mQ mWa mPa mLa mF mT mW mU mP mL mM mO mR mD mB mK) (ws2 := wX5 cyI mo aMF aMT aMW aMU aMP aML aMM aMO aMR aMD aMB aMK mTh mNo mAr mS mG mQ mWa mPa mLa mF mT mW mU mP mL mM mO mR mD mB mK) ⟨hx, hb, hml, hown, hts⟩ (c_X5_isNode l dC dI cyI mo aMF aMT aMW aMU aMP aML aMM aMO aMR aMD aMB aMK H.size mTh mNo mAr mS mG mQ mWa mPa mLa mF mT mW mU mP mL mM mO mR mD mB mK p1 _ e9) (cwV 1 hts gX5_arc_X5_isNode rfl rfl rfl (by decide +kernel) ⟨Nat.le_of_ble_eq_true rfl, Nat.le_of_ble_eq_true rfl⟩) hK hP hD hS hA [0, 1, 2, 3, 4, 5, 6, 7, 8, 9, 10, 11, 12] [] [0, 1, 2, 3, 4, 5, 6, 7, 8, 9, 10, 11, 12] [0] rfl rfl rfl rfl (by decide) rfl rfl rfl 5 0 rfl rfl rfl hl.1 (Nat.le_of_ble_eq_true rfl) (Nat.le_of_ble_eq_true rfl) (Nat.le_of_ble_eq_true rfl) rfl dX5_arc_43 (fun H locs hP hD hS => ?_)
          refine lv_if_ne (tgt := 53) hx hb dX5_arc_46 (by decide) (fun c9 => ?_) (fun c9 => ?_)
          · have h := ineg c9 h
            refine lv_iload hx hb dX5_arc_53 (lv_at hl 0 rfl) ?_
            refine lv_if_ne (tgt := 62) hx hb dX5_arc_55 (by decide) (fun _ => ?_) (fun c9 => absurd c9 (by decide))
            refine lv_aload_n hx hb dX5_arc_62 rfl (lv_at hl 1 rfl) ?_
            refine va_get (D := (dC, dI)) (ci := 5) (v := .int mAr) (C := RX5) (T := TX5) (N := 21) hx hb hts k1 hown hK hP 0 rfl rfl 2 (by decide) k2 (fun _ h9 => h9) rfl dX5_arc_63 ?_
            refine lv_bipush (v := 12) hx hb dX5_arc_66 (by decide) ?_
            refine lv_icmp_ne (tgt := 75) hx hb dX5_arc_68 (by decide) (fun c9 => ?_) (fun c9 => ?_)
            · have h := ineg c9 h
              refine lv_iconst (v := 0) hx hb dX5_arc_75 (by decide) ?_
              obtain ⟨b91, mTh_92, e9, h⟩ := bd2 h
              refine q_callVi (ret := b2i b91) (As := [.int 0]) (w1 := wX5 cyI mo aMF aMT aMW aMU aMP aML aMM aMO aMR aMD aMB aMK mTh_92 mNo mAr mS mG mQ mWa mPa mLa mF mT mW mU mP mL mM mO mR mD mB mK) (ws2 := wX5 cyI mo aMF aMT aMW aMU aMP aML aMM aMO aMR aMD aMB aMK mTh_92 mNo mAr mS mG mQ mWa mPa mLa mF mT mW mU mP mL mM mO mR mD mB mK) ⟨hx, hb, hml, hown, hts⟩ (c_X5_goesWell l dC dI cyI mo aMF aMT aMW aMU aMP aML aMM aMO aMR aMD aMB aMK H.size mTh mNo mAr mS mG mQ mWa mPa mLa mF mT mW mU mP mL mM mO mR mD mB mK 0 _ e9) (cwV 1 hts gX5_arc_X5_goesWell rfl rfl rfl (by decide +kernel) ⟨Nat.le_of_ble_eq_true rfl, Nat.le_of_ble_eq_true rfl⟩) hK hP hD hS hA [0, 1, 2, 3, 4, 5, 6, 7, 8, 9, 10, 11, 12] [] [0, 1, 2, 3, 4, 5, 6, 7, 8, 9, 10, 11, 12] [0] rfl rfl rfl rfl (by decide) rfl rfl rfl 5 0 rfl rfl rfl hl.1 (Nat.le_of_ble_eq_true rfl) (Nat.le_of_ble_eq_true rfl) (Nat.le_of_ble_eq_true rfl) rfl dX5_arc_76 (fun H locs hP hD hS => ?_)
              refine lv_if_ne (tgt := 84) hx hb dX5_arc_79 (by decide) (fun c9 => ?_) (fun c9 => ?_)
              · have h := ineg c9 h
                refine lv_aload_n hx hb dX5_arc_84 rfl (lv_at hl 1 rfl) ?_
                refine va_get (D := (dC, dI)) (ci := 5) (v := .ref aMF) (C := RX5) (T := TX5) (N := 21) hx hb hts k1 hown hK hP 0 rfl rfl 3 (by decide) k0 (fun _ h9 => h9) rfl dX5_arc_85 ?_
                refine lv_aload_n hx hb dX5_arc_88 rfl (lv_at hl 1 rfl) ?_
                refine va_get (D := (dC, dI)) (ci := 5) (v := .int mAr) (C := RX5) (T := TX5) (N := 21) hx hb hts k1 hown hK hP 0 rfl rfl 2 (by decide) k2 (fun _ h9 => h9) rfl dX5_arc_89 ?_
                refine lv_iload_n hx hb dX5_arc_92 rfl (lv_at hl 2 rfl) ?_
                obtain ⟨mF_93, e9, h⟩ := bd h
                refine q_iast (ws2 := wX5 cyI mo aMF aMT aMW aMU aMP aML aMM aMO aMR aMD aMB aMK mTh_92 mNo mAr mS mG mQ mWa mPa mLa mF_93 mT mW mU mP mL mM mO mR mD mB mK) hx hb hK hP hD hS 1 0 rfl rfl e9 dX5_arc_93 rfl (fun H locs hP hD hS => ?_)
                refine lv_aload_n hx hb dX5_arc_94 rfl (lv_at hl 1 rfl) ?_
                refine va_get (D := (dC, dI)) (ci := 5) (v := .ref aMT) (C := RX5) (T := TX5) (N := 21) hx hb hts k1 hown hK hP 0 rfl rfl 4 (by decide) k3 (fun _ h9 => h9) rfl dX5_arc_95 ?_
                refine lv_aload_n hx hb dX5_arc_98 rfl (lv_at hl 1 rfl) ?_
                refine va_get (D := (dC, dI)) (ci := 5) (v := .int mAr) (C := RX5) (T := TX5) (N := 21) hx hb hts k1 hown hK hP 0 rfl rfl 2 (by decide) k2 (fun _ h9 => h9) rfl dX5_arc_99 ?_
                refine lv_iload_n hx hb dX5_arc_102 rfl (lv_at hl 3 rfl) ?_
                obtain ⟨mT_94, e9, h⟩ := bd h
                refine q_iast (ws2 := wX5 cyI mo aMF aMT aMW aMU aMP aML aMM aMO aMR aMD aMB aMK mTh_92 mNo mAr mS mG mQ mWa mPa mLa mF_93 mT_94 mW mU mP mL mM mO mR mD mB mK) hx hb hK hP hD hS 2 0 rfl rfl e9 dX5_arc_103 rfl (fun H locs hP hD hS => ?_)
                refine lv_aload_n hx hb dX5_arc_104 rfl (lv_at hl 1 rfl) ?_
                refine va_get (D := (dC, dI)) (ci := 5) (v := .ref aMP) (C := RX5) (T := TX5) (N := 21) hx hb hts k1 hown hK hP 0 rfl rfl 7 (by decide) k4 (fun _ h9 => h9) rfl dX5_arc_105 ?_
                refine lv_aload_n hx hb dX5_arc_108 rfl (lv_at hl 1 rfl) ?_
                refine va_get (D := (dC, dI)) (ci := 5) (v := .int mAr) (C := RX5) (T := TX5) (N := 21) hx hb hts k1 hown hK hP 0 rfl rfl 2 (by decide) k2 (fun _ h9 => h9) rfl dX5_arc_109 ?_
                refine lv_iconst (v := 0) hx hb dX5_arc_112 (by decide) ?_
                obtain ⟨mP_95, e9, h⟩ := bd h
                refine q_iast (ws2 := wX5 cyI mo aMF aMT aMW aMU aMP aML aMM aMO aMR aMD aMB aMK mTh_92 mNo mAr mS mG mQ mWa mPa mLa mF_93 mT_94 mW mU mP_95 mL mM mO mR mD mB mK) hx hb hK hP hD hS 5 0 rfl rfl e9 dX5_arc_113 rfl (fun H locs hP hD hS => ?_)
                refine lv_aload_n hx hb dX5_arc_114 rfl (lv_at hl 1 rfl) ?_
                refine lv_aload_n hx hb dX5_arc_115 rfl (lv_at hl 1 rfl) ?_
                refine va_get (D := (dC, dI)) (ci := 5) (v := .int mAr) (C := RX5) (T := TX5) (N := 21) hx hb hts k1 hown hK hP 0 rfl rfl 2 (by decide) k2 (fun _ h9 => h9) rfl dX5_arc_116 ?_
                refine lv_iload_n hx hb dX5_arc_119 rfl (lv_at hl 4 rfl) ?_
                refine lv_iload hx hb dX5_arc_120 (lv_at hl 5 rfl) ?_
                obtain ⟨mW_96, mU_97, mP_98, e9, h⟩ := bd3 h
                refine q_callVv (As := [.int mAr, .int p2, .int p3]) (w1 := wX5 cyI mo aMF aMT aMW aMU aMP aML aMM aMO aMR aMD aMB aMK mTh_92 mNo mAr mS mG mQ mWa mPa mLa mF_93 mT_94 mW_96 mU_97 mP_98 mL mM mO mR mD mB mK) (ws2 := wX5 cyI mo aMF aMT aMW aMU aMP aML aMM aMO aMR aMD aMB aMK mTh_92 mNo mAr mS mG mQ mWa mPa mLa mF_93 mT_94 mW_96 mU_97 mP_98 mL mM mO mR mD mB mK) ⟨hx, hb, hml, hown, hts⟩ (c_X5_put l dC dI cyI mo aMF aMT aMW aMU aMP aML aMM aMO aMR aMD aMB aMK H.size mTh_92 mNo mAr mS mG mQ mWa mPa mLa mF_93 mT_94 mW mU mP_95 mL mM mO mR mD mB mK mAr p2 p3 _ e9) (cwV 3 hts gX5_arc_X5_put rfl rfl rfl (by decide +kernel) ⟨Nat.le_of_ble_eq_true rfl, Nat.le_of_ble_eq_true rfl⟩) hK hP hD hS hA [0, 1, 2, 3, 4, 5, 6, 7, 8, 9, 10, 11, 12] [] [0, 1, 2, 3, 4, 5, 6, 7, 8, 9, 10, 11, 12] [0] rfl rfl rfl rfl (by decide) rfl rfl rfl 5 0 rfl rfl rfl hl.1 (Nat.le_of_ble_eq_true rfl) (Nat.le_of_ble_eq_true rfl) (Nat.le_of_ble_eq_true rfl) rfl dX5_arc_122 (fun H locs hP hD hS => ?_)
                refine lv_aload_n hx hb dX5_arc_125 rfl (lv_at hl 1 rfl) ?_
                refine lv_dup hx hb dX5_arc_126 rfl ?_
                refine va_get (D := (dC, dI)) (ci := 5) (v := .int mAr) (C := RX5) (T := TX5) (N := 21) hx hb hts k1 hown hK hP 0 rfl rfl 2 (by decide) k2 (fun _ h9 => h9) rfl dX5_arc_127 ?_
                refine lv_iconst (v := 1) hx hb dX5_arc_130 (by decide) ?_
                refine lv_iadd hx hb dX5_arc_131 ?_
                refine va_put (D := (dC, dI)) (ci := 5) (v := .int (mAr + 1)) (ty := .int) (C := RX5) (T := TX5) (N := 21) hx hb hts k1 tyX5 tyX5_ok nmX5 hown hK hP hD hS 0 rfl rfl 2 (by decide) k2 (fun _ h9 => h9) rfl (by decide +kernel) rfl rfl (Nat.le_of_ble_eq_true rfl) dX5_arc_132 (fun H locs hP hD hS => ?_)
                have hP : va_P (dC, dI) vwCl (wX5 cyI mo aMF aMT aMW aMU aMP aML aMM aMO aMR aMD aMB aMK mTh_92 mNo (mAr + 1) mS mG mQ mWa mPa mLa mF_93 mT_94 mW_96 mU_97 mP_98 mL mM mO mR mD mB mK) H := hP
                have hD : va_D A (wX5 cyI mo aMF aMT aMW aMU aMP aML aMM aMO aMR aMD aMB aMK mTh_92 mNo (mAr + 1) mS mG mQ mWa mPa mLa mF_93 mT_94 mW_96 mU_97 mP_98 mL mM mO mR mD mB mK) := hD
                refine lv_aload_n hx hb dX5_arc_135 rfl (lv_at hl 1 rfl) ?_
                refine va_get (D := (dC, dI)) (ci := 5) (v := .int (mAr + 1)) (C := RX5) (T := TX5) (N := 21) hx hb hts k1 hown hK hP 0 rfl rfl 2 (by decide) k2 (fun _ h9 => h9) rfl dX5_arc_136 ?_
                refine lv_iconst (v := 1) hx hb dX5_arc_139 (by decide) ?_
                refine lv_isub hx hb dX5_arc_140 ?_
                cases h
                exact q_iret hQ hx hb hr hlocks hP hK hD hS dX5_arc_141
              · have h := ipos c9 h
                refine lv_iconst (v := 0) hx hb dX5_arc_82 (by decide) ?_
                cases h
                exact q_iret hQ hx hb hr hlocks hP hK hD hS dX5_arc_83
            · have h := ipos c9 h
              refine lv_iconst (v := 3) hx hb dX5_arc_71 (by decide) ?_
              refine lv_goto (tgt := 76) hx hb dX5_arc_72 (by decide) ?_
              obtain ⟨b99, mTh_100, e9, h⟩ := bd2 h
              refine q_callVi (ret := b2i b99) (As := [.int 3]) (w1 := wX5 cyI mo aMF aMT aMW aMU aMP aML aMM aMO aMR aMD aMB aMK mTh_100 mNo mAr mS mG mQ mWa mPa mLa mF mT mW mU mP mL mM mO mR mD mB mK) (ws2 := wX5 cyI mo aMF aMT aMW aMU aMP aML aMM aMO aMR aMD aMB aMK mTh_100 mNo mAr mS mG mQ mWa mPa mLa mF mT mW mU mP mL mM mO mR mD mB mK) ⟨hx, hb, hml, hown, hts⟩ (c_X5_goesWell l dC dI cyI mo aMF aMT aMW aMU aMP aML aMM aMO aMR aMD aMB aMK H.size mTh mNo mAr mS mG mQ mWa mPa mLa mF mT mW mU mP mL mM mO mR mD mB mK 3 _ e9) (cwV 1 hts gX5_arc_X5_goesWell rfl rfl rfl (by decide +kernel) ⟨Nat.le_of_ble_eq_true rfl, Nat.le_of_ble_eq_true rfl⟩) hK hP hD hS hA [0, 1, 2, 3, 4, 5, 6, 7, 8, 9, 10, 11, 12] [] [0, 1, 2, 3, 4, 5, 6, 7, 8, 9, 10, 11, 12] [0] rfl rfl rfl rfl (by decide) rfl rfl rfl 5 0 rfl rfl rfl hl.1 (Nat.le_of_ble_eq_true rfl) (Nat.le_of_ble_eq_true rfl) (Nat.le_of_ble_eq_true rfl) rfl dX5_arc_76 (fun H locs hP hD hS => ?_)
              refine lv_if_ne (tgt := 84) hx hb dX5_arc_79 (by decide) (fun c9 => ?_) (fun c9 => ?_)
              · have h := ineg c9 h
                refine lv_aload_n hx hb dX5_arc_84 rfl (lv_at hl 1 rfl) ?_
                refine va_get (D := (dC, dI)) (ci := 5) (v := .ref aMF) (C := RX5) (T := TX5) (N := 21) hx hb hts k1 hown hK hP 0 rfl rfl 3 (by decide) k0 (fun _ h9 => h9) rfl dX5_arc_85 ?_
                refine lv_aload_n hx hb dX5_arc_88 rfl (lv_at hl 1 rfl) ?_
                refine va_get (D := (dC, dI)) (ci := 5) (v := .int mAr) (C := RX5) (T := TX5) (N := 21) hx hb hts k1 hown hK hP 0 rfl rfl 2 (by decide) k2 (fun _ h9 => h9) rfl dX5_arc_89 ?_
                refine lv_iload_n hx hb dX5_arc_92 rfl (lv_at hl 2 rfl) ?_
                obtain ⟨mF_101, e9, h⟩ := bd h
                refine q_iast (ws2 := wX5 cyI mo aMF aMT aMW aMU aMP aML aMM aMO aMR aMD aMB aMK mTh_100 mNo mAr mS mG mQ mWa mPa mLa mF_101 mT mW mU mP mL mM mO mR mD mB mK) hx hb hK hP hD hS 1 0 rfl rfl e9 dX5_arc_93 rfl (fun H locs hP hD hS => ?_)
                refine lv_aload_n hx hb dX5_arc_94 rfl (lv_at hl 1 rfl) ?_
                refine va_get (D := (dC, dI)) (ci := 5) (v := .ref aMT) (C := RX5) (T := TX5) (N := 21) hx hb hts k1 hown hK hP 0 rfl rfl 4 (by decide) k3 (fun _ h9 => h9) rfl dX5_arc_95 ?_
                refine lv_aload_n hx hb dX5_arc_98 rfl (lv_at hl 1 rfl) ?_
                refine va_get (D := (dC, dI)) (ci := 5) (v := .int mAr) (C := RX5) (T := TX5) (N := 21) hx hb hts k1 hown hK hP 0 rfl rfl 2 (by decide) k2 (fun _ h9 => h9) rfl dX5_arc_99 ?_
                refine lv_iload_n hx hb dX5_arc_102 rfl (lv_at hl 3 rfl) ?_
                obtain ⟨mT_102, e9, h⟩ := bd h
                refine q_iast (ws2 := wX5 cyI mo aMF aMT aMW aMU aMP aML aMM aMO aMR aMD aMB aMK mTh_100 mNo mAr mS mG mQ mWa mPa mLa mF_101 mT_102 mW mU mP mL mM mO mR mD mB mK) hx hb hK hP hD hS 2 0 rfl rfl e9 dX5_arc_103 rfl (fun H locs hP hD hS => ?_)
                refine lv_aload_n hx hb dX5_arc_104 rfl (lv_at hl 1 rfl) ?_
                refine va_get (D := (dC, dI)) (ci := 5) (v := .ref aMP) (C := RX5) (T := TX5) (N := 21) hx hb hts k1 hown hK hP 0 rfl rfl 7 (by decide) k4 (fun _ h9 => h9) rfl dX5_arc_105 ?_
                refine lv_aload_n hx hb dX5_arc_108 rfl (lv_at hl 1 rfl) ?_
                refine va_get (D := (dC, dI)) (ci := 5) (v := .int mAr) (C := RX5) (T := TX5) (N := 21) hx hb hts k1 hown hK hP 0 rfl rfl 2 (by decide) k2 (fun _ h9 => h9) rfl dX5_arc_109 ?_
                refine lv_iconst (v := 0) hx hb dX5_arc_112 (by decide) ?_
                obtain ⟨mP_103, e9, h⟩ := bd h
                refine q_iast (ws2 := wX5 cyI mo aMF aMT aMW aMU aMP aML aMM aMO aMR aMD aMB aMK mTh_100 mNo mAr mS mG mQ mWa mPa mLa mF_101 mT_102 mW mU mP_103 mL mM mO mR mD mB mK) hx hb hK hP hD hS 5 0 rfl rfl e9 dX5_arc_113 rfl (fun H locs hP hD hS => ?_)
                refine lv_aload_n hx hb dX5_arc_114 rfl (lv_at hl 1 rfl) ?_
                refine lv_aload_n hx hb dX5_arc_115 rfl (lv_at hl 1 rfl) ?_
                refine va_get (D := (dC, dI)) (ci := 5) (v := .int mAr) (C := RX5) (T := TX5) (N := 21) hx hb hts k1 hown hK hP 0 rfl rfl 2 (by decide) k2 (fun _ h9 => h9) rfl dX5_arc_116 ?_
                refine lv_iload_n hx hb dX5_arc_119 rfl (lv_at hl 4 rfl) ?_
                refine lv_iload hx hb dX5_arc_120 (lv_at hl 5 rfl) ?_
                obtain ⟨mW_104, mU_105, mP_106, e9, h⟩ := bd3 h
                refine q_callVv (As := [.int mAr, .int p2, .int p3]) (w1 := wX5 cyI mo aMF aMT aMW aMU aMP aML aMM aMO aMR aMD aMB aMK mTh_100 mNo mAr mS mG mQ mWa mPa mLa mF_101 mT_102 mW_104 mU_105 mP_106 mL mM mO mR mD mB mK) (ws2 := wX5 cyI mo aMF aMT aMW aMU aMP aML aMM aMO aMR aMD aMB aMK mTh_100 mNo mAr mS mG mQ mWa mPa mLa mF_101 mT_102 mW_104 mU_105 mP_106 mL mM mO mR mD mB mK) ⟨hx, hb, hml, hown, hts⟩ (c_X5_put l dC dI cyI mo aMF aMT aMW aMU aMP aML aMM aMO aMR aMD aMB aMK H.size mTh_100 mNo mAr mS mG mQ mWa mPa mLa mF_101 mT_102 mW mU mP_103 mL mM mO mR mD mB mK mAr p2 p3 _ e9) (cwV 3 hts gX5_arc_X5_put rfl rfl rfl (by decide +kernel) ⟨Nat.le_of_ble_eq_true rfl, Nat.le_of_ble_eq_true rfl⟩) hK hP hD hS hA [0, 1, 2, 3, 4, 5, 6, 7, 8, 9, 10, 11, 12] [] [0, 1, 2, 3, 4, 5, 6, 7, 8, 9, 10, 11, 12] [0] rfl rfl rfl rfl (by decide) rfl rfl rfl 5 0 rfl rfl rfl hl.1 (Nat.le_of_ble_eq_true rfl) (Nat.le_of_ble_eq_true rfl) (Nat.le_of_ble_eq_true rfl) rfl dX5_arc_122 (fun H locs hP hD hS => ?_)
                refine lv_aload_n hx hb dX5_arc_125 rfl (lv_at hl 1 rfl) ?_
                refine lv_dup hx hb dX5_arc_126 rfl ?_
                refine va_get (D := (dC, dI)) (ci := 5) (v := .int mAr) (C := RX5) (T := TX5) (N := 21) hx hb hts k1 hown hK hP 0 rfl rfl 2 (by decide) k2 (fun _ h9 => h9) rfl dX5_arc_127 ?_
                refine lv_iconst (v := 1) hx hb dX5_arc_130 (by decide) ?_
                refine lv_iadd hx hb dX5_arc_131 ?_
                refine va_put (D := (dC, dI)) (ci := 5) (v := .int (mAr + 1)) (ty := .int) (C := RX5) (T := TX5) (N := 21) hx hb hts k1 tyX5 tyX5_ok nmX5 hown hK hP hD hS 0 rfl rfl 2 (by decide) k2 (fun _ h9 => h9) rfl (by decide +kernel) rfl rfl (Nat.le_of_ble_eq_true rfl) dX5_arc_132 (fun H locs hP hD hS => ?_)
                have hP : va_P (dC, dI) vwCl (wX5 cyI mo aMF aMT aMW aMU aMP aML aMM aMO aMR aMD aMB aMK mTh_100 mNo (mAr + 1) mS mG mQ mWa mPa mLa mF_101 mT_102 mW_104 mU_105 mP_106 mL mM mO mR mD mB mK) H := hP
                have hD : va_D A (wX5 cyI mo aMF aMT aMW aMU aMP aML aMM aMO aMR aMD aMB aMK mTh_100 mNo (mAr + 1) mS mG mQ mWa mPa mLa mF_101 mT_102 mW_104 mU_105 mP_106 mL mM mO mR mD mB mK) := hD
                refine lv_aload_n hx hb dX5_arc_135 rfl (lv_at hl 1 rfl) ?_
                refine va_get (D := (dC, dI)) (ci := 5) (v := .int (mAr + 1)) (C := RX5) (T := TX5) (N := 21) hx hb hts k1 hown hK hP 0 rfl rfl 2 (by decide) k2 (fun _ h9 => h9) rfl dX5_arc_136 ?_
                refine lv_iconst (v := 1) hx hb dX5_arc_139 (by decide) ?_
                refine lv_isub hx hb dX5_arc_140 ?_
                cases h
                exact q_iret hQ hx hb hr hlocks hP hK hD hS dX5_arc_141
              · have h := ipos c9 h
                refine lv_iconst (v := 0) hx hb dX5_arc_82 (by decide) ?_
                cases h
                exact q_iret hQ hx hb hr hlocks hP hK hD hS dX5_arc_83
          · have h := ipos c9 h
            refine lv_iconst (v := 1) hx hb dX5_arc_49 (by decide) ?_
            refine lv_goto (tgt := 76) hx hb dX5_arc_50 (by decide) ?_
            obtain ⟨b107, mTh_108, e9, h⟩ := bd2 h
            refine q_callVi (ret := b2i b107) (As := [.int 1]) (w1 := wX5 cyI mo aMF aMT aMW aMU aMP aML aMM aMO aMR aMD aMB aMK mTh_108 mNo mAr mS mG mQ mWa mPa mLa mF mT mW mU mP mL mM mO mR mD mB mK) (ws2 := wX5 cyI mo aMF aMT aMW aMU aMP aML aMM aMO aMR aMD aMB aMK mTh_108 mNo mAr mS mG mQ mWa mPa mLa mF mT mW mU mP mL mM mO mR mD mB mK) ⟨hx, hb, hml, hown, hts⟩ (c_X5_goesWell l dC dI cyI mo aMF aMT aMW aMU aMP aML aMM aMO aMR aMD aMB aMK H.size mTh mNo mAr mS mG mQ mWa mPa mLa mF mT mW mU mP mL mM mO mR mD mB mK 1 _ e9) (cwV 1 hts gX5_arc_X5_goesWell rfl rfl rfl (by decide +kernel) ⟨Nat.le_of_ble_eq_true rfl, Nat.le_of_ble_eq_true rfl⟩) hK hP hD hS hA [0, 1, 2, 3, 4, 5, 6, 7, 8, 9, 10, 11, 12] [] [0, 1, 2, 3, 4, 5, 6, 7, 8, 9, 10, 11, 12] [0] rfl rfl rfl rfl (by decide) rfl rfl rfl 5 0 rfl rfl rfl hl.1 (Nat.le_of_ble_eq_true rfl) (Nat.le_of_ble_eq_true rfl) (Nat.le_of_ble_eq_true rfl) rfl dX5_arc_76 (fun H locs hP hD hS => ?_)
            refine lv_if_ne (tgt := 84) hx hb dX5_arc_79 (by decide) (fun c9 => ?_) (fun c9 => ?_)
            · have h := ineg c9 h
              refine lv_aload_n hx hb dX5_arc_84 rfl (lv_at hl 1 rfl) ?_
              refine va_get (D := (dC, dI)) (ci := 5) (v := .ref aMF) (C := RX5) (T := TX5) (N := 21) hx hb hts k1 hown hK hP 0 rfl rfl 3 (by decide) k0 (fun _ h9 => h9) rfl dX5_arc_85 ?_
              refine lv_aload_n hx hb dX5_arc_88 rfl (lv_at hl 1 rfl) ?_
              refine va_get (D := (dC, dI)) (ci := 5) (v := .int mAr) (C := RX5) (T := TX5) (N := 21) hx hb hts k1 hown hK hP 0 rfl rfl 2 (by decide) k2 (fun _ h9 => h9) rfl dX5_arc_89 ?_
              refine lv_iload_n hx hb dX5_arc_92 rfl (lv_at hl 2 rfl) ?_
              obtain ⟨mF_109, e9, h⟩ := bd h
              refine q_iast (ws2 := wX5 cyI mo aMF aMT aMW aMU aMP aML aMM aMO aMR aMD aMB aMK mTh_108 mNo mAr mS mG mQ mWa mPa mLa mF_109 mT mW mU mP mL mM mO mR mD mB mK) hx hb hK hP hD hS 1 0 rfl rfl e9 dX5_arc_93 rfl (fun H locs hP hD hS => ?_)
              refine lv_aload_n hx hb dX5_arc_94 rfl (lv_at hl 1 rfl) ?_
              refine va_get (D := (dC, dI)) (ci := 5) (v := .ref aMT) (C := RX5) (T := TX5) (N := 21) hx hb hts k1 hown hK hP 0 rfl rfl 4 (by decide) k3 (fun _ h9 => h9) rfl dX5_arc_95 ?_
              refine lv_aload_n hx hb dX5_arc_98 rfl (lv_at hl 1 rfl) ?_
              refine va_get (D := (dC, dI)) (ci := 5) (v := .int mAr) (C := RX5) (T := TX5) (N := 21) hx hb hts k1 hown hK hP 0 rfl rfl 2 (by decide) k2 (fun _ h9 => h9) rfl dX5_arc_99 ?_
              refine lv_iload_n hx hb dX5_arc_102 rfl (lv_at hl 3 rfl) ?_
              obtain ⟨mT_110, e9, h⟩ := bd h
              refine q_iast (ws2 := wX5 cyI mo aMF aMT aMW aMU aMP aML aMM aMO aMR aMD aMB aMK mTh_108 mNo mAr mS mG mQ mWa mPa mLa mF_109 mT_110 mW mU mP mL mM mO mR mD mB mK) hx hb hK hP hD hS 2 0 rfl rfl e9 dX5_arc_103 rfl (fun H locs hP hD hS => ?_)
              refine lv_aload_n hx hb dX5_arc_104 rfl (lv_at hl 1 rfl) ?_
              refine va_get (D := (dC, dI)) (ci := 5) (v := .ref aMP) (C := RX5) (T := TX5) (N := 21) hx hb hts k1 hown hK hP 0 rfl rfl 7 (by decide) k4 (fun _ h9 => h9) rfl dX5_arc_105 ?_
              refine lv_aload_n hx hb dX5_arc_108 rfl (lv_at hl 1 rfl) ?_
              refine va_get (D := (dC, dI)) (ci := 5) (v := .int mAr) (C := RX5) (T := TX5) (N := 21) hx hb hts k1 hown hK hP 0 rfl rfl 2 (by decide) k2 (fun _ h9 => h9) rfl dX5_arc_109 ?_
              refine lv_iconst (v := 0) hx hb dX5_arc_112 (by decide) ?_
              obtain ⟨mP_111, e9, h⟩ := bd h
              refine q_iast (ws2 := wX5 cyI mo aMF aMT aMW aMU aMP aML aMM aMO aMR aMD aMB aMK mTh_108 mNo mAr mS mG mQ mWa mPa mLa mF_109 mT_110 mW mU mP_111 mL mM mO mR mD mB mK) hx hb hK hP hD hS 5 0 rfl rfl e9 dX5_arc_113 rfl (fun H locs hP hD hS => ?_)
              refine lv_aload_n hx hb dX5_arc_114 rfl (lv_at hl 1 rfl) ?_
              refine lv_aload_n hx hb dX5_arc_115 rfl (lv_at hl 1 rfl) ?_
              refine va_get (D := (dC, dI)) (ci := 5) (v := .int mAr) (C := RX5) (T := TX5) (N := 21) hx hb hts k1 hown hK hP 0 rfl rfl 2 (by decide) k2 (fun _ h9 => h9) rfl dX5_arc_116 ?_
              refine lv_iload_n hx hb dX5_arc_119 rfl (lv_at hl 4 rfl) ?_
              refine lv_iload hx hb dX5_arc_120 (lv_at hl 5 rfl) ?_
              obtain ⟨mW_112, mU_113, mP_114, e9, h⟩ := bd3 h
              refine q_callVv (As := [.int mAr, .int p2, .int p3]) (w1 := wX5 cyI mo aMF aMT aMW aMU aMP aML aMM aMO aMR aMD aMB aMK mTh_108 mNo mAr mS mG mQ mWa mPa mLa mF_109 mT_110 mW_112 mU_113 mP_114 mL mM mO mR mD mB mK) (ws2 := wX5 cyI mo aMF aMT aMW aMU aMP aML aMM aMO aMR aMD aMB aMK mTh_108 mNo mAr mS mG mQ mWa mPa mLa mF_109 mT_110 mW_112 mU_113 mP_114 mL mM mO mR mD mB mK) ⟨hx, hb, hml, hown, hts⟩ (c_X5_put l dC dI cyI mo aMF aMT aMW aMU aMP aML aMM aMO aMR aMD aMB aMK H.size mTh_108 mNo mAr mS mG mQ mWa mPa mLa mF_109 mT_110 mW mU mP_111 mL mM mO mR mD mB mK mAr p2 p3 _ e9) (cwV 3 hts gX5_arc_X5_put rfl rfl rfl (by decide +kernel) ⟨Nat.le_of_ble_eq_true rfl, Nat.le_of_ble_eq_true rfl⟩) hK hP hD hS hA [0, 1, 2, 3, 4, 5, 6, 7, 8, 9, 10, 11, 12] [] [0, 1, 2, 3, 4, 5, 6, 7, 8, 9, 10, 11, 12] [0] rfl rfl rfl rfl (by decide) rfl rfl rfl 5 0 rfl rfl rfl hl.1 (Nat.le_of_ble_eq_true rfl) (Nat.le_of_ble_eq_true rfl) (Nat.le_of_ble_eq_true rfl) rfl dX5_arc_122 (fun H locs hP hD hS => ?_)
              refine lv_aload_n hx hb dX5_arc_125 rfl (lv_at hl 1 rfl) ?_
              refine lv_dup hx hb dX5_arc_126 rfl ?_
              refine va_get (D := (dC, dI)) (ci := 5) (v := .int mAr) (C := RX5) (T := TX5) (N := 21) hx hb hts k1 hown hK hP 0 rfl rfl 2 (by decide) k2 (fun _ h9 => h9) rfl dX5_arc_127 ?_
              refine lv_iconst (v := 1) hx hb dX5_arc_130 (by decide) ?_
              refine lv_iadd hx hb dX5_arc_131 ?_
              refine va_put (D := (dC, dI)) (ci := 5) (v := .int (mAr + 1)) (ty := .int) (C := RX5) (T := TX5) (N := 21) hx hb hts k1 tyX5 tyX5_ok nmX5 hown hK hP hD hS 0 rfl rfl 2 (by decide) k2 (fun _ h9 => h9) rfl (by decide +kernel) rfl rfl (Nat.le_of_ble_eq_true rfl) dX5_arc_132 (fun H locs hP hD hS => ?_)
              have hP : va_P (dC, dI) vwCl (wX5 cyI mo aMF aMT aMW aMU aMP aML aMM aMO aMR aMD aMB aMK mTh_108 mNo (mAr + 1) mS mG mQ mWa mPa mLa mF_109 mT_110 mW_112 mU_113 mP_114 mL mM mO mR mD mB mK) H := hP
              have hD : va_D A (wX5 cyI mo aMF aMT aMW aMU aMP aML aMM aMO aMR aMD aMB aMK mTh_108 mNo (mAr + 1) mS mG mQ mWa mPa mLa mF_109 mT_110 mW_112 mU_113 mP_114 mL mM mO mR mD mB mK) := hD
              refine lv_aload_n hx hb dX5_arc_135 rfl (lv_at hl 1 rfl) ?_
              refine va_get (D := (dC, dI)) (ci := 5) (v := .int (mAr + 1)) (C := RX5) (T := TX5) (N := 21) hx hb hts k1 hown hK hP 0 rfl rfl 2 (by decide) k2 (fun _ h9 => h9) rfl dX5_arc_136 ?_
              refine lv_iconst (v := 1) hx hb dX5_arc_139 (by decide) ?_
              refine lv_isub hx hb dX5_arc_140 ?_
              cases h
              exact q_iret hQ hx hb hr hlocks hP hK hD hS dX5_arc_141
            · have h := ipos c9 h
              refine lv_iconst (v := 0) hx hb dX5_arc_82 (by decide) ?_
              cases h
              exact q_iret hQ hx hb hr hlocks hP hK hD hS dX5_arc_83
set_option maxHeartbeats 4000000 in
set_option maxRecDepth 100000 in
theorem c_X5_piece (l : Launch) (dC : Nat → ClassId) (dI : Nat → Nat → Nat) (cyI : ClassId) (mo aMF aMT aMW aMU aMP aML aMM aMO aMR aMD aMB aMK : Nat) (sz : Nat) (mTh mNo mAr mS mG mQ mWa mPa mLa : Int32) (mF mT mW mU mP mL mM mO mR mD mB mK : Nat → Int32) (p0 p1 p2 : Int32) (N : Nat) (res : Int32 × Int32 × (Nat → Int32) × (Nat → Int32) × (Nat → Int32)) (h : pX5_piece N mAr mW mU mP p0 p1 p2 = some res) : Met l yX5_piece wsX5_piece { frames := 2, cells := 0, slots := 0, locals := 43 } (va_Pc [.ref mo, .int p0, .int p1, .int p2] (zPre (dC, dI) (wX5 cyI mo aMF aMT aMW aMU aMP aML aMM aMO aMR aMD aMB aMK mTh mNo mAr mS mG mQ mWa mPa mLa mF mT mW mU mP mL mM mO mR mD mB mK) [(cyI, .int)] sz)) (zQi (dC, dI) (wX5 cyI mo aMF aMT aMW aMU aMP aML aMM aMO aMR aMD aMB aMK res.2.1 mNo mAr mS mG mQ mWa mPa mLa mF mT res.2.2.1 res.2.2.2.1 res.2.2.2.2 mL mM mO mR mD mB mK) [(cyI, .int)] (res.1) (va_A (wX5 cyI mo aMF aMT aMW aMU aMP aML aMM aMO aMR aMD aMB aMK mTh mNo mAr mS mG mQ mWa mPa mLa mF mT mW mU mP mL mM mO mR mD mB mK) sz)) 0 0 (va_A (wX5 cyI mo aMF aMT aMW aMU aMP aML aMM aMO aMR aMD aMB aMK mTh mNo mAr mS mG mQ mWa mPa mLa mF mT mW mU mP mL mM mO mR mD mB mK) sz) := by
  refine q_ofWi (cc := cX5_piece) (maxL := 5) (rt := (some .int)) (by decide) rfl (Nat.le_of_ble_eq_true rfl) ?_
  intro p e s m args below meth c ls A Q H locs hQ hx hb hr hts hown hlocks hml hA hK hP hD hS hl
  have hl : lv_has ls 5 [(0, .ref mo), (1, .int p0), (2, .int p1), (3, .int p2)] := hl
  have k0 := hts (.fieldLink RX5 19 "ConvexConduitModel" "prices" "[I") (by decide +kernel)
  have k1 : ∀ w ∈ u_ws RX5 TX5 21, w ∈ wsX5_piece := by decide +kernel
  have k2 := hts (.fieldLink RX5 22 "ConvexConduitModel" "pieces" "[I") (by decide +kernel)
  unfold pX5_piece at h
  refine lv_aload_n hx hb dX5_piece_0 rfl (lv_at hl 0 rfl) ?_
  refine lv_iload_n hx hb dX5_piece_1 rfl (lv_at hl 1 rfl) ?_
  obtain ⟨b1, e9, h⟩ := bd h
  refine q_callVi (ret := b2i b1) (As := [.int p0]) (w1 := wX5 cyI mo aMF aMT aMW aMU aMP aML aMM aMO aMR aMD aMB aMK mTh mNo mAr mS mG mQ mWa mPa mLa mF mT mW mU mP mL mM mO mR mD mB mK) (ws2 := wX5 cyI mo aMF aMT aMW aMU aMP aML aMM aMO aMR aMD aMB aMK mTh mNo mAr mS mG mQ mWa mPa mLa mF mT mW mU mP mL mM mO mR mD mB mK) ⟨hx, hb, hml, hown, hts⟩ (c_X5_isArc l dC dI cyI mo aMF aMT aMW aMU aMP aML aMM aMO aMR aMD aMB aMK H.size mTh mNo mAr mS mG mQ mWa mPa mLa mF mT mW mU mP mL mM mO mR mD mB mK p0 _ e9) (cwV 1 hts gX5_piece_X5_isArc rfl rfl rfl (by decide +kernel) ⟨Nat.le_of_ble_eq_true rfl, Nat.le_of_ble_eq_true rfl⟩) hK hP hD hS hA [0, 1, 2, 3, 4, 5, 6, 7, 8, 9, 10, 11, 12] [] [0, 1, 2, 3, 4, 5, 6, 7, 8, 9, 10, 11, 12] [0] rfl rfl rfl rfl (by decide) rfl rfl rfl 5 0 rfl rfl rfl hl.1 (Nat.le_of_ble_eq_true rfl) (Nat.le_of_ble_eq_true rfl) (Nat.le_of_ble_eq_true rfl) rfl dX5_piece_2 (fun H locs hP hD hS => ?_)
  refine lv_if_eq (tgt := 47) hx hb dX5_piece_5 (by decide) (fun c9 => ?_) (fun c9 => ?_)
  · have h := ipos c9 h
    refine lv_iconst (v := 0) hx hb dX5_piece_47 (by decide) ?_
    refine lv_istore (lv' := [(4, .int 0), (0, .ref mo), (1, .int p0), (2, .int p1), (3, .int p2)]) hx hb dX5_piece_48 hl (by decide) rfl (fun ls hl => ?_)
    refine lv_aload_n hx hb dX5_piece_50 rfl (lv_at hl 1 rfl) ?_
    refine lv_aload_n hx hb dX5_piece_51 rfl (lv_at hl 1 rfl) ?_
    refine lv_iload_n hx hb dX5_piece_52 rfl (lv_at hl 2 rfl) ?_
    obtain ⟨b2, e9, h⟩ := bd h
    refine q_callVi (ret := b2i b2) (As := [.int p0]) (w1 := wX5 cyI mo aMF aMT aMW aMU aMP aML aMM aMO aMR aMD aMB aMK mTh mNo mAr mS mG mQ mWa mPa mLa mF mT mW mU mP mL mM mO mR mD mB mK) (ws2 := wX5 cyI mo aMF aMT aMW aMU aMP aML aMM aMO aMR aMD aMB aMK mTh mNo mAr mS mG mQ mWa mPa mLa mF mT mW mU mP mL mM mO mR mD mB mK) ⟨hx, hb, hml, hown, hts⟩ (c_X5_isArc l dC dI cyI mo aMF aMT aMW aMU aMP aML aMM aMO aMR aMD aMB aMK H.size mTh mNo mAr mS mG mQ mWa mPa mLa mF mT mW mU mP mL mM mO mR mD mB mK p0 _ e9) (cwV 1 hts gX5_piece_X5_isArc rfl rfl rfl (by decide +kernel) ⟨Nat.le_of_ble_eq_true rfl, Nat.le_of_ble_eq_true rfl⟩) hK hP hD hS hA [0, 1, 2, 3, 4, 5, 6, 7, 8, 9, 10, 11, 12] [] [0, 1, 2, 3, 4, 5, 6, 7, 8, 9, 10, 11, 12] [0] rfl rfl rfl rfl (by decide) rfl rfl rfl 5 0 rfl rfl rfl hl.1 (Nat.le_of_ble_eq_true rfl) (Nat.le_of_ble_eq_true rfl) (Nat.le_of_ble_eq_true rfl) rfl dX5_piece_53 (fun H locs hP hD hS => ?_)
    refine lv_if_ne (tgt := 63) hx hb dX5_piece_56 (by decide) (fun c9 => ?_) (fun c9 => ?_)
    · have h := ineg c9 h
      refine lv_iload hx hb dX5_piece_63 (lv_at hl 0 rfl) ?_
      refine lv_if_ne (tgt := 72) hx hb dX5_piece_65 (by decide) (fun c9 => absurd (by decide) c9) (fun _ => ?_)
      refine lv_iconst (v := 2) hx hb dX5_piece_68 (by decide) ?_
      refine lv_goto (tgt := 87) hx hb dX5_piece_69 (by decide) ?_
      obtain ⟨b3, mTh_4, e9, h⟩ := bd2 h
      refine q_callVi (ret := b2i b3) (As := [.int 2]) (w1 := wX5 cyI mo aMF aMT aMW aMU aMP aML aMM aMO aMR aMD aMB aMK mTh_4 mNo mAr mS mG mQ mWa mPa mLa mF mT mW mU mP mL mM mO mR mD mB mK) (ws2 := wX5 cyI mo aMF aMT aMW aMU aMP aML aMM aMO aMR aMD aMB aMK mTh_4 mNo mAr mS mG mQ mWa mPa mLa mF mT mW mU mP mL mM mO mR mD mB mK) ⟨hx, hb, hml, hown, hts⟩ (c_X5_goesWell l dC dI cyI mo aMF aMT aMW aMU aMP aML aMM aMO aMR aMD aMB aMK H.size mTh mNo mAr mS mG mQ mWa mPa mLa mF mT mW mU mP mL mM mO mR mD mB mK 2 _ e9) (cwV 1 hts gX5_piece_X5_goesWell rfl rfl rfl (by decide +kernel) ⟨Nat.le_of_ble_eq_true rfl, Nat.le_of_ble_eq_true rfl⟩) hK hP hD hS hA [0, 1, 2, 3, 4, 5, 6, 7, 8, 9, 10, 11, 12] [] [0, 1, 2, 3, 4, 5, 6, 7, 8, 9, 10, 11, 12] [0] rfl rfl rfl rfl (by decide) rfl rfl rfl 5 0 rfl rfl rfl hl.1 (Nat.le_of_ble_eq_true rfl) (Nat.le_of_ble_eq_true rfl) (Nat.le_of_ble_eq_true rfl) rfl dX5_piece_87 (fun H locs hP hD hS => ?_)
      refine lv_if_ne (tgt := 95) hx hb dX5_piece_90 (by decide) (fun c9 => ?_) (fun c9 => ?_)
      · have h := ineg c9 h
        refine lv_aload_n hx hb dX5_piece_95 rfl (lv_at hl 1 rfl) ?_
        refine lv_iload_n hx hb dX5_piece_96 rfl (lv_at hl 2 rfl) ?_
        refine lv_iload_n hx hb dX5_piece_97 rfl (lv_at hl 3 rfl) ?_
        refine lv_iload_n hx hb dX5_piece_98 rfl (lv_at hl 4 rfl) ?_
        obtain ⟨mW_5, mU_6, mP_7, e9, h⟩ := bd3 h
        refine q_callVv (As := [.int p0, .int p1, .int p2]) (w1 := wX5 cyI mo aMF aMT aMW aMU aMP aML aMM aMO aMR aMD aMB aMK mTh_4 mNo mAr mS mG mQ mWa mPa mLa mF mT mW_5 mU_6 mP_7 mL mM mO mR mD mB mK) (ws2 := wX5 cyI mo aMF aMT aMW aMU aMP aML aMM aMO aMR aMD aMB aMK mTh_4 mNo mAr mS mG mQ mWa mPa mLa mF mT mW_5 mU_6 mP_7 mL mM mO mR mD mB mK) ⟨hx, hb, hml, hown, hts⟩ (c_X5_put l dC dI cyI mo aMF aMT aMW aMU aMP aML aMM aMO aMR aMD aMB aMK H.size mTh_4 mNo mAr mS mG mQ mWa mPa mLa mF mT mW mU mP mL mM mO mR mD mB mK p0 p1 p2 _ e9) (cwV 3 hts gX5_piece_X5_put rfl rfl rfl (by decide +kernel) ⟨Nat.le_of_ble_eq_true rfl, Nat.le_of_ble_eq_true rfl⟩) hK hP hD hS hA [0, 1, 2, 3, 4, 5, 6, 7, 8, 9, 10, 11, 12] [] [0, 1, 2, 3, 4, 5, 6, 7, 8, 9, 10, 11, 12] [0] rfl rfl rfl rfl (by decide) rfl rfl rfl 5 0 rfl rfl rfl hl.1 (Nat.le_of_ble_eq_true rfl) (Nat.le_of_ble_eq_true rfl) (Nat.le_of_ble_eq_true rfl) rfl dX5_piece_99 (fun H locs hP hD hS => ?_)
        refine lv_aload_n hx hb dX5_piece_102 rfl (lv_at hl 1 rfl) ?_
        refine lv_iload_n hx hb dX5_piece_103 rfl (lv_at hl 2 rfl) ?_
        obtain ⟨r8, e9, h⟩ := bd h
        refine q_callVi (ret := r8) (As := [.int p0]) (w1 := wX5 cyI mo aMF aMT aMW aMU aMP aML aMM aMO aMR aMD aMB aMK mTh_4 mNo mAr mS mG mQ mWa mPa mLa mF mT mW_5 mU_6 mP_7 mL mM mO mR mD mB mK) (ws2 := wX5 cyI mo aMF aMT aMW aMU aMP aML aMM aMO aMR aMD aMB aMK mTh_4 mNo mAr mS mG mQ mWa mPa mLa mF mT mW_5 mU_6 mP_7 mL mM mO mR mD mB mK) ⟨hx, hb, hml, hown, hts⟩ (c_X5_capacityOf l dC dI cyI mo aMF aMT aMW aMU aMP aML aMM aMO aMR aMD aMB aMK H.size mTh_4 mNo mAr mS mG mQ mWa mPa mLa mF mT mW_5 mU_6 mP_7 mL mM mO mR mD mB mK p0 N _ e9) (cwV 1 hts gX5_piece_X5_capacityOf rfl rfl rfl (by decide +kernel) ⟨Nat.le_of_ble_eq_true rfl, Nat.le_of_ble_eq_true rfl⟩) hK hP hD hS hA [0, 1, 2, 3, 4, 5, 6, 7, 8, 9, 10, 11, 12] [] [0, 1, 2, 3, 4, 5, 6, 7, 8, 9, 10, 11, 12] [0] rfl rfl rfl rfl (by decide) rfl rfl rfl 5 0 rfl rfl rfl hl.1 (Nat.le_of_ble_eq_true rfl) (Nat.le_of_ble_eq_true rfl) (Nat.le_of_ble_eq_true rfl) rfl dX5_piece_104 (fun H locs hP hD hS => ?_)
        cases h
        exact q_iret hQ hx hb hr hlocks hP hK hD hS dX5_piece_107
      · have h := ipos c9 h
        refine lv_iconst (v := 0) hx hb dX5_piece_93 (by decide) ?_
        cases h
        exact q_iret hQ hx hb hr hlocks hP hK hD hS dX5_piece_94
    · have h := ipos c9 h
      refine lv_iconst (v := 1) hx hb dX5_piece_59 (by decide) ?_
      refine lv_goto (tgt := 87) hx hb dX5_piece_60 (by decide) ?_
      obtain ⟨b9, mTh_10, e9, h⟩ := bd2 h
      refine q_callVi (ret := b2i b9) (As := [.int 1]) (w1 := wX5 cyI mo aMF aMT aMW aMU aMP aML aMM aMO aMR aMD aMB aMK mTh_10 mNo mAr mS mG mQ mWa mPa mLa mF mT mW mU mP mL mM mO mR mD mB mK) (ws2 := wX5 cyI mo aMF aMT aMW aMU aMP aML aMM aMO aMR aMD aMB aMK mTh_10 mNo mAr mS mG mQ mWa mPa mLa mF mT mW mU mP mL mM mO mR mD mB mK) ⟨hx, hb, hml, hown, hts⟩ (c_X5_goesWell l dC dI cyI mo aMF aMT aMW aMU aMP aML aMM aMO aMR aMD aMB aMK H.size mTh mNo mAr mS mG mQ mWa mPa mLa mF mT mW mU mP mL mM mO mR mD mB mK 1 _ e9) (cwV 1 hts gX5_piece_X5_goesWell rfl rfl rfl (by decide +kernel) ⟨Nat.le_of_ble_eq_true rfl, Nat.le_of_ble_eq_true rfl⟩) hK hP hD hS hA [0, 1, 2, 3, 4, 5, 6, 7, 8, 9, 10, 11, 12] [] [0, 1, 2, 3, 4, 5, 6, 7, 8, 9, 10, 11, 12] [0] rfl rfl rfl rfl (by decide) rfl rfl rfl 5 0 rfl rfl rfl hl.1 (Nat.le_of_ble_eq_true rfl) (Nat.le_of_ble_eq_true rfl) (Nat.le_of_ble_eq_true rfl) rfl dX5_piece_87 (fun H locs hP hD hS => ?_)
      refine lv_if_ne (tgt := 95) hx hb dX5_piece_90 (by decide) (fun c9 => ?_) (fun c9 => ?_)
      · have h := ineg c9 h
        refine lv_aload_n hx hb dX5_piece_95 rfl (lv_at hl 1 rfl) ?_
        refine lv_iload_n hx hb dX5_piece_96 rfl (lv_at hl 2 rfl) ?_
        refine lv_iload_n hx hb dX5_piece_97 rfl (lv_at hl 3 rfl) ?_
        refine lv_iload_n hx hb dX5_piece_98 rfl (lv_at hl 4 rfl) ?_
        obtain ⟨mW_11, mU_12, mP_13, e9, h⟩ := bd3 h
        refine q_callVv (As := [.int p0, .int p1, .int p2]) (w1 := wX5 cyI mo aMF aMT aMW aMU aMP aML aMM aMO aMR aMD aMB aMK mTh_10 mNo mAr mS mG mQ mWa mPa mLa mF mT mW_11 mU_12 mP_13 mL mM mO mR mD mB mK) (ws2 := wX5 cyI mo aMF aMT aMW aMU aMP aML aMM aMO aMR aMD aMB aMK mTh_10 mNo mAr mS mG mQ mWa mPa mLa mF mT mW_11 mU_12 mP_13 mL mM mO mR mD mB mK) ⟨hx, hb, hml, hown, hts⟩ (c_X5_put l dC dI cyI mo aMF aMT aMW aMU aMP aML aMM aMO aMR aMD aMB aMK H.size mTh_10 mNo mAr mS mG mQ mWa mPa mLa mF mT mW mU mP mL mM mO mR mD mB mK p0 p1 p2 _ e9) (cwV 3 hts gX5_piece_X5_put rfl rfl rfl (by decide +kernel) ⟨Nat.le_of_ble_eq_true rfl, Nat.le_of_ble_eq_true rfl⟩) hK hP hD hS hA [0, 1, 2, 3, 4, 5, 6, 7, 8, 9, 10, 11, 12] [] [0, 1, 2, 3, 4, 5, 6, 7, 8, 9, 10, 11, 12] [0] rfl rfl rfl rfl (by decide) rfl rfl rfl 5 0 rfl rfl rfl hl.1 (Nat.le_of_ble_eq_true rfl) (Nat.le_of_ble_eq_true rfl) (Nat.le_of_ble_eq_true rfl) rfl dX5_piece_99 (fun H locs hP hD hS => ?_)
        refine lv_aload_n hx hb dX5_piece_102 rfl (lv_at hl 1 rfl) ?_
        refine lv_iload_n hx hb dX5_piece_103 rfl (lv_at hl 2 rfl) ?_
        obtain ⟨r14, e9, h⟩ := bd h
        refine q_callVi (ret := r14) (As := [.int p0]) (w1 := wX5 cyI mo aMF aMT aMW aMU aMP aML aMM aMO aMR aMD aMB aMK mTh_10 mNo mAr mS mG mQ mWa mPa mLa mF mT mW_11 mU_12 mP_13 mL mM mO mR mD mB mK) (ws2 := wX5 cyI mo aMF aMT aMW aMU aMP aML aMM aMO aMR aMD aMB aMK mTh_10 mNo mAr mS mG mQ mWa mPa mLa mF mT mW_11 mU_12 mP_13 mL mM mO mR mD mB mK) ⟨hx, hb, hml, hown, hts⟩ (c_X5_capacityOf l dC dI cyI mo aMF aMT aMW aMU aMP aML aMM aMO aMR aMD aMB aMK H.size mTh_10 mNo mAr mS mG mQ mWa mPa mLa mF mT mW_11 mU_12 mP_13 mL mM mO mR mD mB mK p0 N _ e9) (cwV 1 hts gX5_piece_X5_capacityOf rfl rfl rfl (by decide +kernel) ⟨Nat.le_of_ble_eq_true rfl, Nat.le_of_ble_eq_true rfl⟩) hK hP hD hS hA [0, 1, 2, 3, 4, 5, 6, 7, 8, 9, 10, 11, 12] [] [0, 1, 2, 3, 4, 5, 6, 7, 8, 9, 10, 11, 12] [0] rfl rfl rfl rfl (by decide) rfl rfl rfl 5 0 rfl rfl rfl hl.1 (Nat.le_of_ble_eq_true rfl) (Nat.le_of_ble_eq_true rfl) (Nat.le_of_ble_eq_true rfl) rfl dX5_piece_104 (fun H locs hP hD hS => ?_)
        cases h
        exact q_iret hQ hx hb hr hlocks hP hK hD hS dX5_piece_107
      · have h := ipos c9 h
        refine lv_iconst (v := 0) hx hb dX5_piece_93 (by decide) ?_
        cases h
        exact q_iret hQ hx hb hr hlocks hP hK hD hS dX5_piece_94
  · have h := ineg c9 h
    refine lv_iload_n hx hb dX5_piece_8 rfl (lv_at hl 2 rfl) ?_
    refine lv_iconst (v := 1) hx hb dX5_piece_9 (by decide) ?_
    refine lv_iconst (v := 5) hx hb dX5_piece_10 (by decide) ?_
    obtain ⟨b15, e9, h⟩ := bd h
    refine q_callSi (ret := b2i b15) (As := [.int p1, .int 1, .int 5]) ⟨hx, hb, hml, hown, hts⟩ (c_X5_in l dC dI H.size p1 1 5 _ e9) (va_cwS 3 hts gX5_piece_X5_in rfl rfl rfl (by decide +kernel) ⟨Nat.le_of_ble_eq_true rfl, Nat.le_of_ble_eq_true rfl⟩) hK hP hD hS hA [0, 1, 2, 3, 4, 5, 6, 7, 8, 9, 10, 11, 12] rfl rfl rfl hl.1 (Nat.le_of_ble_eq_true rfl) (Nat.le_of_ble_eq_true rfl) (Nat.le_of_ble_eq_true rfl) rfl dX5_piece_11 (fun H locs hP hD hS => ?_)
    refine lv_if_eq (tgt := 47) hx hb dX5_piece_14 (by decide) (fun c9 => ?_) (fun c9 => ?_)
    · have h := ipos c9 h
      refine lv_iconst (v := 0) hx hb dX5_piece_47 (by decide) ?_
      refine lv_istore (lv' := [(4, .int 0), (0, .ref mo), (1, .int p0), (2, .int p1), (3, .int p2)]) hx hb dX5_piece_48 hl (by decide) rfl (fun ls hl => ?_)
      refine lv_aload_n hx hb dX5_piece_50 rfl (lv_at hl 1 rfl) ?_
      refine lv_aload_n hx hb dX5_piece_51 rfl (lv_at hl 1 rfl) ?_
      refine lv_iload_n hx hb dX5_piece_52 rfl (lv_at hl 2 rfl) ?_
      obtain ⟨b16, e9, h⟩ := bd h
      refine q_callVi (ret := b2i b16) (As := [.int p0]) (w1 := wX5 cyI mo aMF aMT aMW aMU aMP aML aMM aMO aMR aMD aMB aMK mTh mNo mAr mS mG mQ mWa mPa mLa mF mT mW mU mP mL mM mO mR mD mB mK) (ws2 := wX5 cyI mo aMF aMT aMW aMU aMP aML aMM aMO aMR aMD aMB aMK mTh mNo mAr mS mG mQ mWa mPa mLa mF mT mW mU mP mL mM mO mR mD mB mK) ⟨hx, hb, hml, hown, hts⟩ (c_X5_isArc l dC dI cyI mo aMF aMT aMW aMU aMP aML aMM aMO aMR aMD aMB aMK H.size mTh mNo mAr mS mG mQ mWa mPa mLa mF mT mW mU mP mL mM mO mR mD mB mK p0 _ e9) (cwV 1 hts gX5_piece_X5_isArc rfl rfl rfl (by decide +kernel) ⟨Nat.le_of_ble_eq_true rfl, Nat.le_of_ble_eq_true rfl⟩) hK hP hD hS hA [0, 1, 2, 3, 4, 5, 6, 7, 8, 9, 10, 11, 12] [] [0, 1, 2, 3, 4, 5, 6, 7, 8, 9, 10, 11, 12] [0] rfl rfl rfl rfl (by decide) rfl rfl rfl 5 0 rfl rfl rfl hl.1 (Nat.le_of_ble_eq_true rfl) (Nat.le_of_ble_eq_true rfl) (Nat.le_of_ble_eq_true rfl) rfl dX5_piece_53 (fun H locs hP hD hS => ?_)
      refine lv_if_ne (tgt := 63) hx hb dX5_piece_56 (by decide) (fun c9 => ?_) (fun c9 => ?_)
      · have h := ineg c9 h
        refine lv_iload hx hb dX5_piece_63 (lv_at hl 0 rfl) ?_
        refine lv_if_ne (tgt := 72) hx hb dX5_piece_65 (by decide) (fun c9 => absurd (by decide) c9) (fun _ => ?_)
        refine lv_iconst (v := 2) hx hb dX5_piece_68 (by decide) ?_
        refine lv_goto (tgt := 87) hx hb dX5_piece_69 (by decide) ?_
        obtain ⟨b17, mTh_18, e9, h⟩ := bd2 h
        refine q_callVi (ret := b2i b17) (As := [.int 2]) (w1 := wX5 cyI mo aMF aMT aMW aMU aMP aML aMM aMO aMR aMD aMB aMK mTh_18 mNo mAr mS mG mQ mWa mPa mLa mF mT mW mU mP mL mM mO mR mD mB mK) (ws2 := wX5 cyI mo aMF aMT aMW aMU aMP aML aMM aMO aMR aMD aMB aMK mTh_18 mNo mAr mS mG mQ mWa mPa mLa mF mT mW mU mP mL mM mO mR mD mB mK) ⟨hx, hb, hml, hown, hts⟩ (c_X5_goesWell l dC dI cyI mo aMF aMT aMW aMU aMP aML aMM aMO aMR aMD aMB aMK H.size mTh mNo mAr mS mG mQ mWa mPa mLa mF mT mW mU mP mL mM mO mR mD mB mK 2 _ e9) (cwV 1 hts gX5_piece_X5_goesWell rfl rfl rfl (by decide +kernel) ⟨Nat.le_of_ble_eq_true rfl, Nat.le_of_ble_eq_true rfl⟩) hK hP hD hS hA [0, 1, 2, 3, 4, 5, 6, 7, 8, 9, 10, 11, 12] [] [0, 1, 2, 3, 4, 5, 6, 7, 8, 9, 10, 11, 12] [0] rfl rfl rfl rfl (by decide) rfl rfl rfl 5 0 rfl rfl rfl hl.1 (Nat.le_of_ble_eq_true rfl) (Nat.le_of_ble_eq_true rfl) (Nat.le_of_ble_eq_true rfl) rfl dX5_piece_87 (fun H locs hP hD hS => ?_)
        refine lv_if_ne (tgt := 95) hx hb dX5_piece_90 (by decide) (fun c9 => ?_) (fun c9 => ?_)
        · have h := ineg c9 h
          refine lv_aload_n hx hb dX5_piece_95 rfl (lv_at hl 1 rfl) ?_
          refine lv_iload_n hx hb dX5_piece_96 rfl (lv_at hl 2 rfl) ?_
          refine lv_iload_n hx hb dX5_piece_97 rfl (lv_at hl 3 rfl) ?_
          refine lv_iload_n hx hb dX5_piece_98 rfl (lv_at hl 4 rfl) ?_
          obtain ⟨mW_19, mU_20, mP_21, e9, h⟩ := bd3 h
          refine q_callVv (As := [.int p0, .int p1, .int p2]) (w1 := wX5 cyI mo aMF aMT aMW aMU aMP aML aMM aMO aMR aMD aMB aMK mTh_18 mNo mAr mS mG mQ mWa mPa mLa mF mT mW_19 mU_20 mP_21 mL mM mO mR mD mB mK) (ws2 := wX5 cyI mo aMF aMT aMW aMU aMP aML aMM aMO aMR aMD aMB aMK mTh_18 mNo mAr mS mG mQ mWa mPa mLa mF mT mW_19 mU_20 mP_21 mL mM mO mR mD mB mK) ⟨hx, hb, hml, hown, hts⟩ (c_X5_put l dC dI cyI mo aMF aMT aMW aMU aMP aML aMM aMO aMR aMD aMB aMK H.size mTh_18 mNo mAr mS mG mQ mWa mPa mLa mF mT mW mU mP mL mM mO mR mD mB mK p0 p1 p2 _ e9) (cwV 3 hts gX5_piece_X5_put rfl rfl rfl (by decide +kernel) ⟨Nat.le_of_ble_eq_true rfl, Nat.le_of_ble_eq_true rfl⟩) hK hP hD hS hA [0, 1, 2, 3, 4, 5, 6, 7, 8, 9, 10, 11, 12] [] [0, 1, 2, 3, 4, 5, 6, 7, 8, 9, 10, 11, 12] [0] rfl rfl rfl rfl (by decide) rfl rfl rfl 5 0 rfl rfl rfl hl.1 (Nat.le_of_ble_eq_true rfl) (Nat.le_of_ble_eq_true rfl) (Nat.le_of_ble_eq_true rfl) rfl dX5_piece_99 (fun H locs hP hD hS => ?_)
          refine lv_aload_n hx hb dX5_piece_102 rfl (lv_at hl 1 rfl) ?_
          refine lv_iload_n hx hb dX5_piece_103 rfl (lv_at hl 2 rfl) ?_
          obtain ⟨r22, e9, h⟩ := bd h
          refine q_callVi (ret := r22) (As := [.int p0]) (w1 := wX5 cyI mo aMF aMT aMW aMU aMP aML aMM aMO aMR aMD aMB aMK mTh_18 mNo mAr mS mG mQ mWa mPa mLa mF mT mW_19 mU_20 mP_21 mL mM mO mR mD mB mK) (ws2 := wX5 cyI mo aMF aMT aMW aMU aMP aML aMM aMO aMR aMD aMB aMK mTh_18 mNo mAr mS mG mQ mWa mPa mLa mF mT mW_19 mU_20 mP_21 mL mM mO mR mD mB mK) ⟨hx, hb, hml, hown, hts⟩ (c_X5_capacityOf l dC dI cyI mo aMF aMT aMW aMU aMP aML aMM aMO aMR aMD aMB aMK H.size mTh_18 mNo mAr mS mG mQ mWa mPa mLa mF mT mW_19 mU_20 mP_21 mL mM mO mR mD mB mK p0 N _ e9) (cwV 1 hts gX5_piece_X5_capacityOf rfl rfl rfl (by decide +kernel) ⟨Nat.le_of_ble_eq_true rfl, Nat.le_of_ble_eq_true rfl⟩) hK hP hD hS hA [0, 1, 2, 3, 4, 5, 6, 7, 8, 9, 10, 11, 12] [] [0, 1, 2, 3, 4, 5, 6, 7, 8, 9, 10, 11, 12] [0] rfl rfl rfl rfl (by decide) rfl rfl rfl 5 0 rfl rfl rfl hl.1 (Nat.le_of_ble_eq_true rfl) (Nat.le_of_ble_eq_true rfl) (Nat.le_of_ble_eq_true rfl) rfl dX5_piece_104 (fun H locs hP hD hS => ?_)
          cases h
          exact q_iret hQ hx hb hr hlocks hP hK hD hS dX5_piece_107
        · have h := ipos c9 h
          refine lv_iconst (v := 0) hx hb dX5_piece_93 (by decide) ?_
          cases h
          exact q_iret hQ hx hb hr hlocks hP hK hD hS dX5_piece_94
      · have h := ipos c9 h
        refine lv_iconst (v := 1) hx hb dX5_piece_59 (by decide) ?_
        refine lv_goto (tgt := 87) hx hb dX5_piece_60 (by decide) ?_
        obtain ⟨b23, mTh_24, e9, h⟩ := bd2 h
        refine q_callVi (ret := b2i b23) (As := [.int 1]) (w1 := wX5 cyI mo aMF aMT aMW aMU aMP aML aMM aMO aMR aMD aMB aMK mTh_24 mNo mAr mS mG mQ mWa mPa mLa mF mT mW mU mP mL mM mO mR mD mB mK) (ws2 := wX5 cyI mo aMF aMT aMW aMU aMP aML aMM aMO aMR aMD aMB aMK mTh_24 mNo mAr mS mG mQ mWa mPa mLa mF mT mW mU mP mL mM mO mR mD mB mK) ⟨hx, hb, hml, hown, hts⟩ (c_X5_goesWell l dC dI cyI mo aMF aMT aMW aMU aMP aML aMM aMO aMR aMD aMB aMK H.size mTh mNo mAr mS mG mQ mWa mPa mLa mF mT mW mU mP mL mM mO mR mD mB mK 1 _ e9) (cwV 1 hts gX5_piece_X5_goesWell rfl rfl rfl (by decide +kernel) ⟨Nat.le_of_ble_eq_true rfl, Nat.le_of_ble_eq_true rfl⟩) hK hP hD hS hA [0, 1, 2, 3, 4, 5, 6, 7, 8, 9, 10, 11, 12] [] [0, 1, 2, 3, 4, 5, 6, 7, 8, 9, 10, 11, 12] [0] rfl rfl rfl rfl (by decide) rfl rfl rfl 5 0 rfl rfl rfl hl.1 (Nat.le_of_ble_eq_true rfl) (Nat.le_of_ble_eq_true rfl) (Nat.le_of_ble_eq_true rfl) rfl dX5_piece_87 (fun H locs hP hD hS => ?_)
        refine lv_if_ne (tgt := 95) hx hb dX5_piece_90 (by decide) (fun c9 => ?_) (fun c9 => ?_)
        · have h := ineg c9 h
          refine lv_aload_n hx hb dX5_piece_95 rfl (lv_at hl 1 rfl) ?_
          refine lv_iload_n hx hb dX5_piece_96 rfl (lv_at hl 2 rfl) ?_
          refine lv_iload_n hx hb dX5_piece_97 rfl (lv_at hl 3 rfl) ?_
          refine lv_iload_n hx hb dX5_piece_98 rfl (lv_at hl 4 rfl) ?_
          obtain ⟨mW_25, mU_26, mP_27, e9, h⟩ := bd3 h
          refine q_callVv (As := [.int p0, .int p1, .int p2]) (w1 := wX5 cyI mo aMF aMT aMW aMU aMP aML aMM aMO aMR aMD aMB aMK mTh_24 mNo mAr mS mG mQ mWa mPa mLa mF mT mW_25 mU_26 mP_27 mL mM mO mR mD mB mK) (ws2 := wX5 cyI mo aMF aMT aMW aMU aMP aML aMM aMO aMR aMD aMB aMK mTh_24 mNo mAr mS mG mQ mWa mPa mLa mF mT mW_25 mU_26 mP_27 mL mM mO mR mD mB mK) ⟨hx, hb, hml, hown, hts⟩ (c_X5_put l dC dI cyI mo aMF aMT aMW aMU aMP aML aMM aMO aMR aMD aMB aMK H.size mTh_24 mNo mAr mS mG mQ mWa mPa mLa mF mT mW mU mP mL mM mO mR mD mB mK p0 p1 p2 _ e9) (cwV 3 hts gX5_piece_X5_put rfl rfl rfl (by decide +kernel) ⟨Nat.le_of_ble_eq_true rfl, Nat.le_of_ble_eq_true rfl⟩) hK hP hD hS hA [0, 1, 2, 3, 4, 5, 6, 7, 8, 9, 10, 11, 12] [] [0, 1, 2, 3, 4, 5, 6, 7, 8, 9, 10, 11, 12] [0] rfl rfl rfl rfl (by decide) rfl rfl rfl 5 0 rfl rfl rfl hl.1 (Nat.le_of_ble_eq_true rfl) (Nat.le_of_ble_eq_true rfl) (Nat.le_of_ble_eq_true rfl) rfl dX5_piece_99 (fun H locs hP hD hS => ?_)
          refine lv_aload_n hx hb dX5_piece_102 rfl (lv_at hl 1 rfl) ?_
          refine lv_iload_n hx hb dX5_piece_103 rfl (lv_at hl 2 rfl) ?_
          obtain ⟨r28, e9, h⟩ := bd h
          refine q_callVi (ret := r28) (As := [.int p0]) (w1 := wX5 cyI mo aMF aMT aMW aMU aMP aML aMM aMO aMR aMD aMB aMK mTh_24 mNo mAr mS mG mQ mWa mPa mLa mF mT mW_25 mU_26 mP_27 mL mM mO mR mD mB mK) (ws2 := wX5 cyI mo aMF aMT aMW aMU aMP aML aMM aMO aMR aMD aMB aMK mTh_24 mNo mAr mS mG mQ mWa mPa mLa mF mT mW_25 mU_26 mP_27 mL mM mO mR mD mB mK) ⟨hx, hb, hml, hown, hts⟩ (c_X5_capacityOf l dC dI cyI mo aMF aMT aMW aMU aMP aML aMM aMO aMR aMD aMB aMK H.size mTh_24 mNo mAr mS mG mQ mWa mPa mLa mF mT mW_25 mU_26 mP_27 mL mM mO mR mD mB mK p0 N _ e9) (cwV 1 hts gX5_piece_X5_capacityOf rfl rfl rfl (by decide +kernel) ⟨Nat.le_of_ble_eq_true rfl, Nat.le_of_ble_eq_true rfl⟩) hK hP hD hS hA [0, 1, 2, 3, 4, 5, 6, 7, 8, 9, 10, 11, 12] [] [0, 1, 2, 3, 4, 5, 6, 7, 8, 9, 10, 11, 12] [0] rfl rfl rfl rfl (by decide) rfl rfl rfl 5 0 rfl rfl rfl hl.1 (Nat.le_of_ble_eq_true rfl) (Nat.le_of_ble_eq_true rfl) (Nat.le_of_ble_eq_true rfl) rfl dX5_piece_104 (fun H locs hP hD hS => ?_)
          cases h
          exact q_iret hQ hx hb hr hlocks hP hK hD hS dX5_piece_107
        · have h := ipos c9 h
          refine lv_iconst (v := 0) hx hb dX5_piece_93 (by decide) ?_
          cases h
          exact q_iret hQ hx hb hr hlocks hP hK hD hS dX5_piece_94
    · have h := ineg c9 h
      refine lv_iload_n hx hb dX5_piece_17 rfl (lv_at hl 3 rfl) ?_
      refine lv_aload_n hx hb dX5_piece_18 rfl (lv_at hl 0 rfl) ?_
      refine va_get (D := (dC, dI)) (ci := 5) (v := .ref aMU) (C := RX5) (T := TX5) (N := 21) hx hb hts k1 hown hK hP 0 rfl rfl 6 (by decide) k0 (fun _ h9 => h9) rfl dX5_piece_19 ?_
      refine lv_iconst (v := 3) hx hb dX5_piece_22 (by decide) ?_
      refine lv_iload_n hx hb dX5_piece_23 rfl (lv_at hl 1 rfl) ?_
      refine lv_imul hx hb dX5_piece_24 ?_
      refine lv_aload_n hx hb dX5_piece_25 rfl (lv_at hl 0 rfl) ?_
      refine va_get (D := (dC, dI)) (ci := 5) (v := .ref aMP) (C := RX5) (T := TX5) (N := 21) hx hb hts k1 hown hK hP 0 rfl rfl 7 (by decide) k2 (fun _ h9 => h9) rfl dX5_piece_26 ?_
      refine lv_iload_n hx hb dX5_piece_29 rfl (lv_at hl 1 rfl) ?_
      obtain ⟨t29, e9, h⟩ := bd h
      refine q_iald hx hb hK hP 5 0 rfl rfl e9 dX5_piece_30 ?_
      refine lv_iadd hx hb dX5_piece_31 ?_
      refine lv_iconst (v := 1) hx hb dX5_piece_32 (by decide) ?_
      refine lv_isub hx hb dX5_piece_33 ?_
      obtain ⟨t30, e9, h⟩ := bd h
      refine q_iald hx hb hK hP 4 0 rfl rfl e9 dX5_piece_34 ?_
      refine lv_bipush (v := 99) hx hb dX5_piece_35 (by decide) ?_
      obtain ⟨b31, e9, h⟩ := bd h
      refine q_callSi (ret := b2i b31) (As := [.int p2, .int t30, .int 99]) ⟨hx, hb, hml, hown, hts⟩ (c_X5_in l dC dI H.size p2 t30 99 _ e9) (va_cwS 3 hts gX5_piece_X5_in rfl rfl rfl (by decide +kernel) ⟨Nat.le_of_ble_eq_true rfl, Nat.le_of_ble_eq_true rfl⟩) hK hP hD hS hA [0, 1, 2, 3, 4, 5, 6, 7, 8, 9, 10, 11, 12] rfl rfl rfl hl.1 (Nat.le_of_ble_eq_true rfl) (Nat.le_of_ble_eq_true rfl) (Nat.le_of_ble_eq_true rfl) rfl dX5_piece_37 (fun H locs hP hD hS => ?_)
      refine lv_if_eq (tgt := 47) hx hb dX5_piece_40 (by decide) (fun c9 => ?_) (fun c9 => ?_)
      · have h := ipos c9 h
        refine lv_iconst (v := 0) hx hb dX5_piece_47 (by decide) ?_
        refine lv_istore (lv' := [(4, .int 0), (0, .ref mo), (1, .int p0), (2, .int p1), (3, .int p2)]) hx hb dX5_piece_48 hl (by decide) rfl (fun ls hl => ?_)
        refine lv_aload_n hx hb dX5_piece_50 rfl (lv_at hl 1 rfl) ?_
        refine lv_aload_n hx hb dX5_piece_51 rfl (lv_at hl 1 rfl) ?_
        refine lv_iload_n hx hb dX5_piece_52 rfl (lv_at hl 2 rfl) ?_
        obtain ⟨b32, e9, h⟩ := bd h
        refine q_callVi (ret := b2i b32) (As := [.int p0]) (w1 := wX5 cyI mo aMF aMT aMW aMU aMP aML aMM aMO aMR aMD aMB aMK mTh mNo mAr mS mG mQ mWa mPa mLa mF mT mW mU mP mL mM mO mR mD mB mK) (ws2 := wX5 cyI mo aMF aMT aMW aMU aMP aML aMM aMO aMR aMD aMB aMK mTh mNo mAr mS mG mQ mWa mPa mLa mF mT mW mU mP mL mM mO mR mD mB mK) ⟨hx, hb, hml, hown, hts⟩ (c_X5_isArc l dC dI cyI mo aMF aMT aMW aMU aMP aML aMM aMO aMR aMD aMB aMK H.size mTh mNo mAr mS mG mQ mWa mPa mLa mF mT mW mU mP mL mM mO mR mD mB mK p0 _ e9) (cwV 1 hts gX5_piece_X5_isArc rfl rfl rfl (by decide +kernel) ⟨Nat.le_of_ble_eq_true rfl, Nat.le_of_ble_eq_true rfl⟩) hK hP hD hS hA [0, 1, 2, 3, 4, 5, 6, 7, 8, 9, 10, 11, 12] [] [0, 1, 2, 3, 4, 5, 6, 7, 8, 9, 10, 11, 12] [0] rfl rfl rfl rfl (by decide) rfl rfl rfl 5 0 rfl rfl rfl hl.1 (Nat.le_of_ble_eq_true rfl) (Nat.le_of_ble_eq_true rfl) (Nat.le_of_ble_eq_true rfl) rfl dX5_piece_53 (fun H locs hP hD hS => ?_)
        refine lv_if_ne (tgt := 63) hx hb dX5_piece_56 (by decide) (fun c9 => ?_) (fun c9 => ?_)
        · have h := ineg c9 h
          refine lv_iload hx hb dX5_piece_63 (lv_at hl 0 rfl) ?_
          refine lv_if_ne (tgt := 72) hx hb dX5_piece_65 (by decide) (fun c9 => absurd (by decide) c9) (fun _ => ?_)
          refine lv_iconst (v := 2) hx hb dX5_piece_68 (by decide) ?_
          refine lv_goto (tgt := 87) hx hb dX5_piece_69 (by decide) ?_
          obtain ⟨b33, mTh_34, e9, h⟩ := bd2 h
          refine q_callVi (ret := b2i b33) (As := [.int 2]) (w1 := wX5 cyI mo aMF aMT aMW aMU aMP aML aMM aMO aMR aMD aMB aMK mTh_34 mNo mAr mS mG mQ mWa mPa mLa mF mT mW mU mP mL mM mO mR mD mB mK) (ws2 := wX5 cyI mo aMF aMT aMW aMU aMP aML aMM aMO aMR aMD aMB aMK mTh_34 mNo mAr mS mG mQ mWa mPa mLa mF mT mW mU mP mL mM mO mR mD mB mK) ⟨hx, hb, hml, hown, hts⟩ (c_X5_goesWell l dC dI cyI mo aMF aMT aMW aMU aMP aML aMM aMO aMR aMD aMB aMK H.size mTh mNo mAr mS mG mQ mWa mPa mLa mF mT mW mU mP mL mM mO mR mD mB mK 2 _ e9) (cwV 1 hts gX5_piece_X5_goesWell rfl rfl rfl (by decide +kernel) ⟨Nat.le_of_ble_eq_true rfl, Nat.le_of_ble_eq_true rfl⟩) hK hP hD hS hA [0, 1, 2, 3, 4, 5, 6, 7, 8, 9, 10, 11, 12] [] [0, 1, 2, 3, 4, 5, 6, 7, 8, 9, 10, 11, 12] [0] rfl rfl rfl rfl (by decide) rfl rfl rfl 5 0 rfl rfl rfl hl.1 (Nat.le_of_ble_eq_true rfl) (Nat.le_of_ble_eq_true rfl) (Nat.le_of_ble_eq_true rfl) rfl dX5_piece_87 (fun H locs hP hD hS => ?_)
          refine lv_if_ne (tgt := 95) hx hb dX5_piece_90 (by decide) (fun c9 => ?_) (fun c9 => ?_)
          · have h := ineg c9 h
            refine lv_aload_n hx hb dX5_piece_95 rfl (lv_at hl 1 rfl) ?_
            refine lv_iload_n hx hb dX5_piece_96 rfl (lv_at hl 2 rfl) ?_
            refine lv_iload_n hx hb dX5_piece_97 rfl (lv_at hl 3 rfl) ?_
            refine lv_iload_n hx hb dX5_piece_98 rfl (lv_at hl 4 rfl) ?_
            obtain ⟨mW_35, mU_36, mP_37, e9, h⟩ := bd3 h
            refine q_callVv (As := [.int p0, .int p1, .int p2]) (w1 := wX5 cyI mo aMF aMT aMW aMU aMP aML aMM aMO aMR aMD aMB aMK mTh_34 mNo mAr mS mG mQ mWa mPa mLa mF mT mW_35 mU_36 mP_37 mL mM mO mR mD mB mK) (ws2 := wX5 cyI mo aMF aMT aMW aMU aMP aML aMM aMO aMR aMD aMB aMK mTh_34 mNo mAr mS mG mQ mWa mPa mLa mF mT mW_35 mU_36 mP_37 mL mM mO mR mD mB mK) ⟨hx, hb, hml, hown, hts⟩ (c_X5_put l dC dI cyI mo aMF aMT aMW aMU aMP aML aMM aMO aMR aMD aMB aMK H.size mTh_34 mNo mAr mS mG mQ mWa mPa mLa mF mT mW mU mP mL mM mO mR mD mB mK p0 p1 p2 _ e9) (cwV 3 hts gX5_piece_X5_put rfl rfl rfl (by decide +kernel) ⟨Nat.le_of_ble_eq_true rfl, Nat.le_of_ble_eq_true rfl⟩) hK hP hD hS hA [0, 1, 2, 3, 4, 5, 6, 7, 8, 9, 10, 11, 12] [] [0, 1, 2, 3, 4, 5, 6, 7, 8, 9, 10, 11, 12] [0] rfl rfl rfl rfl (by decide) rfl rfl rfl 5 0 rfl rfl rfl hl.1 (Nat.le_of_ble_eq_true rfl) (Nat.le_of_ble_eq_true rfl) (Nat.le_of_ble_eq_true rfl) rfl dX5_piece_99 (fun H locs hP hD hS => ?_)
            refine lv_aload_n hx hb dX5_piece_102 rfl (lv_at hl 1 rfl) ?_
            refine lv_iload_n hx hb dX5_piece_103 rfl (lv_at hl 2 rfl) ?_
            obtain ⟨r38, e9, h⟩ := bd h
            refine q_callVi (ret := r38) (As := [.int p0]) (w1 := wX5 cyI mo aMF aMT aMW aMU aMP aML aMM aMO aMR aMD aMB aMK mTh_34 mNo mAr mS mG mQ mWa mPa mLa mF mT mW_35 mU_36 mP_37 mL mM mO mR mD mB mK) (ws2 := wX5 cyI mo aMF aMT aMW aMU aMP aML aMM aMO aMR aMD aMB aMK mTh_34 mNo mAr mS mG mQ mWa mPa mLa mF mT mW_35 mU_36 mP_37 mL mM mO mR mD mB mK) ⟨hx, hb, hml, hown, hts⟩ (c_X5_capacityOf l dC dI cyI mo aMF aMT aMW aMU aMP aML aMM aMO aMR aMD aMB aMK H.size mTh_34 mNo mAr mS mG mQ mWa mPa mLa mF mT mW_35 mU_36 mP_37 mL mM mO mR mD mB mK p0 N _ e9) (cwV 1 hts gX5_piece_X5_capacityOf rfl rfl rfl (by decide +kernel) ⟨Nat.le_of_ble_eq_true rfl, Nat.le_of_ble_eq_true rfl⟩) hK hP hD hS hA [0, 1, 2, 3, 4, 5, 6, 7, 8, 9, 10, 11, 12] [] [0, 1, 2, 3, 4, 5, 6, 7, 8, 9, 10, 11, 12] [0] rfl rfl rfl rfl (by decide) rfl rfl rfl 5 0 rfl rfl rfl hl.1 (Nat.le_of_ble_eq_true rfl) (Nat.le_of_ble_eq_true rfl) (Nat.le_of_ble_eq_true rfl) rfl dX5_piece_104 (fun H locs hP hD hS => ?_)
            cases h
            exact q_iret hQ hx hb hr hlocks hP hK hD hS dX5_piece_107
          · have h := ipos c9 h
            refine lv_iconst (v := 0) hx hb dX5_piece_93 (by decide) ?_
            cases h
            exact q_iret hQ hx hb hr hlocks hP hK hD hS dX5_piece_94
        · have h := ipos c9 h
          refine lv_iconst (v := 1) hx hb dX5_piece_59 (by decide) ?_
          refine lv_goto (tgt := 87) hx hb dX5_piece_60 (by decide) ?_
          obtain ⟨b39, mTh_40, e9, h⟩ := bd2 h
          refine q_callVi (ret := b2i b39) (As := [.int 1]) (w1 := wX5 cyI mo aMF aMT aMW aMU aMP aML aMM aMO aMR aMD aMB aMK mTh_40 mNo mAr mS mG mQ mWa mPa mLa mF mT mW mU mP mL mM mO mR mD mB mK) (ws2 := wX5 cyI mo aMF aMT aMW aMU aMP aML aMM aMO aMR aMD aMB aMK mTh_40 mNo mAr mS mG mQ mWa mPa mLa mF mT mW mU mP mL mM mO mR mD mB mK) ⟨hx, hb, hml, hown, hts⟩ (c_X5_goesWell l dC dI cyI mo aMF aMT aMW aMU aMP aML aMM aMO aMR aMD aMB aMK H.size mTh mNo mAr mS mG mQ mWa mPa mLa mF mT mW mU mP mL mM mO mR mD mB mK 1 _ e9) (cwV 1 hts gX5_piece_X5_goesWell rfl rfl rfl (by decide +kernel) ⟨Nat.le_of_ble_eq_true rfl, Nat.le_of_ble_eq_true rfl⟩) hK hP hD hS hA [0, 1, 2, 3, 4, 5, 6, 7, 8, 9, 10, 11, 12] [] [0, 1, 2, 3, 4, 5, 6, 7, 8, 9, 10, 11, 12] [0] rfl rfl rfl rfl (by decide) rfl rfl rfl 5 0 rfl rfl rfl hl.1 (Nat.le_of_ble_eq_true rfl) (Nat.le_of_ble_eq_true rfl) (Nat.le_of_ble_eq_true rfl) rfl dX5_piece_87 (fun H locs hP hD hS => ?_)
          refine lv_if_ne (tgt := 95) hx hb dX5_piece_90 (by decide) (fun c9 => ?_) (fun c9 => ?_)
          · have h := ineg c9 h
            refine lv_aload_n hx hb dX5_piece_95 rfl (lv_at hl 1 rfl) ?_
            refine lv_iload_n hx hb dX5_piece_96 rfl (lv_at hl 2 rfl) ?_
            refine lv_iload_n hx hb dX5_piece_97 rfl (lv_at hl 3 rfl) ?_
            refine lv_iload_n hx hb dX5_piece_98 rfl (lv_at hl 4 rfl) ?_
            obtain ⟨mW_41, mU_42, mP_43, e9, h⟩ := bd3 h
            refine q_callVv (As := [.int p0, .int p1, .int p2]) (w1 := wX5 cyI mo aMF aMT aMW aMU aMP aML aMM aMO aMR aMD aMB aMK mTh_40 mNo mAr mS mG mQ mWa mPa mLa mF mT mW_41 mU_42 mP_43 mL mM mO mR mD mB mK) (ws2 := wX5 cyI mo aMF aMT aMW aMU aMP aML aMM aMO aMR aMD aMB aMK mTh_40 mNo mAr mS mG mQ mWa mPa mLa mF mT mW_41 mU_42 mP_43 mL mM mO mR mD mB mK) ⟨hx, hb, hml, hown, hts⟩ (c_X5_put l dC dI cyI mo aMF aMT aMW aMU aMP aML aMM aMO aMR aMD aMB aMK H.size mTh_40 mNo mAr mS mG mQ mWa mPa mLa mF mT mW mU mP mL mM mO mR mD mB mK p0 p1 p2 _ e9) (cwV 3 hts gX5_piece_X5_put rfl rfl rfl (by decide +kernel) ⟨Nat.le_of_ble_eq_true rfl, Nat.le_of_ble_eq_true rfl⟩) hK hP hD hS hA [0, 1, 2, 3, 4, 5, 6, 7, 8, 9, 10, 11, 12] [] [0, 1, 2, 3, 4, 5, 6, 7, 8, 9, 10, 11, 12] [0] rfl rfl rfl rfl (by decide) rfl rfl rfl 5 0 rfl rfl rfl hl.1 (Nat.le_of_ble_eq_true rfl) (Nat.le_of_ble_eq_true rfl) (Nat.le_of_ble_eq_true rfl) rfl dX5_piece_99 (fun H locs hP hD hS => ?_)
            refine lv_aload_n hx hb dX5_piece_102 rfl (lv_at hl 1 rfl) ?_
            refine lv_iload_n hx hb dX5_piece_103 rfl (lv_at hl 2 rfl) ?_
            obtain ⟨r44, e9, h⟩ := bd h
            refine q_callVi (ret := r44) (As := [.int p0]) (w1 := wX5 cyI mo aMF aMT aMW aMU aMP aML aMM aMO aMR aMD aMB aMK mTh_40 mNo mAr mS mG mQ mWa mPa mLa mF mT mW_41 mU_42 mP_43 mL mM mO mR mD mB mK) (ws2 := wX5 cyI mo aMF aMT aMW aMU aMP aML aMM aMO aMR aMD aMB aMK mTh_40 mNo mAr mS mG mQ mWa mPa mLa mF mT mW_41 mU_42 mP_43 mL mM mO mR mD mB mK) ⟨hx, hb, hml, hown, hts⟩ (c_X5_capacityOf l dC dI cyI mo aMF aMT aMW aMU aMP aML aMM aMO aMR aMD aMB aMK H.size mTh_40 mNo mAr mS mG mQ mWa mPa mLa mF mT mW_41 mU_42 mP_43 mL mM mO mR mD mB mK p0 N _ e9) (cwV 1 hts gX5_piece_X5_capacityOf rfl rfl rfl (by decide +kernel) ⟨Nat.le_of_ble_eq_true rfl, Nat.le_of_ble_eq_true rfl⟩) hK hP hD hS hA [0, 1, 2, 3, 4, 5, 6, 7, 8, 9, 10, 11, 12] [] [0, 1, 2, 3, 4, 5, 6, 7, 8, 9, 10, 11, 12] [0] rfl rfl rfl rfl (by decide) rfl rfl rfl 5 0 rfl rfl rfl hl.1 (Nat.le_of_ble_eq_true rfl) (Nat.le_of_ble_eq_true rfl) (Nat.le_of_ble_eq_true rfl) rfl dX5_piece_104 (fun H locs hP hD hS => ?_)
            cases h
            exact q_iret hQ hx hb hr hlocks hP hK hD hS dX5_piece_107
          · have h := ipos c9 h
            refine lv_iconst (v := 0) hx hb dX5_piece_93 (by decide) ?_
            cases h
            exact q_iret hQ hx hb hr hlocks hP hK hD hS dX5_piece_94
      · have h := ineg c9 h
        refine lv_iconst (v := 1) hx hb dX5_piece_43 (by decide) ?_
        refine lv_goto (tgt := 48) hx hb dX5_piece_44 (by decide) ?_
        refine lv_istore (lv' := [(4, .int 1), (0, .ref mo), (1, .int p0), (2, .int p1), (3, .int p2)]) hx hb dX5_piece_48 hl (by decide) rfl (fun ls hl => ?_)
        refine lv_aload_n hx hb dX5_piece_50 rfl (lv_at hl 1 rfl) ?_
        refine lv_aload_n hx hb dX5_piece_51 rfl (lv_at hl 1 rfl) ?_
        refine lv_iload_n hx hb dX5_piece_52 rfl (lv_at hl 2 rfl) ?_
        obtain ⟨b45, e9, h⟩ := bd h
        refine q_callVi (ret := b2i b45) (As := [.int p0]) (w1 := wX5 cyI mo aMF aMT aMW aMU aMP aML aMM aMO aMR aMD aMB aMK mTh mNo mAr mS mG mQ mWa mPa mLa mF mT mW mU mP mL mM mO mR mD mB mK) (ws2 := wX5 cyI mo aMF aMT aMW aMU aMP aML aMM aMO aMR aMD aMB aMK mTh mNo mAr mS mG mQ mWa mPa mLa mF mT mW mU mP mL mM mO mR mD mB mK) ⟨hx, hb, hml, hown, hts⟩ (c_X5_isArc l dC dI cyI mo aMF aMT aMW aMU aMP aML aMM aMO aMR aMD aMB aMK H.size mTh mNo mAr mS mG mQ mWa mPa mLa mF mT mW mU mP mL mM mO mR mD mB mK p0 _ e9) (cwV 1 hts gX5_piece_X5_isArc rfl rfl rfl (by decide +kernel) ⟨Nat.le_of_ble_eq_true rfl, Nat.le_of_ble_eq_true rfl⟩) hK hP hD hS hA [0, 1, 2, 3, 4, 5, 6, 7, 8, 9, 10, 11, 12] [] [0, 1, 2, 3, 4, 5, 6, 7, 8, 9, 10, 11, 12] [0] rfl rfl rfl rfl (by decide) rfl rfl rfl 5 0 rfl rfl rfl hl.1 (Nat.le_of_ble_eq_true rfl) (Nat.le_of_ble_eq_true rfl) (Nat.le_of_ble_eq_true rfl) rfl dX5_piece_53 (fun H locs hP hD hS => ?_)
        refine lv_if_ne (tgt := 63) hx hb dX5_piece_56 (by decide) (fun c9 => ?_) (fun c9 => ?_)
        · have h := ineg c9 h
          refine lv_iload hx hb dX5_piece_63 (lv_at hl 0 rfl) ?_
          refine lv_if_ne (tgt := 72) hx hb dX5_piece_65 (by decide) (fun _ => ?_) (fun c9 => absurd c9 (by decide))
          refine lv_aload_n hx hb dX5_piece_72 rfl (lv_at hl 1 rfl) ?_
          refine va_get (D := (dC, dI)) (ci := 5) (v := .ref aMP) (C := RX5) (T := TX5) (N := 21) hx hb hts k1 hown hK hP 0 rfl rfl 7 (by decide) k2 (fun _ h9 => h9) rfl dX5_piece_73 ?_
          refine lv_iload_n hx hb dX5_piece_76 rfl (lv_at hl 2 rfl) ?_
          obtain ⟨t46, e9, h⟩ := bd h
          refine q_iald hx hb hK hP 5 0 rfl rfl e9 dX5_piece_77 ?_
          refine lv_iconst (v := 3) hx hb dX5_piece_78 (by decide) ?_
          refine lv_icmp_ne (tgt := 86) hx hb dX5_piece_79 (by decide) (fun c9 => ?_) (fun c9 => ?_)
          · have h := ineg c9 h
            refine lv_iconst (v := 0) hx hb dX5_piece_86 (by decide) ?_
            obtain ⟨b47, mTh_48, e9, h⟩ := bd2 h
            refine q_callVi (ret := b2i b47) (As := [.int 0]) (w1 := wX5 cyI mo aMF aMT aMW aMU aMP aML aMM aMO aMR aMD aMB aMK mTh_48 mNo mAr mS mG mQ mWa mPa mLa mF mT mW mU mP mL mM mO mR mD mB mK) (ws2 := wX5 cyI mo aMF aMT aMW aMU aMP aML aMM aMO aMR aMD aMB aMK mTh_48 mNo mAr mS mG mQ mWa mPa mLa mF mT mW mU mP mL mM mO mR mD mB mK) ⟨hx, hb, hml, hown, hts⟩ (c_X5_goesWell l dC dI cyI mo aMF aMT aMW aMU aMP aML aMM aMO aMR aMD aMB aMK H.size mTh mNo mAr mS mG mQ mWa mPa mLa mF mT mW mU mP mL mM mO mR mD mB mK 0 _ e9) (cwV 1 hts gX5_piece_X5_goesWell rfl rfl rfl (by decide +kernel) ⟨Nat.le_of_ble_eq_true rfl, Nat.le_of_ble_eq_true rfl⟩) hK hP hD hS hA [0, 1, 2, 3, 4, 5, 6, 7, 8, 9, 10, 11, 12] [] [0, 1, 2, 3, 4, 5, 6, 7, 8, 9, 10, 11, 12] [0] rfl rfl rfl rfl (by decide) rfl rfl rfl 5 0 rfl rfl rfl hl.1 (Nat.le_of_ble_eq_true rfl) (Nat.le_of_ble_eq_true rfl) (Nat.le_of_ble_eq_true rfl) rfl dX5_piece_87 (fun H locs hP hD hS => ?_)
            refine lv_if_ne (tgt := 95) hx hb dX5_piece_90 (by decide) (fun c9 => ?_) (fun c9 => ?_)
            · have h := ineg c9 h
              refine lv_aload_n hx hb dX5_piece_95 rfl (lv_at hl 1 rfl) ?_
              refine lv_iload_n hx hb dX5_piece_96 rfl (lv_at hl 2 rfl) ?_
              refine lv_iload_n hx hb dX5_piece_97 rfl (lv_at hl 3 rfl) ?_
              refine lv_iload_n hx hb dX5_piece_98 rfl (lv_at hl 4 rfl) ?_
              obtain ⟨mW_49, mU_50, mP_51, e9, h⟩ := bd3 h
              refine q_callVv (As := [.int p0, .int p1, .int p2]) (w1 := wX5 cyI mo aMF aMT aMW aMU aMP aML aMM aMO aMR aMD aMB aMK mTh_48 mNo mAr mS mG mQ mWa mPa mLa mF mT mW_49 mU_50 mP_51 mL mM mO mR mD mB mK) (ws2 := wX5 cyI mo aMF aMT aMW aMU aMP aML aMM aMO aMR aMD aMB aMK mTh_48 mNo mAr mS mG mQ mWa mPa mLa mF mT mW_49 mU_50 mP_51 mL mM mO mR mD mB mK) ⟨hx, hb, hml, hown, hts⟩ (c_X5_put l dC dI cyI mo aMF aMT aMW aMU aMP aML aMM aMO aMR aMD aMB aMK H.size mTh_48 mNo mAr mS mG mQ mWa mPa mLa mF mT mW mU mP mL mM mO mR mD mB mK p0 p1 p2 _ e9) (cwV 3 hts gX5_piece_X5_put rfl rfl rfl (by decide +kernel) ⟨Nat.le_of_ble_eq_true rfl, Nat.le_of_ble_eq_true rfl⟩) hK hP hD hS hA [0, 1, 2, 3, 4, 5, 6, 7, 8, 9, 10, 11, 12] [] [0, 1, 2, 3, 4, 5, 6, 7, 8, 9, 10, 11, 12] [0] rfl rfl rfl rfl (by decide) rfl rfl rfl 5 0 rfl rfl rfl hl.1 (Nat.le_of_ble_eq_true rfl) (Nat.le_of_ble_eq_true rfl) (Nat.le_of_ble_eq_true rfl) rfl dX5_piece_99 (fun H locs hP hD hS => ?_)
              refine lv_aload_n hx hb dX5_piece_102 rfl (lv_at hl 1 rfl) ?_
              refine lv_iload_n hx hb dX5_piece_103 rfl (lv_at hl 2 rfl) ?_
              obtain ⟨r52, e9, h⟩ := bd h
              refine q_callVi (ret := r52) (As := [.int p0]) (w1 := wX5 cyI mo aMF aMT aMW aMU aMP aML aMM aMO aMR aMD aMB aMK mTh_48 mNo mAr mS mG mQ mWa mPa mLa mF mT mW_49 mU_50 mP_51 mL mM mO mR mD mB mK) (ws2 := wX5 cyI mo aMF aMT aMW aMU aMP aML aMM aMO aMR aMD aMB aMK mTh_48 mNo mAr mS mG mQ mWa mPa mLa mF mT mW_49 mU_50 mP_51 mL mM mO mR mD mB mK) ⟨hx, hb, hml, hown, hts⟩ (c_X5_capacityOf l dC dI cyI mo aMF aMT aMW aMU aMP aML aMM aMO aMR aMD aMB aMK H.size mTh_48 mNo mAr mS mG mQ mWa mPa mLa mF mT mW_49 mU_50 mP_51 mL mM mO mR mD mB mK p0 N _ e9) (cwV 1 hts gX5_piece_X5_capacityOf rfl rfl rfl (by decide +kernel) ⟨Nat.le_of_ble_eq_true rfl, Nat.le_of_ble_eq_true rfl⟩) hK hP hD hS hA [0, 1, 2, 3, 4, 5, 6, 7, 8, 9, 10, 11, 12] [] [0, 1, 2, 3, 4, 5, 6, 7, 8, 9, 10, 11, 12] [0] rfl rfl rfl rfl (by decide) rfl rfl rfl 5 0 rfl rfl rfl hl.1 (Nat.le_of_ble_eq_true rfl) (Nat.le_of_ble_eq_true rfl) (Nat.le_of_ble_eq_true rfl) rfl dX5_piece_104 (fun H locs hP hD hS => ?_)
              cases h
              exact q_iret hQ hx hb hr hlocks hP hK hD hS dX5_piece_107
            · have h := ipos c9 h
              refine lv_iconst (v := 0) hx hb dX5_piece_93 (by decide) ?_
              cases h
              exact q_iret hQ hx hb hr hlocks hP hK hD hS dX5_piece_94
          · have h := ipos c9 h
            refine lv_iconst (v := 3) hx hb dX5_piece_82 (by decide) ?_
            refine lv_goto (tgt := 87) hx hb dX5_piece_83 (by decide) ?_
            obtain ⟨b53, mTh_54, e9, h⟩ := bd2 h
            refine q_callVi (ret := b2i b53) (As := [.int 3]) (w1 := wX5 cyI mo aMF aMT aMW aMU aMP aML aMM aMO aMR aMD aMB aMK mTh_54 mNo mAr mS mG mQ mWa mPa mLa mF mT mW mU mP mL mM mO mR mD mB mK) (ws2 := wX5 cyI mo aMF aMT aMW aMU aMP aML aMM aMO aMR aMD aMB aMK mTh_54 mNo mAr mS mG mQ mWa mPa mLa mF mT mW mU mP mL mM mO mR mD mB mK) ⟨hx, hb, hml, hown, hts⟩ (c_X5_goesWell l dC dI cyI mo aMF aMT aMW aMU aMP aML aMM aMO aMR aMD aMB aMK H.size mTh mNo mAr mS mG mQ mWa mPa mLa mF mT mW mU mP mL mM mO mR mD mB mK 3 _ e9) (cwV 1 hts gX5_piece_X5_goesWell rfl rfl rfl (by decide +kernel) ⟨Nat.le_of_ble_eq_true rfl, Nat.le_of_ble_eq_true rfl⟩) hK hP hD hS hA [0, 1, 2, 3, 4, 5, 6, 7, 8, 9, 10, 11, 12] [] [0, 1, 2, 3, 4, 5, 6, 7, 8, 9, 10, 11, 12] [0] rfl rfl rfl rfl (by decide) rfl rfl rfl 5 0 rfl rfl rfl hl.1 (Nat.le_of_ble_eq_true rfl) (Nat.le_of_ble_eq_true rfl) (Nat.le_of_ble_eq_true rfl) rfl dX5_piece_87 (fun H locs hP hD hS => ?_)
            refine lv_if_ne (tgt := 95) hx hb dX5_piece_90 (by decide) (fun c9 => ?_) (fun c9 => ?_)
            · have h := ineg c9 h
              refine lv_aload_n hx hb dX5_piece_95 rfl (lv_at hl 1 rfl) ?_
              refine lv_iload_n hx hb dX5_piece_96 rfl (lv_at hl 2 rfl) ?_
              refine lv_iload_n hx hb dX5_piece_97 rfl (lv_at hl 3 rfl) ?_
              refine lv_iload_n hx hb dX5_piece_98 rfl (lv_at hl 4 rfl) ?_
              obtain ⟨mW_55, mU_56, mP_57, e9, h⟩ := bd3 h
              refine q_callVv (As := [.int p0, .int p1, .int p2]) (w1 := wX5 cyI mo aMF aMT aMW aMU aMP aML aMM aMO aMR aMD aMB aMK mTh_54 mNo mAr mS mG mQ mWa mPa mLa mF mT mW_55 mU_56 mP_57 mL mM mO mR mD mB mK) (ws2 := wX5 cyI mo aMF aMT aMW aMU aMP aML aMM aMO aMR aMD aMB aMK mTh_54 mNo mAr mS mG mQ mWa mPa mLa mF mT mW_55 mU_56 mP_57 mL mM mO mR mD mB mK) ⟨hx, hb, hml, hown, hts⟩ (c_X5_put l dC dI cyI mo aMF aMT aMW aMU aMP aML aMM aMO aMR aMD aMB aMK H.size mTh_54 mNo mAr mS mG mQ mWa mPa mLa mF mT mW mU mP mL mM mO mR mD mB mK p0 p1 p2 _ e9) (cwV 3 hts gX5_piece_X5_put rfl rfl rfl (by decide +kernel) ⟨Nat.le_of_ble_eq_true rfl, Nat.le_of_ble_eq_true rfl⟩) hK hP hD hS hA [0, 1, 2, 3, 4, 5, 6, 7, 8, 9, 10, 11, 12] [] [0, 1, 2, 3, 4, 5, 6, 7, 8, 9, 10, 11, 12] [0] rfl rfl rfl rfl (by decide) rfl rfl rfl 5 0 rfl rfl rfl hl.1 (Nat.le_of_ble_eq_true rfl) (Nat.le_of_ble_eq_true rfl) (Nat.le_of_ble_eq_true rfl) rfl dX5_piece_99 (fun H locs hP hD hS => ?_)
              refine lv_aload_n hx hb dX5_piece_102 rfl (lv_at hl 1 rfl) ?_
              refine lv_iload_n hx hb dX5_piece_103 rfl (lv_at hl 2 rfl) ?_
              obtain ⟨r58, e9, h⟩ := bd h
              refine q_callVi (ret := r58) (As := [.int p0]) (w1 := wX5 cyI mo aMF aMT aMW aMU aMP aML aMM aMO aMR aMD aMB aMK mTh_54 mNo mAr mS mG mQ mWa mPa mLa mF mT mW_55 mU_56 mP_57 mL mM mO mR mD mB mK) (ws2 := wX5 cyI mo aMF aMT aMW aMU aMP aML aMM aMO aMR aMD aMB aMK mTh_54 mNo mAr mS mG mQ mWa mPa mLa mF mT mW_55 mU_56 mP_57 mL mM mO mR mD mB mK) ⟨hx, hb, hml, hown, hts⟩ (c_X5_capacityOf l dC dI cyI mo aMF aMT aMW aMU aMP aML aMM aMO aMR aMD aMB aMK H.size mTh_54 mNo mAr mS mG mQ mWa mPa mLa mF mT mW_55 mU_56 mP_57 mL mM mO mR mD mB mK p0 N _ e9) (cwV 1 hts gX5_piece_X5_capacityOf rfl rfl rfl (by decide +kernel) ⟨Nat.le_of_ble_eq_true rfl, Nat.le_of_ble_eq_true rfl⟩) hK hP hD hS hA [0, 1, 2, 3, 4, 5, 6, 7, 8, 9, 10, 11, 12] [] [0, 1, 2, 3, 4, 5, 6, 7, 8, 9, 10, 11, 12] [0] rfl rfl rfl rfl (by decide) rfl rfl rfl 5 0 rfl rfl rfl hl.1 (Nat.le_of_ble_eq_true rfl) (Nat.le_of_ble_eq_true rfl) (Nat.le_of_ble_eq_true rfl) rfl dX5_piece_104 (fun H locs hP hD hS => ?_)
              cases h
              exact q_iret hQ hx hb hr hlocks hP hK hD hS dX5_piece_107
            · have h := ipos c9 h
              refine lv_iconst (v := 0) hx hb dX5_piece_93 (by decide) ?_
              cases h
              exact q_iret hQ hx hb hr hlocks hP hK hD hS dX5_piece_94
        · have h := ipos c9 h
          refine lv_iconst (v := 1) hx hb dX5_piece_59 (by decide) ?_
          refine lv_goto (tgt := 87) hx hb dX5_piece_60 (by decide) ?_
          obtain ⟨b59, mTh_60, e9, h⟩ := bd2 h
          refine q_callVi (ret := b2i b59) (As := [.int 1]) (w1 := wX5 cyI mo aMF aMT aMW aMU aMP aML aMM aMO aMR aMD aMB aMK mTh_60 mNo mAr mS mG mQ mWa mPa mLa mF mT mW mU mP mL mM mO mR mD mB mK) (ws2 := wX5 cyI mo aMF aMT aMW aMU aMP aML aMM aMO aMR aMD aMB aMK mTh_60 mNo mAr mS mG mQ mWa mPa mLa mF mT mW mU mP mL mM mO mR mD mB mK) ⟨hx, hb, hml, hown, hts⟩ (c_X5_goesWell l dC dI cyI mo aMF aMT aMW aMU aMP aML aMM aMO aMR aMD aMB aMK H.size mTh mNo mAr mS mG mQ mWa mPa mLa mF mT mW mU mP mL mM mO mR mD mB mK 1 _ e9) (cwV 1 hts gX5_piece_X5_goesWell rfl rfl rfl (by decide +kernel) ⟨Nat.le_of_ble_eq_true rfl, Nat.le_of_ble_eq_true rfl⟩) hK hP hD hS hA [0, 1, 2, 3, 4, 5, 6, 7, 8, 9, 10, 11, 12] [] [0, 1, 2, 3, 4, 5, 6, 7, 8, 9, 10, 11, 12] [0] rfl rfl rfl rfl (by decide) rfl rfl rfl 5 0 rfl rfl rfl hl.1 (Nat.le_of_ble_eq_true rfl) (Nat.le_of_ble_eq_true rfl) (Nat.le_of_ble_eq_true rfl) rfl dX5_piece_87 (fun H locs hP hD hS => ?_)
          refine lv_if_ne (tgt := 95) hx hb dX5_piece_90 (by decide) (fun c9 => ?_) (fun c9 => ?_)
          · have h := ineg c9 h
            refine lv_aload_n hx hb dX5_piece_95 rfl (lv_at hl 1 rfl) ?_
            refine lv_iload_n hx hb dX5_piece_96 rfl (lv_at hl 2 rfl) ?_
            refine lv_iload_n hx hb dX5_piece_97 rfl (lv_at hl 3 rfl) ?_
            refine lv_iload_n hx hb dX5_piece_98 rfl (lv_at hl 4 rfl) ?_
            obtain ⟨mW_61, mU_62, mP_63, e9, h⟩ := bd3 h
            refine q_callVv (As := [.int p0, .int p1, .int p2]) (w1 := wX5 cyI mo aMF aMT aMW aMU aMP aML aMM aMO aMR aMD aMB aMK mTh_60 mNo mAr mS mG mQ mWa mPa mLa mF mT mW_61 mU_62 mP_63 mL mM mO mR mD mB mK) (ws2 := wX5 cyI mo aMF aMT aMW aMU aMP aML aMM aMO aMR aMD aMB aMK mTh_60 mNo mAr mS mG mQ mWa mPa mLa mF mT mW_61 mU_62 mP_63 mL mM mO mR mD mB mK) ⟨hx, hb, hml, hown, hts⟩ (c_X5_put l dC dI cyI mo aMF aMT aMW aMU aMP aML aMM aMO aMR aMD aMB aMK H.size mTh_60 mNo mAr mS mG mQ mWa mPa mLa mF mT mW mU mP mL mM mO mR mD mB mK p0 p1 p2 _ e9) (cwV 3 hts gX5_piece_X5_put rfl rfl rfl (by decide +kernel) ⟨Nat.le_of_ble_eq_true rfl, Nat.le_of_ble_eq_true rfl⟩) hK hP hD hS hA [0, 1, 2, 3, 4, 5, 6, 7, 8, 9, 10, 11, 12] [] [0, 1, 2, 3, 4, 5, 6, 7, 8, 9, 10, 11, 12] [0] rfl rfl rfl rfl (by decide) rfl rfl rfl 5 0 rfl rfl rfl hl.1 (Nat.le_of_ble_eq_true rfl) (Nat.le_of_ble_eq_true rfl) (Nat.le_of_ble_eq_true rfl) rfl dX5_piece_99 (fun H locs hP hD hS => ?_)
            refine lv_aload_n hx hb dX5_piece_102 rfl (lv_at hl 1 rfl) ?_
            refine lv_iload_n hx hb dX5_piece_103 rfl (lv_at hl 2 rfl) ?_
            obtain ⟨r64, e9, h⟩ := bd h
            refine q_callVi (ret := r64) (As := [.int p0]) (w1 := wX5 cyI mo aMF aMT aMW aMU aMP aML aMM aMO aMR aMD aMB aMK mTh_60 mNo mAr mS mG mQ mWa mPa mLa mF mT mW_61 mU_62 mP_63 mL mM mO mR mD mB mK) (ws2 := wX5 cyI mo aMF aMT aMW aMU aMP aML aMM aMO aMR aMD aMB aMK mTh_60 mNo mAr mS mG mQ mWa mPa mLa mF mT mW_61 mU_62 mP_63 mL mM mO mR mD mB mK) ⟨hx, hb, hml, hown, hts⟩ (c_X5_capacityOf l dC dI cyI mo aMF aMT aMW aMU aMP aML aMM aMO aMR aMD aMB aMK H.size mTh_60 mNo mAr mS mG mQ mWa mPa mLa mF mT mW_61 mU_62 mP_63 mL mM mO mR mD mB mK p0 N _ e9) (cwV 1 hts gX5_piece_X5_capacityOf rfl rfl rfl (by decide +kernel) ⟨Nat.le_of_ble_eq_true rfl, Nat.le_of_ble_eq_true rfl⟩) hK hP hD hS hA [0, 1, 2, 3, 4, 5, 6, 7, 8, 9, 10, 11, 12] [] [0, 1, 2, 3, 4, 5, 6, 7, 8, 9, 10, 11, 12] [0] rfl rfl rfl rfl (by decide) rfl rfl rfl 5 0 rfl rfl rfl hl.1 (Nat.le_of_ble_eq_true rfl) (Nat.le_of_ble_eq_true rfl) (Nat.le_of_ble_eq_true rfl) rfl dX5_piece_104 (fun H locs hP hD hS => ?_)
            cases h
            exact q_iret hQ hx hb hr hlocks hP hK hD hS dX5_piece_107
          · have h := ipos c9 h
            refine lv_iconst (v := 0) hx hb dX5_piece_93 (by decide) ?_
            cases h
            exact q_iret hQ hx hb hr hlocks hP hK hD hS dX5_piece_94
set_option maxHeartbeats 4000000 in
set_option maxRecDepth 100000 in
theorem c_X5_demand (l : Launch) (dC : Nat → ClassId) (dI : Nat → Nat → Nat) (cyI : ClassId) (mo aMF aMT aMW aMU aMP aML aMM aMO aMR aMD aMB aMK : Nat) (sz : Nat) (mTh mNo mAr mS mG mQ mWa mPa mLa : Int32) (mF mT mW mU mP mL mM mO mR mD mB mK : Nat → Int32) (p0 p1 p2 : Int32) (res : Int32 × Int32 × Int32 × Int32) (h : pX5_demand mNo mS mG mQ p0 p1 p2 = some res) : Met l yX5_demand wsX5_demand { frames := 2, cells := 0, slots := 0, locals := 43 } (va_Pc [.ref mo, .int p0, .int p1, .int p2] (zPre (dC, dI) (wX5 cyI mo aMF aMT aMW aMU aMP aML aMM aMO aMR aMD aMB aMK mTh mNo mAr mS mG mQ mWa mPa mLa mF mT mW mU mP mL mM mO mR mD mB mK) [(cyI, .int)] sz)) (zQv (dC, dI) (wX5 cyI mo aMF aMT aMW aMU aMP aML aMM aMO aMR aMD aMB aMK res.1 mNo mAr res.2.1 res.2.2.1 res.2.2.2 mWa mPa mLa mF mT mW mU mP mL mM mO mR mD mB mK) [(cyI, .int)] (va_A (wX5 cyI mo aMF aMT aMW aMU aMP aML aMM aMO aMR aMD aMB aMK mTh mNo mAr mS mG mQ mWa mPa mLa mF mT mW mU mP mL mM mO mR mD mB mK) sz)) 0 0 (va_A (wX5 cyI mo aMF aMT aMW aMU aMP aML aMM aMO aMR aMD aMB aMK mTh mNo mAr mS mG mQ mWa mPa mLa mF mT mW mU mP mL mM mO mR mD mB mK) sz) := by
  refine q_ofWv (cc := cX5_demand) (maxL := 5) (rt := none) (by decide) rfl (Nat.le_of_ble_eq_true rfl) ?_
  intro p e s m args below meth c ls A Q H locs hQ hx hb hr hts hown hlocks hml hA hK hP hD hS hl
  have hl : lv_has ls 5 [(0, .ref mo), (1, .int p0), (2, .int p1), (3, .int p2)] := hl
  have k0 := hts (.fieldLink RX5 81 "ConvexConduitModel" "source" "I") (by decide +kernel)
  have k1 : ∀ w ∈ u_ws RX5 TX5 21, w ∈ wsX5_demand := by decide +kernel
  have k2 := hts (.fieldLink RX5 25 "ConvexConduitModel" "target" "I") (by decide +kernel)
  have k3 := hts (.fieldLink RX5 84 "ConvexConduitModel" "amount" "I") (by decide +kernel)
  unfold pX5_demand at h
  refine lv_iload_n hx hb dX5_demand_0 rfl (lv_at hl 1 rfl) ?_
  refine lv_iload_n hx hb dX5_demand_1 rfl (lv_at hl 2 rfl) ?_
  refine lv_icmp_eq (tgt := 19) hx hb dX5_demand_2 (by decide) (fun c9 => ?_) (fun c9 => ?_)
  · have h := ipos c9 h
    refine lv_iconst (v := 0) hx hb dX5_demand_19 (by decide) ?_
    refine lv_istore (lv' := [(4, .int 0), (0, .ref mo), (1, .int p0), (2, .int p1), (3, .int p2)]) hx hb dX5_demand_20 hl (by decide) rfl (fun ls hl => ?_)
    refine lv_aload_n hx hb dX5_demand_22 rfl (lv_at hl 1 rfl) ?_
    refine lv_aload_n hx hb dX5_demand_23 rfl (lv_at hl 1 rfl) ?_
    refine lv_iload_n hx hb dX5_demand_24 rfl (lv_at hl 2 rfl) ?_
    obtain ⟨b1, e9, h⟩ := bd h
    refine q_callVi (ret := b2i b1) (As := [.int p0]) (w1 := wX5 cyI mo aMF aMT aMW aMU aMP aML aMM aMO aMR aMD aMB aMK mTh mNo mAr mS mG mQ mWa mPa mLa mF mT mW mU mP mL mM mO mR mD mB mK) (ws2 := wX5 cyI mo aMF aMT aMW aMU aMP aML aMM aMO aMR aMD aMB aMK mTh mNo mAr mS mG mQ mWa mPa mLa mF mT mW mU mP mL mM mO mR mD mB mK) ⟨hx, hb, hml, hown, hts⟩ (c_X5_isNode l dC dI cyI mo aMF aMT aMW aMU aMP aML aMM aMO aMR aMD aMB aMK H.size mTh mNo mAr mS mG mQ mWa mPa mLa mF mT mW mU mP mL mM mO mR mD mB mK p0 _ e9) (cwV 1 hts gX5_demand_X5_isNode rfl rfl rfl (by decide +kernel) ⟨Nat.le_of_ble_eq_true rfl, Nat.le_of_ble_eq_true rfl⟩) hK hP hD hS hA [0, 1, 2, 3, 4, 5, 6, 7, 8, 9, 10, 11, 12] [] [0, 1, 2, 3, 4, 5, 6, 7, 8, 9, 10, 11, 12] [0] rfl rfl rfl rfl (by decide) rfl rfl rfl 5 0 rfl rfl rfl hl.1 (Nat.le_of_ble_eq_true rfl) (Nat.le_of_ble_eq_true rfl) (Nat.le_of_ble_eq_true rfl) rfl dX5_demand_25 (fun H locs hP hD hS => ?_)
    refine lv_if_eq (tgt := 39) hx hb dX5_demand_28 (by decide) (fun c9 => ?_) (fun c9 => ?_)
    · have h := ipos c9 h
      refine lv_iconst (v := 1) hx hb dX5_demand_39 (by decide) ?_
      refine lv_goto (tgt := 53) hx hb dX5_demand_40 (by decide) ?_
      obtain ⟨b2, mTh_3, e9, h⟩ := bd2 h
      refine q_callVi (ret := b2i b2) (As := [.int 1]) (w1 := wX5 cyI mo aMF aMT aMW aMU aMP aML aMM aMO aMR aMD aMB aMK mTh_3 mNo mAr mS mG mQ mWa mPa mLa mF mT mW mU mP mL mM mO mR mD mB mK) (ws2 := wX5 cyI mo aMF aMT aMW aMU aMP aML aMM aMO aMR aMD aMB aMK mTh_3 mNo mAr mS mG mQ mWa mPa mLa mF mT mW mU mP mL mM mO mR mD mB mK) ⟨hx, hb, hml, hown, hts⟩ (c_X5_goesWell l dC dI cyI mo aMF aMT aMW aMU aMP aML aMM aMO aMR aMD aMB aMK H.size mTh mNo mAr mS mG mQ mWa mPa mLa mF mT mW mU mP mL mM mO mR mD mB mK 1 _ e9) (cwV 1 hts gX5_demand_X5_goesWell rfl rfl rfl (by decide +kernel) ⟨Nat.le_of_ble_eq_true rfl, Nat.le_of_ble_eq_true rfl⟩) hK hP hD hS hA [0, 1, 2, 3, 4, 5, 6, 7, 8, 9, 10, 11, 12] [] [0, 1, 2, 3, 4, 5, 6, 7, 8, 9, 10, 11, 12] [0] rfl rfl rfl rfl (by decide) rfl rfl rfl 5 0 rfl rfl rfl hl.1 (Nat.le_of_ble_eq_true rfl) (Nat.le_of_ble_eq_true rfl) (Nat.le_of_ble_eq_true rfl) rfl dX5_demand_53 (fun H locs hP hD hS => ?_)
      refine lv_if_eq (tgt := 74) hx hb dX5_demand_56 (by decide) (fun c9 => ?_) (fun c9 => ?_)
      · have h := ipos c9 h
        cases h
        exact q_vret hQ hx hb hr hlocks hP hK hD hS dX5_demand_74
      · have h := ineg c9 h
        refine lv_aload_n hx hb dX5_demand_59 rfl (lv_at hl 1 rfl) ?_
        refine lv_iload_n hx hb dX5_demand_60 rfl (lv_at hl 2 rfl) ?_
        refine va_put (D := (dC, dI)) (ci := 5) (v := .int p0) (ty := .int) (C := RX5) (T := TX5) (N := 21) hx hb hts k1 tyX5 tyX5_ok nmX5 hown hK hP hD hS 0 rfl rfl 8 (by decide) k0 (fun _ h9 => h9) rfl (by decide +kernel) rfl rfl (Nat.le_of_ble_eq_true rfl) dX5_demand_61 (fun H locs hP hD hS => ?_)
        have hP : va_P (dC, dI) vwCl (wX5 cyI mo aMF aMT aMW aMU aMP aML aMM aMO aMR aMD aMB aMK mTh_3 mNo mAr p0 mG mQ mWa mPa mLa mF mT mW mU mP mL mM mO mR mD mB mK) H := hP
        have hD : va_D A (wX5 cyI mo aMF aMT aMW aMU aMP aML aMM aMO aMR aMD aMB aMK mTh_3 mNo mAr p0 mG mQ mWa mPa mLa mF mT mW mU mP mL mM mO mR mD mB mK) := hD
        refine lv_aload_n hx hb dX5_demand_64 rfl (lv_at hl 1 rfl) ?_
        refine lv_iload_n hx hb dX5_demand_65 rfl (lv_at hl 3 rfl) ?_
        refine va_put (D := (dC, dI)) (ci := 5) (v := .int p1) (ty := .int) (C := RX5) (T := TX5) (N := 21) hx hb hts k1 tyX5 tyX5_ok nmX5 hown hK hP hD hS 0 rfl rfl 9 (by decide) k2 (fun _ h9 => h9) rfl (by decide +kernel) rfl rfl (Nat.le_of_ble_eq_true rfl) dX5_demand_66 (fun H locs hP hD hS => ?_)
        have hP : va_P (dC, dI) vwCl (wX5 cyI mo aMF aMT aMW aMU aMP aML aMM aMO aMR aMD aMB aMK mTh_3 mNo mAr p0 p1 mQ mWa mPa mLa mF mT mW mU mP mL mM mO mR mD mB mK) H := hP
        have hD : va_D A (wX5 cyI mo aMF aMT aMW aMU aMP aML aMM aMO aMR aMD aMB aMK mTh_3 mNo mAr p0 p1 mQ mWa mPa mLa mF mT mW mU mP mL mM mO mR mD mB mK) := hD
        refine lv_aload_n hx hb dX5_demand_69 rfl (lv_at hl 1 rfl) ?_
        refine lv_iload_n hx hb dX5_demand_70 rfl (lv_at hl 4 rfl) ?_
        refine va_put (D := (dC, dI)) (ci := 5) (v := .int p2) (ty := .int) (C := RX5) (T := TX5) (N := 21) hx hb hts k1 tyX5 tyX5_ok nmX5 hown hK hP hD hS 0 rfl rfl 10 (by decide) k3 (fun _ h9 => h9) rfl (by decide +kernel) rfl rfl (Nat.le_of_ble_eq_true rfl) dX5_demand_71 (fun H locs hP hD hS => ?_)
        have hP : va_P (dC, dI) vwCl (wX5 cyI mo aMF aMT aMW aMU aMP aML aMM aMO aMR aMD aMB aMK mTh_3 mNo mAr p0 p1 p2 mWa mPa mLa mF mT mW mU mP mL mM mO mR mD mB mK) H := hP
        have hD : va_D A (wX5 cyI mo aMF aMT aMW aMU aMP aML aMM aMO aMR aMD aMB aMK mTh_3 mNo mAr p0 p1 p2 mWa mPa mLa mF mT mW mU mP mL mM mO mR mD mB mK) := hD
        cases h
        exact q_vret hQ hx hb hr hlocks hP hK hD hS dX5_demand_74
    · have h := ineg c9 h
      refine lv_aload_n hx hb dX5_demand_31 rfl (lv_at hl 1 rfl) ?_
      refine lv_iload_n hx hb dX5_demand_32 rfl (lv_at hl 3 rfl) ?_
      obtain ⟨b4, e9, h⟩ := bd h
      refine q_callVi (ret := b2i b4) (As := [.int p1]) (w1 := wX5 cyI mo aMF aMT aMW aMU aMP aML aMM aMO aMR aMD aMB aMK mTh mNo mAr mS mG mQ mWa mPa mLa mF mT mW mU mP mL mM mO mR mD mB mK) (ws2 := wX5 cyI mo aMF aMT aMW aMU aMP aML aMM aMO aMR aMD aMB aMK mTh mNo mAr mS mG mQ mWa mPa mLa mF mT mW mU mP mL mM mO mR mD mB mK) ⟨hx, hb, hml, hown, hts⟩ (c_X5_isNode l dC dI cyI mo aMF aMT aMW aMU aMP aML aMM aMO aMR aMD aMB aMK H.size mTh mNo mAr mS mG mQ mWa mPa mLa mF mT mW mU mP mL mM mO mR mD mB mK p1 _ e9) (cwV 1 hts gX5_demand_X5_isNode rfl rfl rfl (by decide +kernel) ⟨Nat.le_of_ble_eq_true rfl, Nat.le_of_ble_eq_true rfl⟩) hK hP hD hS hA [0, 1, 2, 3, 4, 5, 6, 7, 8, 9, 10, 11, 12] [] [0, 1, 2, 3, 4, 5, 6, 7, 8, 9, 10, 11, 12] [0] rfl rfl rfl rfl (by decide) rfl rfl rfl 5 0 rfl rfl rfl hl.1 (Nat.le_of_ble_eq_true rfl) (Nat.le_of_ble_eq_true rfl) (Nat.le_of_ble_eq_true rfl) rfl dX5_demand_33 (fun H locs hP hD hS => ?_)
      refine lv_if_ne (tgt := 43) hx hb dX5_demand_36 (by decide) (fun c9 => ?_) (fun c9 => ?_)
      · have h := ineg c9 h
        refine lv_iload hx hb dX5_demand_43 (lv_at hl 0 rfl) ?_
        refine lv_if_eq (tgt := 52) hx hb dX5_demand_45 (by decide) (fun _ => ?_) (fun c9 => absurd (by decide) c9)
        refine lv_iconst (v := 2) hx hb dX5_demand_52 (by decide) ?_
        obtain ⟨b5, mTh_6, e9, h⟩ := bd2 h
        refine q_callVi (ret := b2i b5) (As := [.int 2]) (w1 := wX5 cyI mo aMF aMT aMW aMU aMP aML aMM aMO aMR aMD aMB aMK mTh_6 mNo mAr mS mG mQ mWa mPa mLa mF mT mW mU mP mL mM mO mR mD mB mK) (ws2 := wX5 cyI mo aMF aMT aMW aMU aMP aML aMM aMO aMR aMD aMB aMK mTh_6 mNo mAr mS mG mQ mWa mPa mLa mF mT mW mU mP mL mM mO mR mD mB mK) ⟨hx, hb, hml, hown, hts⟩ (c_X5_goesWell l dC dI cyI mo aMF aMT aMW aMU aMP aML aMM aMO aMR aMD aMB aMK H.size mTh mNo mAr mS mG mQ mWa mPa mLa mF mT mW mU mP mL mM mO mR mD mB mK 2 _ e9) (cwV 1 hts gX5_demand_X5_goesWell rfl rfl rfl (by decide +kernel) ⟨Nat.le_of_ble_eq_true rfl, Nat.le_of_ble_eq_true rfl⟩) hK hP hD hS hA [0, 1, 2, 3, 4, 5, 6, 7, 8, 9, 10, 11, 12] [] [0, 1, 2, 3, 4, 5, 6, 7, 8, 9, 10, 11, 12] [0] rfl rfl rfl rfl (by decide) rfl rfl rfl 5 0 rfl rfl rfl hl.1 (Nat.le_of_ble_eq_true rfl) (Nat.le_of_ble_eq_true rfl) (Nat.le_of_ble_eq_true rfl) rfl dX5_demand_53 (fun H locs hP hD hS => ?_)
        refine lv_if_eq (tgt := 74) hx hb dX5_demand_56 (by decide) (fun c9 => ?_) (fun c9 => ?_)
        · have h := ipos c9 h
          cases h
          exact q_vret hQ hx hb hr hlocks hP hK hD hS dX5_demand_74
        · have h := ineg c9 h
          refine lv_aload_n hx hb dX5_demand_59 rfl (lv_at hl 1 rfl) ?_
          refine lv_iload_n hx hb dX5_demand_60 rfl (lv_at hl 2 rfl) ?_
          refine va_put (D := (dC, dI)) (ci := 5) (v := .int p0) (ty := .int) (C := RX5) (T := TX5) (N := 21) hx hb hts k1 tyX5 tyX5_ok nmX5 hown hK hP hD hS 0 rfl rfl 8 (by decide) k0 (fun _ h9 => h9) rfl (by decide +kernel) rfl rfl (Nat.le_of_ble_eq_true rfl) dX5_demand_61 (fun H locs hP hD hS => ?_)
          have hP : va_P (dC, dI) vwCl (wX5 cyI mo aMF aMT aMW aMU aMP aML aMM aMO aMR aMD aMB aMK mTh_6 mNo mAr p0 mG mQ mWa mPa mLa mF mT mW mU mP mL mM mO mR mD mB mK) H := hP
          have hD : va_D A (wX5 cyI mo aMF aMT aMW aMU aMP aML aMM aMO aMR aMD aMB aMK mTh_6 mNo mAr p0 mG mQ mWa mPa mLa mF mT mW mU mP mL mM mO mR mD mB mK) := hD
          refine lv_aload_n hx hb dX5_demand_64 rfl (lv_at hl 1 rfl) ?_
          refine lv_iload_n hx hb dX5_demand_65 rfl (lv_at hl 3 rfl) ?_
          refine va_put (D := (dC, dI)) (ci := 5) (v := .int p1) (ty := .int) (C := RX5) (T := TX5) (N := 21) hx hb hts k1 tyX5 tyX5_ok nmX5 hown hK hP hD hS 0 rfl rfl 9 (by decide) k2 (fun _ h9 => h9) rfl (by decide +kernel) rfl rfl (Nat.le_of_ble_eq_true rfl) dX5_demand_66 (fun H locs hP hD hS => ?_)
          have hP : va_P (dC, dI) vwCl (wX5 cyI mo aMF aMT aMW aMU aMP aML aMM aMO aMR aMD aMB aMK mTh_6 mNo mAr p0 p1 mQ mWa mPa mLa mF mT mW mU mP mL mM mO mR mD mB mK) H := hP
          have hD : va_D A (wX5 cyI mo aMF aMT aMW aMU aMP aML aMM aMO aMR aMD aMB aMK mTh_6 mNo mAr p0 p1 mQ mWa mPa mLa mF mT mW mU mP mL mM mO mR mD mB mK) := hD
          refine lv_aload_n hx hb dX5_demand_69 rfl (lv_at hl 1 rfl) ?_
          refine lv_iload_n hx hb dX5_demand_70 rfl (lv_at hl 4 rfl) ?_
          refine va_put (D := (dC, dI)) (ci := 5) (v := .int p2) (ty := .int) (C := RX5) (T := TX5) (N := 21) hx hb hts k1 tyX5 tyX5_ok nmX5 hown hK hP hD hS 0 rfl rfl 10 (by decide) k3 (fun _ h9 => h9) rfl (by decide +kernel) rfl rfl (Nat.le_of_ble_eq_true rfl) dX5_demand_71 (fun H locs hP hD hS => ?_)
          have hP : va_P (dC, dI) vwCl (wX5 cyI mo aMF aMT aMW aMU aMP aML aMM aMO aMR aMD aMB aMK mTh_6 mNo mAr p0 p1 p2 mWa mPa mLa mF mT mW mU mP mL mM mO mR mD mB mK) H := hP
          have hD : va_D A (wX5 cyI mo aMF aMT aMW aMU aMP aML aMM aMO aMR aMD aMB aMK mTh_6 mNo mAr p0 p1 p2 mWa mPa mLa mF mT mW mU mP mL mM mO mR mD mB mK) := hD
          cases h
          exact q_vret hQ hx hb hr hlocks hP hK hD hS dX5_demand_74
      · have h := ipos c9 h
        refine lv_iconst (v := 1) hx hb dX5_demand_39 (by decide) ?_
        refine lv_goto (tgt := 53) hx hb dX5_demand_40 (by decide) ?_
        obtain ⟨b7, mTh_8, e9, h⟩ := bd2 h
        refine q_callVi (ret := b2i b7) (As := [.int 1]) (w1 := wX5 cyI mo aMF aMT aMW aMU aMP aML aMM aMO aMR aMD aMB aMK mTh_8 mNo mAr mS mG mQ mWa mPa mLa mF mT mW mU mP mL mM mO mR mD mB mK) (ws2 := wX5 cyI mo aMF aMT aMW aMU aMP aML aMM aMO aMR aMD aMB aMK mTh_8 mNo mAr mS mG mQ mWa mPa mLa mF mT mW mU mP mL mM mO mR mD mB mK) ⟨hx, hb, hml, hown, hts⟩ (c_X5_goesWell l dC dI cyI mo aMF aMT aMW aMU aMP aML aMM aMO aMR aMD aMB aMK H.size mTh mNo mAr mS mG mQ mWa mPa mLa mF mT mW mU mP mL mM mO mR mD mB mK 1 _ e9) (cwV 1 hts gX5_demand_X5_goesWell rfl rfl rfl (by decide +kernel) ⟨Nat.le_of_ble_eq_true rfl, Nat.le_of_ble_eq_true rfl⟩) hK hP hD hS hA [0, 1, 2, 3, 4, 5, 6, 7, 8, 9, 10, 11, 12] [] [0, 1, 2, 3, 4, 5, 6, 7, 8, 9, 10, 11, 12] [0] rfl rfl rfl rfl (by decide) rfl rfl rfl 5 0 rfl rfl rfl hl.1 (Nat.le_of_ble_eq_true rfl) (Nat.le_of_ble_eq_true rfl) (Nat.le_of_ble_eq_true rfl) rfl dX5_demand_53 (fun H locs hP hD hS => ?_)
        refine lv_if_eq (tgt := 74) hx hb dX5_demand_56 (by decide) (fun c9 => ?_) (fun c9 => ?_)
        · have h := ipos c9 h
          cases h
          exact q_vret hQ hx hb hr hlocks hP hK hD hS dX5_demand_74
        · have h := ineg c9 h
          refine lv_aload_n hx hb dX5_demand_59 rfl (lv_at hl 1 rfl) ?_
          refine lv_iload_n hx hb dX5_demand_60 rfl (lv_at hl 2 rfl) ?_
          refine va_put (D := (dC, dI)) (ci := 5) (v := .int p0) (ty := .int) (C := RX5) (T := TX5) (N := 21) hx hb hts k1 tyX5 tyX5_ok nmX5 hown hK hP hD hS 0 rfl rfl 8 (by decide) k0 (fun _ h9 => h9) rfl (by decide +kernel) rfl rfl (Nat.le_of_ble_eq_true rfl) dX5_demand_61 (fun H locs hP hD hS => ?_)
          have hP : va_P (dC, dI) vwCl (wX5 cyI mo aMF aMT aMW aMU aMP aML aMM aMO aMR aMD aMB aMK mTh_8 mNo mAr p0 mG mQ mWa mPa mLa mF mT mW mU mP mL mM mO mR mD mB mK) H := hP
          have hD : va_D A (wX5 cyI mo aMF aMT aMW aMU aMP aML aMM aMO aMR aMD aMB aMK mTh_8 mNo mAr p0 mG mQ mWa mPa mLa mF mT mW mU mP mL mM mO mR mD mB mK) := hD
          refine lv_aload_n hx hb dX5_demand_64 rfl (lv_at hl 1 rfl) ?_
          refine lv_iload_n hx hb dX5_demand_65 rfl (lv_at hl 3 rfl) ?_
          refine va_put (D := (dC, dI)) (ci := 5) (v := .int p1) (ty := .int) (C := RX5) (T := TX5) (N := 21) hx hb hts k1 tyX5 tyX5_ok nmX5 hown hK hP hD hS 0 rfl rfl 9 (by decide) k2 (fun _ h9 => h9) rfl (by decide +kernel) rfl rfl (Nat.le_of_ble_eq_true rfl) dX5_demand_66 (fun H locs hP hD hS => ?_)
          have hP : va_P (dC, dI) vwCl (wX5 cyI mo aMF aMT aMW aMU aMP aML aMM aMO aMR aMD aMB aMK mTh_8 mNo mAr p0 p1 mQ mWa mPa mLa mF mT mW mU mP mL mM mO mR mD mB mK) H := hP
          have hD : va_D A (wX5 cyI mo aMF aMT aMW aMU aMP aML aMM aMO aMR aMD aMB aMK mTh_8 mNo mAr p0 p1 mQ mWa mPa mLa mF mT mW mU mP mL mM mO mR mD mB mK) := hD
          refine lv_aload_n hx hb dX5_demand_69 rfl (lv_at hl 1 rfl) ?_
          refine lv_iload_n hx hb dX5_demand_70 rfl (lv_at hl 4 rfl) ?_
          refine va_put (D := (dC, dI)) (ci := 5) (v := .int p2) (ty := .int) (C := RX5) (T := TX5) (N := 21) hx hb hts k1 tyX5 tyX5_ok nmX5 hown hK hP hD hS 0 rfl rfl 10 (by decide) k3 (fun _ h9 => h9) rfl (by decide +kernel) rfl rfl (Nat.le_of_ble_eq_true rfl) dX5_demand_71 (fun H locs hP hD hS => ?_)
          have hP : va_P (dC, dI) vwCl (wX5 cyI mo aMF aMT aMW aMU aMP aML aMM aMO aMR aMD aMB aMK mTh_8 mNo mAr p0 p1 p2 mWa mPa mLa mF mT mW mU mP mL mM mO mR mD mB mK) H := hP
          have hD : va_D A (wX5 cyI mo aMF aMT aMW aMU aMP aML aMM aMO aMR aMD aMB aMK mTh_8 mNo mAr p0 p1 p2 mWa mPa mLa mF mT mW mU mP mL mM mO mR mD mB mK) := hD
          cases h
          exact q_vret hQ hx hb hr hlocks hP hK hD hS dX5_demand_74
  · have h := ineg c9 h
    refine lv_iload_n hx hb dX5_demand_5 rfl (lv_at hl 3 rfl) ?_
    refine lv_iconst (v := 0) hx hb dX5_demand_6 (by decide) ?_
    refine lv_bipush (v := 20) hx hb dX5_demand_7 (by decide) ?_
    obtain ⟨b9, e9, h⟩ := bd h
    refine q_callSi (ret := b2i b9) (As := [.int p2, .int 0, .int 20]) ⟨hx, hb, hml, hown, hts⟩ (c_X5_in l dC dI H.size p2 0 20 _ e9) (va_cwS 3 hts gX5_demand_X5_in rfl rfl rfl (by decide +kernel) ⟨Nat.le_of_ble_eq_true rfl, Nat.le_of_ble_eq_true rfl⟩) hK hP hD hS hA [0, 1, 2, 3, 4, 5, 6, 7, 8, 9, 10, 11, 12] rfl rfl rfl hl.1 (Nat.le_of_ble_eq_true rfl) (Nat.le_of_ble_eq_true rfl) (Nat.le_of_ble_eq_true rfl) rfl dX5_demand_9 (fun H locs hP hD hS => ?_)
    refine lv_if_eq (tgt := 19) hx hb dX5_demand_12 (by decide) (fun c9 => ?_) (fun c9 => ?_)
    · have h := ipos c9 h
      refine lv_iconst (v := 0) hx hb dX5_demand_19 (by decide) ?_
      refine lv_istore (lv' := [(4, .int 0), (0, .ref mo), (1, .int p0), (2, .int p1), (3, .int p2)]) hx hb dX5_demand_20 hl (by decide) rfl (fun ls hl => ?_)
      refine lv_aload_n hx hb dX5_demand_22 rfl (lv_at hl 1 rfl) ?_
      refine lv_aload_n hx hb dX5_demand_23 rfl (lv_at hl 1 rfl) ?_
      refine lv_iload_n hx hb dX5_demand_24 rfl (lv_at hl 2 rfl) ?_
      obtain ⟨b10, e9, h⟩ := bd h
      refine q_callVi (ret := b2i b10) (As := [.int p0]) (w1 := wX5 cyI mo aMF aMT aMW aMU aMP aML aMM aMO aMR aMD aMB aMK mTh mNo mAr mS mG mQ mWa mPa mLa mF mT mW mU mP mL mM mO mR mD mB mK) (ws2 := wX5 cyI mo aMF aMT aMW aMU aMP aML aMM aMO aMR aMD aMB aMK mTh mNo mAr mS mG mQ mWa mPa mLa mF mT mW mU mP mL mM mO mR mD mB mK) ⟨hx, hb, hml, hown, hts⟩ (c_X5_isNode l dC dI cyI mo aMF aMT aMW aMU aMP aML aMM aMO aMR aMD aMB aMK H.size mTh mNo mAr mS mG mQ mWa mPa mLa mF mT mW mU mP mL mM mO mR mD mB mK p0 _ e9) (cwV 1 hts gX5_demand_X5_isNode rfl rfl rfl (by decide +kernel) ⟨Nat.le_of_ble_eq_true rfl, Nat.le_of_ble_eq_true rfl⟩) hK hP hD hS hA [0, 1, 2, 3, 4, 5, 6, 7, 8, 9, 10, 11, 12] [] [0, 1, 2, 3, 4, 5, 6, 7, 8, 9, 10, 11, 12] [0] rfl rfl rfl rfl (by decide) rfl rfl rfl 5 0 rfl rfl rfl hl.1 (Nat.le_of_ble_eq_true rfl) (Nat.le_of_ble_eq_true rfl) (Nat.le_of_ble_eq_true rfl) rfl dX5_demand_25 (fun H locs hP hD hS => ?_)
      refine lv_if_eq (tgt := 39) hx hb dX5_demand_28 (by decide) (fun c9 => ?_) (fun c9 => ?_)
      · have h := ipos c9 h
        refine lv_iconst (v := 1) hx hb dX5_demand_39 (by decide) ?_
        refine lv_goto (tgt := 53) hx hb dX5_demand_40 (by decide) ?_
        obtain ⟨b11, mTh_12, e9, h⟩ := bd2 h
        refine q_callVi (ret := b2i b11) (As := [.int 1]) (w1 := wX5 cyI mo aMF aMT aMW aMU aMP aML aMM aMO aMR aMD aMB aMK mTh_12 mNo mAr mS mG mQ mWa mPa mLa mF mT mW mU mP mL mM mO mR mD mB mK) (ws2 := wX5 cyI mo aMF aMT aMW aMU aMP aML aMM aMO aMR aMD aMB aMK mTh_12 mNo mAr mS mG mQ mWa mPa mLa mF mT mW mU mP mL mM mO mR mD mB mK) ⟨hx, hb, hml, hown, hts⟩ (c_X5_goesWell l dC dI cyI mo aMF aMT aMW aMU aMP aML aMM aMO aMR aMD aMB aMK H.size mTh mNo mAr mS mG mQ mWa mPa mLa mF mT mW mU mP mL mM mO mR mD mB mK 1 _ e9) (cwV 1 hts gX5_demand_X5_goesWell rfl rfl rfl (by decide +kernel) ⟨Nat.le_of_ble_eq_true rfl, Nat.le_of_ble_eq_true rfl⟩) hK hP hD hS hA [0, 1, 2, 3, 4, 5, 6, 7, 8, 9, 10, 11, 12] [] [0, 1, 2, 3, 4, 5, 6, 7, 8, 9, 10, 11, 12] [0] rfl rfl rfl rfl (by decide) rfl rfl rfl 5 0 rfl rfl rfl hl.1 (Nat.le_of_ble_eq_true rfl) (Nat.le_of_ble_eq_true rfl) (Nat.le_of_ble_eq_true rfl) rfl dX5_demand_53 (fun H locs hP hD hS => ?_)
        refine lv_if_eq (tgt := 74) hx hb dX5_demand_56 (by decide) (fun c9 => ?_) (fun c9 => ?_)
        · have h := ipos c9 h
          cases h
          exact q_vret hQ hx hb hr hlocks hP hK hD hS dX5_demand_74
        · have h := ineg c9 h
          refine lv_aload_n hx hb dX5_demand_59 rfl (lv_at hl 1 rfl) ?_
          refine lv_iload_n hx hb dX5_demand_60 rfl (lv_at hl 2 rfl) ?_
          refine va_put (D := (dC, dI)) (ci := 5) (v := .int p0) (ty := .int) (C := RX5) (T := TX5) (N := 21) hx hb hts k1 tyX5 tyX5_ok nmX5 hown hK hP hD hS 0 rfl rfl 8 (by decide) k0 (fun _ h9 => h9) rfl (by decide +kernel) rfl rfl (Nat.le_of_ble_eq_true rfl) dX5_demand_61 (fun H locs hP hD hS => ?_)
          have hP : va_P (dC, dI) vwCl (wX5 cyI mo aMF aMT aMW aMU aMP aML aMM aMO aMR aMD aMB aMK mTh_12 mNo mAr p0 mG mQ mWa mPa mLa mF mT mW mU mP mL mM mO mR mD mB mK) H := hP
          have hD : va_D A (wX5 cyI mo aMF aMT aMW aMU aMP aML aMM aMO aMR aMD aMB aMK mTh_12 mNo mAr p0 mG mQ mWa mPa mLa mF mT mW mU mP mL mM mO mR mD mB mK) := hD
          refine lv_aload_n hx hb dX5_demand_64 rfl (lv_at hl 1 rfl) ?_
          refine lv_iload_n hx hb dX5_demand_65 rfl (lv_at hl 3 rfl) ?_
          refine va_put (D := (dC, dI)) (ci := 5) (v := .int p1) (ty := .int) (C := RX5) (T := TX5) (N := 21) hx hb hts k1 tyX5 tyX5_ok nmX5 hown hK hP hD hS 0 rfl rfl 9 (by decide) k2 (fun _ h9 => h9) rfl (by decide +kernel) rfl rfl (Nat.le_of_ble_eq_true rfl) dX5_demand_66 (fun H locs hP hD hS => ?_)
          have hP : va_P (dC, dI) vwCl (wX5 cyI mo aMF aMT aMW aMU aMP aML aMM aMO aMR aMD aMB aMK mTh_12 mNo mAr p0 p1 mQ mWa mPa mLa mF mT mW mU mP mL mM mO mR mD mB mK) H := hP
          have hD : va_D A (wX5 cyI mo aMF aMT aMW aMU aMP aML aMM aMO aMR aMD aMB aMK mTh_12 mNo mAr p0 p1 mQ mWa mPa mLa mF mT mW mU mP mL mM mO mR mD mB mK) := hD
          refine lv_aload_n hx hb dX5_demand_69 rfl (lv_at hl 1 rfl) ?_
          refine lv_iload_n hx hb dX5_demand_70 rfl (lv_at hl 4 rfl) ?_
          refine va_put (D := (dC, dI)) (ci := 5) (v := .int p2) (ty := .int) (C := RX5) (T := TX5) (N := 21) hx hb hts k1 tyX5 tyX5_ok nmX5 hown hK hP hD hS 0 rfl rfl 10 (by decide) k3 (fun _ h9 => h9) rfl (by decide +kernel) rfl rfl (Nat.le_of_ble_eq_true rfl) dX5_demand_71 (fun H locs hP hD hS => ?_)
          have hP : va_P (dC, dI) vwCl (wX5 cyI mo aMF aMT aMW aMU aMP aML aMM aMO aMR aMD aMB aMK mTh_12 mNo mAr p0 p1 p2 mWa mPa mLa mF mT mW mU mP mL mM mO mR mD mB mK) H := hP
          have hD : va_D A (wX5 cyI mo aMF aMT aMW aMU aMP aML aMM aMO aMR aMD aMB aMK mTh_12 mNo mAr p0 p1 p2 mWa mPa mLa mF mT mW mU mP mL mM mO mR mD mB mK) := hD
          cases h
          exact q_vret hQ hx hb hr hlocks hP hK hD hS dX5_demand_74
      · have h := ineg c9 h
        refine lv_aload_n hx hb dX5_demand_31 rfl (lv_at hl 1 rfl) ?_
        refine lv_iload_n hx hb dX5_demand_32 rfl (lv_at hl 3 rfl) ?_
        obtain ⟨b13, e9, h⟩ := bd h
        refine q_callVi (ret := b2i b13) (As := [.int p1]) (w1 := wX5 cyI mo aMF aMT aMW aMU aMP aML aMM aMO aMR aMD aMB aMK mTh mNo mAr mS mG mQ mWa mPa mLa mF mT mW mU mP mL mM mO mR mD mB mK) (ws2 := wX5 cyI mo aMF aMT aMW aMU aMP aML aMM aMO aMR aMD aMB aMK mTh mNo mAr mS mG mQ mWa mPa mLa mF mT mW mU mP mL mM mO mR mD mB mK) ⟨hx, hb, hml, hown, hts⟩ (c_X5_isNode l dC dI cyI mo aMF aMT aMW aMU aMP aML aMM aMO aMR aMD aMB aMK H.size mTh mNo mAr mS mG mQ mWa mPa mLa mF mT mW mU mP mL mM mO mR mD mB mK p1 _ e9) (cwV 1 hts gX5_demand_X5_isNode rfl rfl rfl (by decide +kernel) ⟨Nat.le_of_ble_eq_true rfl, Nat.le_of_ble_eq_true rfl⟩) hK hP hD hS hA [0, 1, 2, 3, 4, 5, 6, 7, 8, 9, 10, 11, 12] [] [0, 1, 2, 3, 4, 5, 6, 7, 8, 9, 10, 11, 12] [0] rfl rfl rfl rfl (by decide) rfl rfl rfl 5 0 rfl rfl rfl hl.1 (Nat.le_of_ble_eq_true rfl) (Nat.le_of_ble_eq_true rfl) (Nat.le_of_ble_eq_true rfl) rfl dX5_demand_33 (fun H locs hP hD hS => ?_)
        refine lv_if_ne (tgt := 43) hx hb dX5_demand_36 (by decide) (fun c9 => ?_) (fun c9 => ?_)
        · have h := ineg c9 h
          refine lv_iload hx hb dX5_demand_43 (lv_at hl 0 rfl) ?_
          refine lv_if_eq (tgt := 52) hx hb dX5_demand_45 (by decide) (fun _ => ?_) (fun c9 => absurd (by decide) c9)
          refine lv_iconst (v := 2) hx hb dX5_demand_52 (by decide) ?_
          obtain ⟨b14, mTh_15, e9, h⟩ := bd2 h
          refine q_callVi (ret := b2i b14) (As := [.int 2]) (w1 := wX5 cyI mo aMF aMT aMW aMU aMP aML aMM aMO aMR aMD aMB aMK mTh_15 mNo mAr mS mG mQ mWa mPa mLa mF mT mW mU mP mL mM mO mR mD mB mK) (ws2 := wX5 cyI mo aMF aMT aMW aMU aMP aML aMM aMO aMR aMD aMB aMK mTh_15 mNo mAr mS mG mQ mWa mPa mLa mF mT mW mU mP mL mM mO mR mD mB mK) ⟨hx, hb, hml, hown, hts⟩ (c_X5_goesWell l dC dI cyI mo aMF aMT aMW aMU aMP aML aMM aMO aMR aMD aMB aMK H.size mTh mNo mAr mS mG mQ mWa mPa mLa mF mT mW mU mP mL mM mO mR mD mB mK 2 _ e9) (cwV 1 hts gX5_demand_X5_goesWell rfl rfl rfl (by decide +kernel) ⟨Nat.le_of_ble_eq_true rfl, Nat.le_of_ble_eq_true rfl⟩) hK hP hD hS hA [0, 1, 2, 3, 4, 5, 6, 7, 8, 9, 10, 11, 12] [] [0, 1, 2, 3, 4, 5, 6, 7, 8, 9, 10, 11, 12] [0] rfl rfl rfl rfl (by decide) rfl rfl rfl 5 0 rfl rfl rfl hl.1 (Nat.le_of_ble_eq_true rfl) (Nat.le_of_ble_eq_true rfl) (Nat.le_of_ble_eq_true rfl) rfl dX5_demand_53 (fun H locs hP hD hS => ?_)
          refine lv_if_eq (tgt := 74) hx hb dX5_demand_56 (by decide) (fun c9 => ?_) (fun c9 => ?_)
          · have h := ipos c9 h
            cases h
            exact q_vret hQ hx hb hr hlocks hP hK hD hS dX5_demand_74
          · have h := ineg c9 h
            refine lv_aload_n hx hb dX5_demand_59 rfl (lv_at hl 1 rfl) ?_
            refine lv_iload_n hx hb dX5_demand_60 rfl (lv_at hl 2 rfl) ?_
            refine va_put (D := (dC, dI)) (ci := 5) (v := .int p0) (ty := .int) (C := RX5) (T := TX5) (N := 21) hx hb hts k1 tyX5 tyX5_ok nmX5 hown hK hP hD hS 0 rfl rfl 8 (by decide) k0 (fun _ h9 => h9) rfl (by decide +kernel) rfl rfl (Nat.le_of_ble_eq_true rfl) dX5_demand_61 (fun H locs hP hD hS => ?_)
            have hP : va_P (dC, dI) vwCl (wX5 cyI mo aMF aMT aMW aMU aMP aML aMM aMO aMR aMD aMB aMK mTh_15 mNo mAr p0 mG mQ mWa mPa mLa mF mT mW mU mP mL mM mO mR mD mB mK) H := hP
            have hD : va_D A (wX5 cyI mo aMF aMT aMW aMU aMP aML aMM aMO aMR aMD aMB aMK mTh_15 mNo mAr p0 mG mQ mWa mPa mLa mF mT mW mU mP mL mM mO mR mD mB mK) := hD
            refine lv_aload_n hx hb dX5_demand_64 rfl (lv_at hl 1 rfl) ?_
            refine lv_iload_n hx hb dX5_demand_65 rfl (lv_at hl 3 rfl) ?_
            refine va_put (D := (dC, dI)) (ci := 5) (v := .int p1) (ty := .int) (C := RX5) (T := TX5) (N := 21) hx hb hts k1 tyX5 tyX5_ok nmX5 hown hK hP hD hS 0 rfl rfl 9 (by decide) k2 (fun _ h9 => h9) rfl (by decide +kernel) rfl rfl (Nat.le_of_ble_eq_true rfl) dX5_demand_66 (fun H locs hP hD hS => ?_)
            have hP : va_P (dC, dI) vwCl (wX5 cyI mo aMF aMT aMW aMU aMP aML aMM aMO aMR aMD aMB aMK mTh_15 mNo mAr p0 p1 mQ mWa mPa mLa mF mT mW mU mP mL mM mO mR mD mB mK) H := hP
            have hD : va_D A (wX5 cyI mo aMF aMT aMW aMU aMP aML aMM aMO aMR aMD aMB aMK mTh_15 mNo mAr p0 p1 mQ mWa mPa mLa mF mT mW mU mP mL mM mO mR mD mB mK) := hD
            refine lv_aload_n hx hb dX5_demand_69 rfl (lv_at hl 1 rfl) ?_
            refine lv_iload_n hx hb dX5_demand_70 rfl (lv_at hl 4 rfl) ?_
            refine va_put (D := (dC, dI)) (ci := 5) (v := .int p2) (ty := .int) (C := RX5) (T := TX5) (N := 21) hx hb hts k1 tyX5 tyX5_ok nmX5 hown hK hP hD hS 0 rfl rfl 10 (by decide) k3 (fun _ h9 => h9) rfl (by decide +kernel) rfl rfl (Nat.le_of_ble_eq_true rfl) dX5_demand_71 (fun H locs hP hD hS => ?_)
            have hP : va_P (dC, dI) vwCl (wX5 cyI mo aMF aMT aMW aMU aMP aML aMM aMO aMR aMD aMB aMK mTh_15 mNo mAr p0 p1 p2 mWa mPa mLa mF mT mW mU mP mL mM mO mR mD mB mK) H := hP
            have hD : va_D A (wX5 cyI mo aMF aMT aMW aMU aMP aML aMM aMO aMR aMD aMB aMK mTh_15 mNo mAr p0 p1 p2 mWa mPa mLa mF mT mW mU mP mL mM mO mR mD mB mK) := hD
            cases h
            exact q_vret hQ hx hb hr hlocks hP hK hD hS dX5_demand_74
        · have h := ipos c9 h
          refine lv_iconst (v := 1) hx hb dX5_demand_39 (by decide) ?_
          refine lv_goto (tgt := 53) hx hb dX5_demand_40 (by decide) ?_
          obtain ⟨b16, mTh_17, e9, h⟩ := bd2 h
          refine q_callVi (ret := b2i b16) (As := [.int 1]) (w1 := wX5 cyI mo aMF aMT aMW aMU aMP aML aMM aMO aMR aMD aMB aMK mTh_17 mNo mAr mS mG mQ mWa mPa mLa mF mT mW mU mP mL mM mO mR mD mB mK) (ws2 := wX5 cyI mo aMF aMT aMW aMU aMP aML aMM aMO aMR aMD aMB aMK mTh_17 mNo mAr mS mG mQ mWa mPa mLa mF mT mW mU mP mL mM mO mR mD mB mK) ⟨hx, hb, hml, hown, hts⟩ (c_X5_goesWell l dC dI cyI mo aMF aMT aMW aMU aMP aML aMM aMO aMR aMD aMB aMK H.size mTh mNo mAr mS mG mQ mWa mPa mLa mF mT mW mU mP mL mM mO mR mD mB mK 1 _ e9) (cwV 1 hts gX5_demand_X5_goesWell rfl rfl rfl (by decide +kernel) ⟨Nat.le_of_ble_eq_true rfl, Nat.le_of_ble_eq_true rfl⟩) hK hP hD hS hA [0, 1, 2, 3, 4, 5, 6, 7, 8, 9, 10, 11, 12] [] [0, 1, 2, 3, 4, 5, 6, 7, 8, 9, 10, 11, 12] [0] rfl rfl rfl rfl (by decide) rfl rfl rfl 5 0 rfl rfl rfl hl.1 (Nat.le_of_ble_eq_true rfl) (Nat.le_of_ble_eq_true rfl) (Nat.le_of_ble_eq_true rfl) rfl dX5_demand_53 (fun H locs hP hD hS => ?_)
          refine lv_if_eq (tgt := 74) hx hb dX5_demand_56 (by decide) (fun c9 => ?_) (fun c9 => ?_)
          · have h := ipos c9 h
            cases h
            exact q_vret hQ hx hb hr hlocks hP hK hD hS dX5_demand_74
          · have h := ineg c9 h
            refine lv_aload_n hx hb dX5_demand_59 rfl (lv_at hl 1 rfl) ?_
            refine lv_iload_n hx hb dX5_demand_60 rfl (lv_at hl 2 rfl) ?_
            refine va_put (D := (dC, dI)) (ci := 5) (v := .int p0) (ty := .int) (C := RX5) (T := TX5) (N := 21) hx hb hts k1 tyX5 tyX5_ok nmX5 hown hK hP hD hS 0 rfl rfl 8 (by decide) k0 (fun _ h9 => h9) rfl (by decide +kernel) rfl rfl (Nat.le_of_ble_eq_true rfl) dX5_demand_61 (fun H locs hP hD hS => ?_)
            have hP : va_P (dC, dI) vwCl (wX5 cyI mo aMF aMT aMW aMU aMP aML aMM aMO aMR aMD aMB aMK mTh_17 mNo mAr p0 mG mQ mWa mPa mLa mF mT mW mU mP mL mM mO mR mD mB mK) H := hP
            have hD : va_D A (wX5 cyI mo aMF aMT aMW aMU aMP aML aMM aMO aMR aMD aMB aMK mTh_17 mNo mAr p0 mG mQ mWa mPa mLa mF mT mW mU mP mL mM mO mR mD mB mK) := hD
            refine lv_aload_n hx hb dX5_demand_64 rfl (lv_at hl 1 rfl) ?_
            refine lv_iload_n hx hb dX5_demand_65 rfl (lv_at hl 3 rfl) ?_
            refine va_put (D := (dC, dI)) (ci := 5) (v := .int p1) (ty := .int) (C := RX5) (T := TX5) (N := 21) hx hb hts k1 tyX5 tyX5_ok nmX5 hown hK hP hD hS 0 rfl rfl 9 (by decide) k2 (fun _ h9 => h9) rfl (by decide +kernel) rfl rfl (Nat.le_of_ble_eq_true rfl) dX5_demand_66 (fun H locs hP hD hS => ?_)
            have hP : va_P (dC, dI) vwCl (wX5 cyI mo aMF aMT aMW aMU aMP aML aMM aMO aMR aMD aMB aMK mTh_17 mNo mAr p0 p1 mQ mWa mPa mLa mF mT mW mU mP mL mM mO mR mD mB mK) H := hP
            have hD : va_D A (wX5 cyI mo aMF aMT aMW aMU aMP aML aMM aMO aMR aMD aMB aMK mTh_17 mNo mAr p0 p1 mQ mWa mPa mLa mF mT mW mU mP mL mM mO mR mD mB mK) := hD
            refine lv_aload_n hx hb dX5_demand_69 rfl (lv_at hl 1 rfl) ?_
            refine lv_iload_n hx hb dX5_demand_70 rfl (lv_at hl 4 rfl) ?_
            refine va_put (D := (dC, dI)) (ci := 5) (v := .int p2) (ty := .int) (C := RX5) (T := TX5) (N := 21) hx hb hts k1 tyX5 tyX5_ok nmX5 hown hK hP hD hS 0 rfl rfl 10 (by decide) k3 (fun _ h9 => h9) rfl (by decide +kernel) rfl rfl (Nat.le_of_ble_eq_true rfl) dX5_demand_71 (fun H locs hP hD hS => ?_)
            have hP : va_P (dC, dI) vwCl (wX5 cyI mo aMF aMT aMW aMU aMP aML aMM aMO aMR aMD aMB aMK mTh_17 mNo mAr p0 p1 p2 mWa mPa mLa mF mT mW mU mP mL mM mO mR mD mB mK) H := hP
            have hD : va_D A (wX5 cyI mo aMF aMT aMW aMU aMP aML aMM aMO aMR aMD aMB aMK mTh_17 mNo mAr p0 p1 p2 mWa mPa mLa mF mT mW mU mP mL mM mO mR mD mB mK) := hD
            cases h
            exact q_vret hQ hx hb hr hlocks hP hK hD hS dX5_demand_74
    · have h := ineg c9 h
      refine lv_iconst (v := 1) hx hb dX5_demand_15 (by decide) ?_
      refine lv_goto (tgt := 20) hx hb dX5_demand_16 (by decide) ?_
      refine lv_istore (lv' := [(4, .int 1), (0, .ref mo), (1, .int p0), (2, .int p1), (3, .int p2)]) hx hb dX5_demand_20 hl (by decide) rfl (fun ls hl => ?_)
      refine lv_aload_n hx hb dX5_demand_22 rfl (lv_at hl 1 rfl) ?_
      refine lv_aload_n hx hb dX5_demand_23 rfl (lv_at hl 1 rfl) ?_
      refine lv_iload_n hx hb dX5_demand_24 rfl (lv_at hl 2 rfl) ?_
      obtain ⟨b18, e9, h⟩ := bd h
      refine q_callVi (ret := b2i b18) (As := [.int p0]) (w1 := wX5 cyI mo aMF aMT aMW aMU aMP aML aMM aMO aMR aMD aMB aMK mTh mNo mAr mS mG mQ mWa mPa mLa mF mT mW mU mP mL mM mO mR mD mB mK) (ws2 := wX5 cyI mo aMF aMT aMW aMU aMP aML aMM aMO aMR aMD aMB aMK mTh mNo mAr mS mG mQ mWa mPa mLa mF mT mW mU mP mL mM mO mR mD mB mK) ⟨hx, hb, hml, hown, hts⟩ (c_X5_isNode l dC dI cyI mo aMF aMT aMW aMU aMP aML aMM aMO aMR aMD aMB aMK H.size mTh mNo mAr mS mG mQ mWa mPa mLa mF mT mW mU mP mL mM mO mR mD mB mK p0 _ e9) (cwV 1 hts gX5_demand_X5_isNode rfl rfl rfl (by decide +kernel) ⟨Nat.le_of_ble_eq_true rfl, Nat.le_of_ble_eq_true rfl⟩) hK hP hD hS hA [0, 1, 2, 3, 4, 5, 6, 7, 8, 9, 10, 11, 12] [] [0, 1, 2, 3, 4, 5, 6, 7, 8, 9, 10, 11, 12] [0] rfl rfl rfl rfl (by decide) rfl rfl rfl 5 0 rfl rfl rfl hl.1 (Nat.le_of_ble_eq_true rfl) (Nat.le_of_ble_eq_true rfl) (Nat.le_of_ble_eq_true rfl) rfl dX5_demand_25 (fun H locs hP hD hS => ?_)
      refine lv_if_eq (tgt := 39) hx hb dX5_demand_28 (by decide) (fun c9 => ?_) (fun c9 => ?_)
      · have h := ipos c9 h
        refine lv_iconst (v := 1) hx hb dX5_demand_39 (by decide) ?_
        refine lv_goto (tgt := 53) hx hb dX5_demand_40 (by decide) ?_
        obtain ⟨b19, mTh_20, e9, h⟩ := bd2 h
        refine q_callVi (ret := b2i b19) (As := [.int 1]) (w1 := wX5 cyI mo aMF aMT aMW aMU aMP aML aMM aMO aMR aMD aMB aMK mTh_20 mNo mAr mS mG mQ mWa mPa mLa mF mT mW mU mP mL mM mO mR mD mB mK) (ws2 := wX5 cyI mo aMF aMT aMW aMU aMP aML aMM aMO aMR aMD aMB aMK mTh_20 mNo mAr mS mG mQ mWa mPa mLa mF mT mW mU mP mL mM mO mR mD mB mK) ⟨hx, hb, hml, hown, hts⟩ (c_X5_goesWell l dC dI cyI mo aMF aMT aMW aMU aMP aML aMM aMO aMR aMD aMB aMK H.size mTh mNo mAr mS mG mQ mWa mPa mLa mF mT mW mU mP mL mM mO mR mD mB mK 1 _ e9) (cwV 1 hts gX5_demand_X5_goesWell rfl rfl rfl (by decide +kernel) ⟨Nat.le_of_ble_eq_true rfl, Nat.le_of_ble_eq_true rfl⟩) hK hP hD hS hA [0, 1, 2, 3, 4, 5, 6, 7, 8, 9, 10, 11, 12] [] [0, 1, 2, 3, 4, 5, 6, 7, 8, 9, 10, 11, 12] [0] rfl rfl rfl rfl (by decide) rfl rfl rfl 5 0 rfl rfl rfl hl.1 (Nat.le_of_ble_eq_true rfl) (Nat.le_of_ble_eq_true rfl) (Nat.le_of_ble_eq_true rfl) rfl dX5_demand_53 (fun H locs hP hD hS => ?_)
        refine lv_if_eq (tgt := 74) hx hb dX5_demand_56 (by decide) (fun c9 => ?_) (fun c9 => ?_)
        · have h := ipos c9 h
          cases h
          exact q_vret hQ hx hb hr hlocks hP hK hD hS dX5_demand_74
        · have h := ineg c9 h
          refine lv_aload_n hx hb dX5_demand_59 rfl (lv_at hl 1 rfl) ?_
          refine lv_iload_n hx hb dX5_demand_60 rfl (lv_at hl 2 rfl) ?_
          refine va_put (D := (dC, dI)) (ci := 5) (v := .int p0) (ty := .int) (C := RX5) (T := TX5) (N := 21) hx hb hts k1 tyX5 tyX5_ok nmX5 hown hK hP hD hS 0 rfl rfl 8 (by decide) k0 (fun _ h9 => h9) rfl (by decide +kernel) rfl rfl (Nat.le_of_ble_eq_true rfl) dX5_demand_61 (fun H locs hP hD hS => ?_)
          have hP : va_P (dC, dI) vwCl (wX5 cyI mo aMF aMT aMW aMU aMP aML aMM aMO aMR aMD aMB aMK mTh_20 mNo mAr p0 mG mQ mWa mPa mLa mF mT mW mU mP mL mM mO mR mD mB mK) H := hP
          have hD : va_D A (wX5 cyI mo aMF aMT aMW aMU aMP aML aMM aMO aMR aMD aMB aMK mTh_20 mNo mAr p0 mG mQ mWa mPa mLa mF mT mW mU mP mL mM mO mR mD mB mK) := hD
          refine lv_aload_n hx hb dX5_demand_64 rfl (lv_at hl 1 rfl) ?_
          refine lv_iload_n hx hb dX5_demand_65 rfl (lv_at hl 3 rfl) ?_
          refine va_put (D := (dC, dI)) (ci := 5) (v := .int p1) (ty := .int) (C := RX5) (T := TX5) (N := 21) hx hb hts k1 tyX5 tyX5_ok nmX5 hown hK hP hD hS 0 rfl rfl 9 (by decide) k2 (fun _ h9 => h9) rfl (by decide +kernel) rfl rfl (Nat.le_of_ble_eq_true rfl) dX5_demand_66 (fun H locs hP hD hS => ?_)
          have hP : va_P (dC, dI) vwCl (wX5 cyI mo aMF aMT aMW aMU aMP aML aMM aMO aMR aMD aMB aMK mTh_20 mNo mAr p0 p1 mQ mWa mPa mLa mF mT mW mU mP mL mM mO mR mD mB mK) H := hP
          have hD : va_D A (wX5 cyI mo aMF aMT aMW aMU aMP aML aMM aMO aMR aMD aMB aMK mTh_20 mNo mAr p0 p1 mQ mWa mPa mLa mF mT mW mU mP mL mM mO mR mD mB mK) := hD
          refine lv_aload_n hx hb dX5_demand_69 rfl (lv_at hl 1 rfl) ?_
          refine lv_iload_n hx hb dX5_demand_70 rfl (lv_at hl 4 rfl) ?_
          refine va_put (D := (dC, dI)) (ci := 5) (v := .int p2) (ty := .int) (C := RX5) (T := TX5) (N := 21) hx hb hts k1 tyX5 tyX5_ok nmX5 hown hK hP hD hS 0 rfl rfl 10 (by decide) k3 (fun _ h9 => h9) rfl (by decide +kernel) rfl rfl (Nat.le_of_ble_eq_true rfl) dX5_demand_71 (fun H locs hP hD hS => ?_)
          have hP : va_P (dC, dI) vwCl (wX5 cyI mo aMF aMT aMW aMU aMP aML aMM aMO aMR aMD aMB aMK mTh_20 mNo mAr p0 p1 p2 mWa mPa mLa mF mT mW mU mP mL mM mO mR mD mB mK) H := hP
          have hD : va_D A (wX5 cyI mo aMF aMT aMW aMU aMP aML aMM aMO aMR aMD aMB aMK mTh_20 mNo mAr p0 p1 p2 mWa mPa mLa mF mT mW mU mP mL mM mO mR mD mB mK) := hD
          cases h
          exact q_vret hQ hx hb hr hlocks hP hK hD hS dX5_demand_74
      · have h := ineg c9 h
        refine lv_aload_n hx hb dX5_demand_31 rfl (lv_at hl 1 rfl) ?_
        refine lv_iload_n hx hb dX5_demand_32 rfl (lv_at hl 3 rfl) ?_
        obtain ⟨b21, e9, h⟩ := bd h
        refine q_callVi (ret := b2i b21) (As := [.int p1]) (w1 := wX5 cyI mo aMF aMT aMW aMU aMP aML aMM aMO aMR aMD aMB aMK mTh mNo mAr mS mG mQ mWa mPa mLa mF mT mW mU mP mL mM mO mR mD mB mK) (ws2 := wX5 cyI mo aMF aMT aMW aMU aMP aML aMM aMO aMR aMD aMB aMK mTh mNo mAr mS mG mQ mWa mPa mLa mF mT mW mU mP mL mM mO mR mD mB mK) ⟨hx, hb, hml, hown, hts⟩ (c_X5_isNode l dC dI cyI mo aMF aMT aMW aMU aMP aML aMM aMO aMR aMD aMB aMK H.size mTh mNo mAr mS mG mQ mWa mPa mLa mF mT mW mU mP mL mM mO mR mD mB mK p1 _ e9) (cwV 1 hts gX5_demand_X5_isNode rfl rfl rfl (by decide +kernel) ⟨Nat.le_of_ble_eq_true rfl, Nat.le_of_ble_eq_true rfl⟩) hK hP hD hS hA [0, 1, 2, 3, 4, 5, 6, 7, 8, 9, 10, 11, 12] [] [0, 1, 2, 3, 4, 5, 6, 7, 8, 9, 10, 11, 12] [0] rfl rfl rfl rfl (by decide) rfl rfl rfl 5 0 rfl rfl rfl hl.1 (Nat.le_of_ble_eq_true rfl) (Nat.le_of_ble_eq_true rfl) (Nat.le_of_ble_eq_true rfl) rfl dX5_demand_33 (fun H locs hP hD hS => ?_)
        refine lv_if_ne (tgt := 43) hx hb dX5_demand_36 (by decide) (fun c9 => ?_) (fun c9 => ?_)
        · have h := ineg c9 h
          refine lv_iload hx hb dX5_demand_43 (lv_at hl 0 rfl) ?_
          refine lv_if_eq (tgt := 52) hx hb dX5_demand_45 (by decide) (fun c9 => absurd c9 (by decide)) (fun _ => ?_)
          refine lv_iconst (v := 0) hx hb dX5_demand_48 (by decide) ?_
          refine lv_goto (tgt := 53) hx hb dX5_demand_49 (by decide) ?_
          obtain ⟨b22, mTh_23, e9, h⟩ := bd2 h
          refine q_callVi (ret := b2i b22) (As := [.int 0]) (w1 := wX5 cyI mo aMF aMT aMW aMU aMP aML aMM aMO aMR aMD aMB aMK mTh_23 mNo mAr mS mG mQ mWa mPa mLa mF mT mW mU mP mL mM mO mR mD mB mK) (ws2 := wX5 cyI mo aMF aMT aMW aMU aMP aML aMM aMO aMR aMD aMB aMK mTh_23 mNo mAr mS mG mQ mWa mPa mLa mF mT mW mU mP mL mM mO mR mD mB mK) ⟨hx, hb, hml, hown, hts⟩ (c_X5_goesWell l dC dI cyI mo aMF aMT aMW aMU aMP aML aMM aMO aMR aMD aMB aMK H.size mTh mNo mAr mS mG mQ mWa mPa mLa mF mT mW mU mP mL mM mO mR mD mB mK 0 _ e9) (cwV 1 hts gX5_demand_X5_goesWell rfl rfl rfl (by decide +kernel) ⟨Nat.le_of_ble_eq_true rfl, Nat.le_of_ble_eq_true rfl⟩) hK hP hD hS hA [0, 1, 2, 3, 4, 5, 6, 7, 8, 9, 10, 11, 12] [] [0, 1, 2, 3, 4, 5, 6, 7, 8, 9, 10, 11, 12] [0] rfl rfl rfl rfl (by decide) rfl rfl rfl 5 0 rfl rfl rfl hl.1 (Nat.le_of_ble_eq_true rfl) (Nat.le_of_ble_eq_true rfl) (Nat.le_of_ble_eq_true rfl) rfl dX5_demand_53 (fun H locs hP hD hS => ?_)
          refine lv_if_eq (tgt := 74) hx hb dX5_demand_56 (by decide) (fun c9 => ?_) (fun c9 => ?_)
          · have h := ipos c9 h
            cases h
            exact q_vret hQ hx hb hr hlocks hP hK hD hS dX5_demand_74
          · have h := ineg c9 h
            refine lv_aload_n hx hb dX5_demand_59 rfl (lv_at hl 1 rfl) ?_
            refine lv_iload_n hx hb dX5_demand_60 rfl (lv_at hl 2 rfl) ?_
            refine va_put (D := (dC, dI)) (ci := 5) (v := .int p0) (ty := .int) (C := RX5) (T := TX5) (N := 21) hx hb hts k1 tyX5 tyX5_ok nmX5 hown hK hP hD hS 0 rfl rfl 8 (by decide) k0 (fun _ h9 => h9) rfl (by decide +kernel) rfl rfl (Nat.le_of_ble_eq_true rfl) dX5_demand_61 (fun H locs hP hD hS => ?_)
            have hP : va_P (dC, dI) vwCl (wX5 cyI mo aMF aMT aMW aMU aMP aML aMM aMO aMR aMD aMB aMK mTh_23 mNo mAr p0 mG mQ mWa mPa mLa mF mT mW mU mP mL mM mO mR mD mB mK) H := hP
            have hD : va_D A (wX5 cyI mo aMF aMT aMW aMU aMP aML aMM aMO aMR aMD aMB aMK mTh_23 mNo mAr p0 mG mQ mWa mPa mLa mF mT mW mU mP mL mM mO mR mD mB mK) := hD
            refine lv_aload_n hx hb dX5_demand_64 rfl (lv_at hl 1 rfl) ?_
            refine lv_iload_n hx hb dX5_demand_65 rfl (lv_at hl 3 rfl) ?_
            refine va_put (D := (dC, dI)) (ci := 5) (v := .int p1) (ty := .int) (C := RX5) (T := TX5) (N := 21) hx hb hts k1 tyX5 tyX5_ok nmX5 hown hK hP hD hS 0 rfl rfl 9 (by decide) k2 (fun _ h9 => h9) rfl (by decide +kernel) rfl rfl (Nat.le_of_ble_eq_true rfl) dX5_demand_66 (fun H locs hP hD hS => ?_)
            have hP : va_P (dC, dI) vwCl (wX5 cyI mo aMF aMT aMW aMU aMP aML aMM aMO aMR aMD aMB aMK mTh_23 mNo mAr p0 p1 mQ mWa mPa mLa mF mT mW mU mP mL mM mO mR mD mB mK) H := hP
            have hD : va_D A (wX5 cyI mo aMF aMT aMW aMU aMP aML aMM aMO aMR aMD aMB aMK mTh_23 mNo mAr p0 p1 mQ mWa mPa mLa mF mT mW mU mP mL mM mO mR mD mB mK) := hD
            refine lv_aload_n hx hb dX5_demand_69 rfl (lv_at hl 1 rfl) ?_
            refine lv_iload_n hx hb dX5_demand_70 rfl (lv_at hl 4 rfl) ?_
            refine va_put (D := (dC, dI)) (ci := 5) (v := .int p2) (ty := .int) (C := RX5) (T := TX5) (N := 21) hx hb hts k1 tyX5 tyX5_ok nmX5 hown hK hP hD hS 0 rfl rfl 10 (by decide) k3 (fun _ h9 => h9) rfl (by decide +kernel) rfl rfl (Nat.le_of_ble_eq_true rfl) dX5_demand_71 (fun H locs hP hD hS => ?_)
            have hP : va_P (dC, dI) vwCl (wX5 cyI mo aMF aMT aMW aMU aMP aML aMM aMO aMR aMD aMB aMK mTh_23 mNo mAr p0 p1 p2 mWa mPa mLa mF mT mW mU mP mL mM mO mR mD mB mK) H := hP
            have hD : va_D A (wX5 cyI mo aMF aMT aMW aMU aMP aML aMM aMO aMR aMD aMB aMK mTh_23 mNo mAr p0 p1 p2 mWa mPa mLa mF mT mW mU mP mL mM mO mR mD mB mK) := hD
            cases h
            exact q_vret hQ hx hb hr hlocks hP hK hD hS dX5_demand_74
        · have h := ipos c9 h
          refine lv_iconst (v := 1) hx hb dX5_demand_39 (by decide) ?_
          refine lv_goto (tgt := 53) hx hb dX5_demand_40 (by decide) ?_
          obtain ⟨b24, mTh_25, e9, h⟩ := bd2 h
          refine q_callVi (ret := b2i b24) (As := [.int 1]) (w1 := wX5 cyI mo aMF aMT aMW aMU aMP aML aMM aMO aMR aMD aMB aMK mTh_25 mNo mAr mS mG mQ mWa mPa mLa mF mT mW mU mP mL mM mO mR mD mB mK) (ws2 := wX5 cyI mo aMF aMT aMW aMU aMP aML aMM aMO aMR aMD aMB aMK mTh_25 mNo mAr mS mG mQ mWa mPa mLa mF mT mW mU mP mL mM mO mR mD mB mK) ⟨hx, hb, hml, hown, hts⟩ (c_X5_goesWell l dC dI cyI mo aMF aMT aMW aMU aMP aML aMM aMO aMR aMD aMB aMK H.size mTh mNo mAr mS mG mQ mWa mPa mLa mF mT mW mU mP mL mM mO mR mD mB mK 1 _ e9) (cwV 1 hts gX5_demand_X5_goesWell rfl rfl rfl (by decide +kernel) ⟨Nat.le_of_ble_eq_true rfl, Nat.le_of_ble_eq_true rfl⟩) hK hP hD hS hA [0, 1, 2, 3, 4, 5, 6, 7, 8, 9, 10, 11, 12] [] [0, 1, 2, 3, 4, 5, 6, 7, 8, 9, 10, 11, 12] [0] rfl rfl rfl rfl (by decide) rfl rfl rfl 5 0 rfl rfl rfl hl.1 (Nat.le_of_ble_eq_true rfl) (Nat.le_of_ble_eq_true rfl) (Nat.le_of_ble_eq_true rfl) rfl dX5_demand_53 (fun H locs hP hD hS => ?_)
          refine lv_if_eq (tgt := 74) hx hb dX5_demand_56 (by decide) (fun c9 => ?_) (fun c9 => ?_)
          · have h := ipos c9 h
            cases h
            exact q_vret hQ hx hb hr hlocks hP hK hD hS dX5_demand_74
          · have h := ineg c9 h
            refine lv_aload_n hx hb dX5_demand_59 rfl (lv_at hl 1 rfl) ?_
            refine lv_iload_n hx hb dX5_demand_60 rfl (lv_at hl 2 rfl) ?_
            refine va_put (D := (dC, dI)) (ci := 5) (v := .int p0) (ty := .int) (C := RX5) (T := TX5) (N := 21) hx hb hts k1 tyX5 tyX5_ok nmX5 hown hK hP hD hS 0 rfl rfl 8 (by decide) k0 (fun _ h9 => h9) rfl (by decide +kernel) rfl rfl (Nat.le_of_ble_eq_true rfl) dX5_demand_61 (fun H locs hP hD hS => ?_)
            have hP : va_P (dC, dI) vwCl (wX5 cyI mo aMF aMT aMW aMU aMP aML aMM aMO aMR aMD aMB aMK mTh_25 mNo mAr p0 mG mQ mWa mPa mLa mF mT mW mU mP mL mM mO mR mD mB mK) H := hP
            have hD : va_D A (wX5 cyI mo aMF aMT aMW aMU aMP aML aMM aMO aMR aMD aMB aMK mTh_25 mNo mAr p0 mG mQ mWa mPa mLa mF mT mW mU mP mL mM mO mR mD mB mK) := hD
            refine lv_aload_n hx hb dX5_demand_64 rfl (lv_at hl 1 rfl) ?_
            refine lv_iload_n hx hb dX5_demand_65 rfl (lv_at hl 3 rfl) ?_
            refine va_put (D := (dC, dI)) (ci := 5) (v := .int p1) (ty := .int) (C := RX5) (T := TX5) (N := 21) hx hb hts k1 tyX5 tyX5_ok nmX5 hown hK hP hD hS 0 rfl rfl 9 (by decide) k2 (fun _ h9 => h9) rfl (by decide +kernel) rfl rfl (Nat.le_of_ble_eq_true rfl) dX5_demand_66 (fun H locs hP hD hS => ?_)
            have hP : va_P (dC, dI) vwCl (wX5 cyI mo aMF aMT aMW aMU aMP aML aMM aMO aMR aMD aMB aMK mTh_25 mNo mAr p0 p1 mQ mWa mPa mLa mF mT mW mU mP mL mM mO mR mD mB mK) H := hP
            have hD : va_D A (wX5 cyI mo aMF aMT aMW aMU aMP aML aMM aMO aMR aMD aMB aMK mTh_25 mNo mAr p0 p1 mQ mWa mPa mLa mF mT mW mU mP mL mM mO mR mD mB mK) := hD
            refine lv_aload_n hx hb dX5_demand_69 rfl (lv_at hl 1 rfl) ?_
            refine lv_iload_n hx hb dX5_demand_70 rfl (lv_at hl 4 rfl) ?_
            refine va_put (D := (dC, dI)) (ci := 5) (v := .int p2) (ty := .int) (C := RX5) (T := TX5) (N := 21) hx hb hts k1 tyX5 tyX5_ok nmX5 hown hK hP hD hS 0 rfl rfl 10 (by decide) k3 (fun _ h9 => h9) rfl (by decide +kernel) rfl rfl (Nat.le_of_ble_eq_true rfl) dX5_demand_71 (fun H locs hP hD hS => ?_)
            have hP : va_P (dC, dI) vwCl (wX5 cyI mo aMF aMT aMW aMU aMP aML aMM aMO aMR aMD aMB aMK mTh_25 mNo mAr p0 p1 p2 mWa mPa mLa mF mT mW mU mP mL mM mO mR mD mB mK) H := hP
            have hD : va_D A (wX5 cyI mo aMF aMT aMW aMU aMP aML aMM aMO aMR aMD aMB aMK mTh_25 mNo mAr p0 p1 p2 mWa mPa mLa mF mT mW mU mP mL mM mO mR mD mB mK) := hD
            cases h
            exact q_vret hQ hx hb hr hlocks hP hK hD hS dX5_demand_74
set_option maxHeartbeats 4000000 in
set_option maxRecDepth 100000 in
theorem c_X5_nodes (l : Launch) (dC : Nat → ClassId) (dI : Nat → Nat → Nat) (cyI : ClassId) (mo aMF aMT aMW aMU aMP aML aMM aMO aMR aMD aMB aMK : Nat) (sz : Nat) (mTh mNo mAr mS mG mQ mWa mPa mLa : Int32) (mF mT mW mU mP mL mM mO mR mD mB mK : Nat → Int32) (res : Int32 × Int32) (h : pX5_nodes mNo = some res) : Met l yX5_nodes wsX5_nodes { frames := 0, cells := 0, slots := 0, locals := 0 } (va_Pc [.ref mo] (zPre (dC, dI) (wX5 cyI mo aMF aMT aMW aMU aMP aML aMM aMO aMR aMD aMB aMK mTh mNo mAr mS mG mQ mWa mPa mLa mF mT mW mU mP mL mM mO mR mD mB mK) [(cyI, .int)] sz)) (zQi (dC, dI) (wX5 cyI mo aMF aMT aMW aMU aMP aML aMM aMO aMR aMD aMB aMK res.2 mNo mAr mS mG mQ mWa mPa mLa mF mT mW mU mP mL mM mO mR mD mB mK) [(cyI, .int)] (res.1) (va_A (wX5 cyI mo aMF aMT aMW aMU aMP aML aMM aMO aMR aMD aMB aMK mTh mNo mAr mS mG mQ mWa mPa mLa mF mT mW mU mP mL mM mO mR mD mB mK) sz)) 0 0 (va_A (wX5 cyI mo aMF aMT aMW aMU aMP aML aMM aMO aMR aMD aMB aMK mTh mNo mAr mS mG mQ mWa mPa mLa mF mT mW mU mP mL mM mO mR mD mB mK) sz) := by
  refine q_ofWi (cc := cX5_nodes) (maxL := 1) (rt := (some .int)) (by decide) rfl (Nat.le_of_ble_eq_true rfl) ?_
  intro p e s m args below meth c ls A Q H locs hQ hx hb hr hts hown hlocks hml hA hK hP hD hS hl
  have hl : lv_has ls 1 [(0, .ref mo)] := hl
  have k0 := hts (.fieldLink RX5 53 "ConvexConduitModel" "thrown" "I") (by decide +kernel)
  have k1 : ∀ w ∈ u_ws RX5 TX5 21, w ∈ wsX5_nodes := by decide +kernel
  have k2 := hts (.fieldLink RX5 50 "ConvexConduitModel" "nodes" "I") (by decide +kernel)
  unfold pX5_nodes at h
  refine lv_aload_n hx hb dX5_nodes_0 rfl (lv_at hl 0 rfl) ?_
  refine lv_iconst (v := 0) hx hb dX5_nodes_1 (by decide) ?_
  refine va_put (D := (dC, dI)) (ci := 5) (v := .int 0) (ty := .int) (C := RX5) (T := TX5) (N := 21) hx hb hts k1 tyX5 tyX5_ok nmX5 hown hK hP hD hS 0 rfl rfl 0 (by decide) k0 (fun _ h9 => h9) rfl (by decide +kernel) rfl rfl (Nat.le_of_ble_eq_true rfl) dX5_nodes_2 (fun H locs hP hD hS => ?_)
  have hP : va_P (dC, dI) vwCl (wX5 cyI mo aMF aMT aMW aMU aMP aML aMM aMO aMR aMD aMB aMK 0 mNo mAr mS mG mQ mWa mPa mLa mF mT mW mU mP mL mM mO mR mD mB mK) H := hP
  have hD : va_D A (wX5 cyI mo aMF aMT aMW aMU aMP aML aMM aMO aMR aMD aMB aMK 0 mNo mAr mS mG mQ mWa mPa mLa mF mT mW mU mP mL mM mO mR mD mB mK) := hD
  refine lv_aload_n hx hb dX5_nodes_5 rfl (lv_at hl 0 rfl) ?_
  refine va_get (D := (dC, dI)) (ci := 5) (v := .int mNo) (C := RX5) (T := TX5) (N := 21) hx hb hts k1 hown hK hP 0 rfl rfl 1 (by decide) k2 (fun _ h9 => h9) rfl dX5_nodes_6 ?_
  cases h
  exact q_iret hQ hx hb hr hlocks hP hK hD hS dX5_nodes_9
set_option maxHeartbeats 4000000 in
set_option maxRecDepth 100000 in
theorem c_X5_arcs (l : Launch) (dC : Nat → ClassId) (dI : Nat → Nat → Nat) (cyI : ClassId) (mo aMF aMT aMW aMU aMP aML aMM aMO aMR aMD aMB aMK : Nat) (sz : Nat) (mTh mNo mAr mS mG mQ mWa mPa mLa : Int32) (mF mT mW mU mP mL mM mO mR mD mB mK : Nat → Int32) (res : Int32 × Int32) (h : pX5_arcs mAr = some res) : Met l yX5_arcs wsX5_arcs { frames := 0, cells := 0, slots := 0, locals := 0 } (va_Pc [.ref mo] (zPre (dC, dI) (wX5 cyI mo aMF aMT aMW aMU aMP aML aMM aMO aMR aMD aMB aMK mTh mNo mAr mS mG mQ mWa mPa mLa mF mT mW mU mP mL mM mO mR mD mB mK) [(cyI, .int)] sz)) (zQi (dC, dI) (wX5 cyI mo aMF aMT aMW aMU aMP aML aMM aMO aMR aMD aMB aMK res.2 mNo mAr mS mG mQ mWa mPa mLa mF mT mW mU mP mL mM mO mR mD mB mK) [(cyI, .int)] (res.1) (va_A (wX5 cyI mo aMF aMT aMW aMU aMP aML aMM aMO aMR aMD aMB aMK mTh mNo mAr mS mG mQ mWa mPa mLa mF mT mW mU mP mL mM mO mR mD mB mK) sz)) 0 0 (va_A (wX5 cyI mo aMF aMT aMW aMU aMP aML aMM aMO aMR aMD aMB aMK mTh mNo mAr mS mG mQ mWa mPa mLa mF mT mW mU mP mL mM mO mR mD mB mK) sz) := by
  refine q_ofWi (cc := cX5_arcs) (maxL := 1) (rt := (some .int)) (by decide) rfl (Nat.le_of_ble_eq_true rfl) ?_
  intro p e s m args below meth c ls A Q H locs hQ hx hb hr hts hown hlocks hml hA hK hP hD hS hl
  have hl : lv_has ls 1 [(0, .ref mo)] := hl
  have k0 := hts (.fieldLink RX5 53 "ConvexConduitModel" "thrown" "I") (by decide +kernel)
  have k1 : ∀ w ∈ u_ws RX5 TX5 21, w ∈ wsX5_arcs := by decide +kernel
  have k2 := hts (.fieldLink RX5 60 "ConvexConduitModel" "arcs" "I") (by decide +kernel)
  unfold pX5_arcs at h
  refine lv_aload_n hx hb dX5_arcs_0 rfl (lv_at hl 0 rfl) ?_
  refine lv_iconst (v := 0) hx hb dX5_arcs_1 (by decide) ?_
  refine va_put (D := (dC, dI)) (ci := 5) (v := .int 0) (ty := .int) (C := RX5) (T := TX5) (N := 21) hx hb hts k1 tyX5 tyX5_ok nmX5 hown hK hP hD hS 0 rfl rfl 0 (by decide) k0 (fun _ h9 => h9) rfl (by decide +kernel) rfl rfl (Nat.le_of_ble_eq_true rfl) dX5_arcs_2 (fun H locs hP hD hS => ?_)
  have hP : va_P (dC, dI) vwCl (wX5 cyI mo aMF aMT aMW aMU aMP aML aMM aMO aMR aMD aMB aMK 0 mNo mAr mS mG mQ mWa mPa mLa mF mT mW mU mP mL mM mO mR mD mB mK) H := hP
  have hD : va_D A (wX5 cyI mo aMF aMT aMW aMU aMP aML aMM aMO aMR aMD aMB aMK 0 mNo mAr mS mG mQ mWa mPa mLa mF mT mW mU mP mL mM mO mR mD mB mK) := hD
  refine lv_aload_n hx hb dX5_arcs_5 rfl (lv_at hl 0 rfl) ?_
  refine va_get (D := (dC, dI)) (ci := 5) (v := .int mAr) (C := RX5) (T := TX5) (N := 21) hx hb hts k1 hown hK hP 0 rfl rfl 2 (by decide) k2 (fun _ h9 => h9) rfl dX5_arcs_6 ?_
  cases h
  exact q_iret hQ hx hb hr hlocks hP hK hD hS dX5_arcs_9
set_option maxHeartbeats 4000000 in
set_option maxRecDepth 100000 in
theorem c_X5_capacity (l : Launch) (dC : Nat → ClassId) (dI : Nat → Nat → Nat) (cyI : ClassId) (mo aMF aMT aMW aMU aMP aML aMM aMO aMR aMD aMB aMK : Nat) (sz : Nat) (mTh mNo mAr mS mG mQ mWa mPa mLa : Int32) (mF mT mW mU mP mL mM mO mR mD mB mK : Nat → Int32) (p0 : Int32) (N : Nat) (res : Int32 × Int32) (h : pX5_capacity N mAr mW mP p0 = some res) : Met l yX5_capacity wsX5_capacity { frames := 2, cells := 0, slots := 0, locals := 43 } (va_Pc [.ref mo, .int p0] (zPre (dC, dI) (wX5 cyI mo aMF aMT aMW aMU aMP aML aMM aMO aMR aMD aMB aMK mTh mNo mAr mS mG mQ mWa mPa mLa mF mT mW mU mP mL mM mO mR mD mB mK) [(cyI, .int)] sz)) (zQi (dC, dI) (wX5 cyI mo aMF aMT aMW aMU aMP aML aMM aMO aMR aMD aMB aMK res.2 mNo mAr mS mG mQ mWa mPa mLa mF mT mW mU mP mL mM mO mR mD mB mK) [(cyI, .int)] (res.1) (va_A (wX5 cyI mo aMF aMT aMW aMU aMP aML aMM aMO aMR aMD aMB aMK mTh mNo mAr mS mG mQ mWa mPa mLa mF mT mW mU mP mL mM mO mR mD mB mK) sz)) 0 0 (va_A (wX5 cyI mo aMF aMT aMW aMU aMP aML aMM aMO aMR aMD aMB aMK mTh mNo mAr mS mG mQ mWa mPa mLa mF mT mW mU mP mL mM mO mR mD mB mK) sz) := by
  refine q_ofWi (cc := cX5_capacity) (maxL := 2) (rt := (some .int)) (by decide) rfl (Nat.le_of_ble_eq_true rfl) ?_
  intro p e s m args below meth c ls A Q H locs hQ hx hb hr hts hown hlocks hml hA hK hP hD hS hl
  have hl : lv_has ls 2 [(0, .ref mo), (1, .int p0)] := hl
  unfold pX5_capacity at h
  refine lv_aload_n hx hb dX5_capacity_0 rfl (lv_at hl 0 rfl) ?_
  refine lv_aload_n hx hb dX5_capacity_1 rfl (lv_at hl 0 rfl) ?_
  refine lv_iload_n hx hb dX5_capacity_2 rfl (lv_at hl 1 rfl) ?_
  obtain ⟨b1, e9, h⟩ := bd h
  refine q_callVi (ret := b2i b1) (As := [.int p0]) (w1 := wX5 cyI mo aMF aMT aMW aMU aMP aML aMM aMO aMR aMD aMB aMK mTh mNo mAr mS mG mQ mWa mPa mLa mF mT mW mU mP mL mM mO mR mD mB mK) (ws2 := wX5 cyI mo aMF aMT aMW aMU aMP aML aMM aMO aMR aMD aMB aMK mTh mNo mAr mS mG mQ mWa mPa mLa mF mT mW mU mP mL mM mO mR mD mB mK) ⟨hx, hb, hml, hown, hts⟩ (c_X5_isArc l dC dI cyI mo aMF aMT aMW aMU aMP aML aMM aMO aMR aMD aMB aMK H.size mTh mNo mAr mS mG mQ mWa mPa mLa mF mT mW mU mP mL mM mO mR mD mB mK p0 _ e9) (cwV 1 hts gX5_capacity_X5_isArc rfl rfl rfl (by decide +kernel) ⟨Nat.le_of_ble_eq_true rfl, Nat.le_of_ble_eq_true rfl⟩) hK hP hD hS hA [0, 1, 2, 3, 4, 5, 6, 7, 8, 9, 10, 11, 12] [] [0, 1, 2, 3, 4, 5, 6, 7, 8, 9, 10, 11, 12] [0] rfl rfl rfl rfl (by decide) rfl rfl rfl 5 0 rfl rfl rfl hl.1 (Nat.le_of_ble_eq_true rfl) (Nat.le_of_ble_eq_true rfl) (Nat.le_of_ble_eq_true rfl) rfl dX5_capacity_3 (fun H locs hP hD hS => ?_)
  refine lv_if_eq (tgt := 13) hx hb dX5_capacity_6 (by decide) (fun c9 => ?_) (fun c9 => ?_)
  · have h := ipos c9 h
    refine lv_iconst (v := 1) hx hb dX5_capacity_13 (by decide) ?_
    obtain ⟨b2, mTh_3, e9, h⟩ := bd2 h
    refine q_callVi (ret := b2i b2) (As := [.int 1]) (w1 := wX5 cyI mo aMF aMT aMW aMU aMP aML aMM aMO aMR aMD aMB aMK mTh_3 mNo mAr mS mG mQ mWa mPa mLa mF mT mW mU mP mL mM mO mR mD mB mK) (ws2 := wX5 cyI mo aMF aMT aMW aMU aMP aML aMM aMO aMR aMD aMB aMK mTh_3 mNo mAr mS mG mQ mWa mPa mLa mF mT mW mU mP mL mM mO mR mD mB mK) ⟨hx, hb, hml, hown, hts⟩ (c_X5_goesWell l dC dI cyI mo aMF aMT aMW aMU aMP aML aMM aMO aMR aMD aMB aMK H.size mTh mNo mAr mS mG mQ mWa mPa mLa mF mT mW mU mP mL mM mO mR mD mB mK 1 _ e9) (cwV 1 hts gX5_capacity_X5_goesWell rfl rfl rfl (by decide +kernel) ⟨Nat.le_of_ble_eq_true rfl, Nat.le_of_ble_eq_true rfl⟩) hK hP hD hS hA [0, 1, 2, 3, 4, 5, 6, 7, 8, 9, 10, 11, 12] [] [0, 1, 2, 3, 4, 5, 6, 7, 8, 9, 10, 11, 12] [0] rfl rfl rfl rfl (by decide) rfl rfl rfl 5 0 rfl rfl rfl hl.1 (Nat.le_of_ble_eq_true rfl) (Nat.le_of_ble_eq_true rfl) (Nat.le_of_ble_eq_true rfl) rfl dX5_capacity_14 (fun H locs hP hD hS => ?_)
    refine lv_if_eq (tgt := 28) hx hb dX5_capacity_17 (by decide) (fun c9 => ?_) (fun c9 => ?_)
    · have h := ipos c9 h
      refine lv_iconst (v := 0) hx hb dX5_capacity_28 (by decide) ?_
      cases h
      exact q_iret hQ hx hb hr hlocks hP hK hD hS dX5_capacity_29
    · have h := ineg c9 h
      refine lv_aload_n hx hb dX5_capacity_20 rfl (lv_at hl 0 rfl) ?_
      refine lv_iload_n hx hb dX5_capacity_21 rfl (lv_at hl 1 rfl) ?_
      obtain ⟨r4, e9, h⟩ := bd h
      refine q_callVi (ret := r4) (As := [.int p0]) (w1 := wX5 cyI mo aMF aMT aMW aMU aMP aML aMM aMO aMR aMD aMB aMK mTh_3 mNo mAr mS mG mQ mWa mPa mLa mF mT mW mU mP mL mM mO mR mD mB mK) (ws2 := wX5 cyI mo aMF aMT aMW aMU aMP aML aMM aMO aMR aMD aMB aMK mTh_3 mNo mAr mS mG mQ mWa mPa mLa mF mT mW mU mP mL mM mO mR mD mB mK) ⟨hx, hb, hml, hown, hts⟩ (c_X5_capacityOf l dC dI cyI mo aMF aMT aMW aMU aMP aML aMM aMO aMR aMD aMB aMK H.size mTh_3 mNo mAr mS mG mQ mWa mPa mLa mF mT mW mU mP mL mM mO mR mD mB mK p0 N _ e9) (cwV 1 hts gX5_capacity_X5_capacityOf rfl rfl rfl (by decide +kernel) ⟨Nat.le_of_ble_eq_true rfl, Nat.le_of_ble_eq_true rfl⟩) hK hP hD hS hA [0, 1, 2, 3, 4, 5, 6, 7, 8, 9, 10, 11, 12] [] [0, 1, 2, 3, 4, 5, 6, 7, 8, 9, 10, 11, 12] [0] rfl rfl rfl rfl (by decide) rfl rfl rfl 5 0 rfl rfl rfl hl.1 (Nat.le_of_ble_eq_true rfl) (Nat.le_of_ble_eq_true rfl) (Nat.le_of_ble_eq_true rfl) rfl dX5_capacity_22 (fun H locs hP hD hS => ?_)
      refine lv_goto (tgt := 29) hx hb dX5_capacity_25 (by decide) ?_
      cases h
      exact q_iret hQ hx hb hr hlocks hP hK hD hS dX5_capacity_29
  · have h := ineg c9 h
    refine lv_iconst (v := 0) hx hb dX5_capacity_9 (by decide) ?_
    refine lv_goto (tgt := 14) hx hb dX5_capacity_10 (by decide) ?_
    obtain ⟨b5, mTh_6, e9, h⟩ := bd2 h
    refine q_callVi (ret := b2i b5) (As := [.int 0]) (w1 := wX5 cyI mo aMF aMT aMW aMU aMP aML aMM aMO aMR aMD aMB aMK mTh_6 mNo mAr mS mG mQ mWa mPa mLa mF mT mW mU mP mL mM mO mR mD mB mK) (ws2 := wX5 cyI mo aMF aMT aMW aMU aMP aML aMM aMO aMR aMD aMB aMK mTh_6 mNo mAr mS mG mQ mWa mPa mLa mF mT mW mU mP mL mM mO mR mD mB mK) ⟨hx, hb, hml, hown, hts⟩ (c_X5_goesWell l dC dI cyI mo aMF aMT aMW aMU aMP aML aMM aMO aMR aMD aMB aMK H.size mTh mNo mAr mS mG mQ mWa mPa mLa mF mT mW mU mP mL mM mO mR mD mB mK 0 _ e9) (cwV 1 hts gX5_capacity_X5_goesWell rfl rfl rfl (by decide +kernel) ⟨Nat.le_of_ble_eq_true rfl, Nat.le_of_ble_eq_true rfl⟩) hK hP hD hS hA [0, 1, 2, 3, 4, 5, 6, 7, 8, 9, 10, 11, 12] [] [0, 1, 2, 3, 4, 5, 6, 7, 8, 9, 10, 11, 12] [0] rfl rfl rfl rfl (by decide) rfl rfl rfl 5 0 rfl rfl rfl hl.1 (Nat.le_of_ble_eq_true rfl) (Nat.le_of_ble_eq_true rfl) (Nat.le_of_ble_eq_true rfl) rfl dX5_capacity_14 (fun H locs hP hD hS => ?_)
    refine lv_if_eq (tgt := 28) hx hb dX5_capacity_17 (by decide) (fun c9 => ?_) (fun c9 => ?_)
    · have h := ipos c9 h
      refine lv_iconst (v := 0) hx hb dX5_capacity_28 (by decide) ?_
      cases h
      exact q_iret hQ hx hb hr hlocks hP hK hD hS dX5_capacity_29
    · have h := ineg c9 h
      refine lv_aload_n hx hb dX5_capacity_20 rfl (lv_at hl 0 rfl) ?_
      refine lv_iload_n hx hb dX5_capacity_21 rfl (lv_at hl 1 rfl) ?_
      obtain ⟨r7, e9, h⟩ := bd h
      refine q_callVi (ret := r7) (As := [.int p0]) (w1 := wX5 cyI mo aMF aMT aMW aMU aMP aML aMM aMO aMR aMD aMB aMK mTh_6 mNo mAr mS mG mQ mWa mPa mLa mF mT mW mU mP mL mM mO mR mD mB mK) (ws2 := wX5 cyI mo aMF aMT aMW aMU aMP aML aMM aMO aMR aMD aMB aMK mTh_6 mNo mAr mS mG mQ mWa mPa mLa mF mT mW mU mP mL mM mO mR mD mB mK) ⟨hx, hb, hml, hown, hts⟩ (c_X5_capacityOf l dC dI cyI mo aMF aMT aMW aMU aMP aML aMM aMO aMR aMD aMB aMK H.size mTh_6 mNo mAr mS mG mQ mWa mPa mLa mF mT mW mU mP mL mM mO mR mD mB mK p0 N _ e9) (cwV 1 hts gX5_capacity_X5_capacityOf rfl rfl rfl (by decide +kernel) ⟨Nat.le_of_ble_eq_true rfl, Nat.le_of_ble_eq_true rfl⟩) hK hP hD hS hA [0, 1, 2, 3, 4, 5, 6, 7, 8, 9, 10, 11, 12] [] [0, 1, 2, 3, 4, 5, 6, 7, 8, 9, 10, 11, 12] [0] rfl rfl rfl rfl (by decide) rfl rfl rfl 5 0 rfl rfl rfl hl.1 (Nat.le_of_ble_eq_true rfl) (Nat.le_of_ble_eq_true rfl) (Nat.le_of_ble_eq_true rfl) rfl dX5_capacity_22 (fun H locs hP hD hS => ?_)
      refine lv_goto (tgt := 29) hx hb dX5_capacity_25 (by decide) ?_
      cases h
      exact q_iret hQ hx hb hr hlocks hP hK hD hS dX5_capacity_29
set_option maxHeartbeats 4000000 in
set_option maxRecDepth 100000 in
theorem c_X5_priceOf (l : Launch) (dC : Nat → ClassId) (dI : Nat → Nat → Nat) (cyI : ClassId) (mo aMF aMT aMW aMU aMP aML aMM aMO aMR aMD aMB aMK : Nat) (sz : Nat) (mTh mNo mAr mS mG mQ mWa mPa mLa : Int32) (mF mT mW mU mP mL mM mO mR mD mB mK : Nat → Int32) (p0 p1 : Int32) (N : Nat) (res : Int32) (h : pX5_priceOf N mW mU p0 p1 = some res) : Met l yX5_priceOf wsX5_priceOf { frames := 0, cells := 0, slots := 0, locals := 0 } (va_Pc [.ref mo, .int p0, .int p1] (zPre (dC, dI) (wX5 cyI mo aMF aMT aMW aMU aMP aML aMM aMO aMR aMD aMB aMK mTh mNo mAr mS mG mQ mWa mPa mLa mF mT mW mU mP mL mM mO mR mD mB mK) [(cyI, .int)] sz)) (zQi (dC, dI) (wX5 cyI mo aMF aMT aMW aMU aMP aML aMM aMO aMR aMD aMB aMK mTh mNo mAr mS mG mQ mWa mPa mLa mF mT mW mU mP mL mM mO mR mD mB mK) [(cyI, .int)] (res) (va_A (wX5 cyI mo aMF aMT aMW aMU aMP aML aMM aMO aMR aMD aMB aMK mTh mNo mAr mS mG mQ mWa mPa mLa mF mT mW mU mP mL mM mO mR mD mB mK) sz)) 0 0 (va_A (wX5 cyI mo aMF aMT aMW aMU aMP aML aMM aMO aMR aMD aMB aMK mTh mNo mAr mS mG mQ mWa mPa mLa mF mT mW mU mP mL mM mO mR mD mB mK) sz) := by
  refine q_ofWi (cc := cX5_priceOf) (maxL := 5) (rt := (some .int)) (by decide) rfl (Nat.le_of_ble_eq_true rfl) ?_
  intro p e s m args below meth c ls A Q H locs hQ hx hb hr hts hown hlocks hml hA hK hP hD hS hl
  have hl : lv_has ls 5 [(0, .ref mo), (1, .int p0), (2, .int p1)] := hl
  have k0 := hts (.fieldLink RX5 16 "ConvexConduitModel" "widths" "[I") (by decide +kernel)
  have k1 : ∀ w ∈ u_ws RX5 TX5 21, w ∈ wsX5_priceOf := by decide +kernel
  have k2 := hts (.fieldLink RX5 19 "ConvexConduitModel" "prices" "[I") (by decide +kernel)
  unfold pX5_priceOf at h
  refine lv_iconst (v := 0) hx hb dX5_priceOf_0 (by decide) ?_
  refine lv_istore_n (lv' := [(3, .int 0), (0, .ref mo), (1, .int p0), (2, .int p1)]) hx hb dX5_priceOf_1 rfl hl (by decide) rfl (fun ls hl => ?_)
  refine lv_iload_n hx hb dX5_priceOf_2 rfl (lv_at hl 3 rfl) ?_
  refine lv_istore (lv' := [(4, .int p1), (3, .int 0), (0, .ref mo), (1, .int p0), (2, .int p1)]) hx hb dX5_priceOf_3 hl (by decide) rfl (fun ls hl => ?_)
  obtain ⟨x3_5, x4_6, e0, h⟩ := bd2 h
  have hT0 : ∀ (H : Heap) (locs : List Loc), va_P (dC, dI) vwCl (wX5 cyI mo aMF aMT aMW aMU aMP aML aMM aMO aMR aMD aMB aMK mTh mNo mAr mS mG mQ mWa mPa mLa mF mT mW mU mP mL mM mO mR mD mB mK) H → va_D A (wX5 cyI mo aMF aMT aMW aMU aMP aML aMM aMO aMR aMD aMB aMK mTh mNo mAr mS mG mQ mWa mPa mLa mF mT mW mU mP mL mM mO mR mD mB mK) → va_S A s.heap H locs → ∀ ls : Array Slot, lv_has ls 5 [(0, .ref mo), (1, .int p0), (2, .int p1), (3, .int x3_5), (4, .int x4_6)] → W p l e { frames := 0, cells := 0, slots := 0, locals := 0 } s m args below meth c H locs 0 0 Q (F0 m 41 ls []) := by
    intro H locs hP hD hS ls hl
    refine lv_aload_n hx hb dX5_priceOf_41 rfl (lv_at hl 0 rfl) ?_
    refine va_get (D := (dC, dI)) (ci := 5) (v := .ref aMU) (C := RX5) (T := TX5) (N := 21) hx hb hts k1 hown hK hP 0 rfl rfl 6 (by decide) k2 (fun _ h9 => h9) rfl dX5_priceOf_42 ?_
    refine lv_iconst (v := 3) hx hb dX5_priceOf_45 (by decide) ?_
    refine lv_iload_n hx hb dX5_priceOf_46 rfl (lv_at hl 1 rfl) ?_
    refine lv_imul hx hb dX5_priceOf_47 ?_
    refine lv_iload_n hx hb dX5_priceOf_48 rfl (lv_at hl 3 rfl) ?_
    refine lv_iadd hx hb dX5_priceOf_49 ?_
    obtain ⟨t7, e9, h⟩ := bd h
    refine q_iald hx hb hK hP 4 0 rfl rfl e9 dX5_priceOf_50 ?_
    cases h
    exact q_iret hQ hx hb hr hlocks hP hK hD hS dX5_priceOf_51
  have hL0 : ∀ (n9 : Nat) (x3_1 : Int32) (x4_2 : Int32), lp (un2 (pX5_priceOf_l5 mW p0)) n9 ((x3_1, x4_2)) = some ((x3_5, x4_6)) → ∀ (H : Heap) (locs : List Loc), va_P (dC, dI) vwCl (wX5 cyI mo aMF aMT aMW aMU aMP aML aMM aMO aMR aMD aMB aMK mTh mNo mAr mS mG mQ mWa mPa mLa mF mT mW mU mP mL mM mO mR mD mB mK) H → va_D A (wX5 cyI mo aMF aMT aMW aMU aMP aML aMM aMO aMR aMD aMB aMK mTh mNo mAr mS mG mQ mWa mPa mLa mF mT mW mU mP mL mM mO mR mD mB mK) → va_S A s.heap H locs → ∀ ls : Array Slot, lv_has ls 5 [(0, .ref mo), (1, .int p0), (2, .int p1), (3, .int x3_1), (4, .int x4_2)] → W p l e { frames := 0, cells := 0, slots := 0, locals := 0 } s m args below meth c H locs 0 0 Q (F0 m 5 ls []) := by
    intro n9
    induction n9 with
    | zero =>
      intro x3_1 x4_2 h
      exact lp0 h
    | succ n9 ih0 =>
      intro x3_1 x4_2 h H locs hP hD hS ls hl
      obtain ⟨o9, g, h⟩ := lps h
      replace g : pX5_priceOf_l5 mW p0 x3_1 x4_2 = some o9 := g
      unfold pX5_priceOf_l5 at g
      refine lv_iload hx hb dX5_priceOf_5 (lv_at hl 4 rfl) ?_
      refine lv_aload_n hx hb dX5_priceOf_7 rfl (lv_at hl 0 rfl) ?_
      refine va_get (D := (dC, dI)) (ci := 5) (v := .ref aMW) (C := RX5) (T := TX5) (N := 21) hx hb hts k1 hown hK hP 0 rfl rfl 5 (by decide) k0 (fun _ h9 => h9) rfl dX5_priceOf_8 ?_
      refine lv_iconst (v := 3) hx hb dX5_priceOf_11 (by decide) ?_
      refine lv_iload_n hx hb dX5_priceOf_12 rfl (lv_at hl 1 rfl) ?_
      refine lv_imul hx hb dX5_priceOf_13 ?_
      refine lv_iload_n hx hb dX5_priceOf_14 rfl (lv_at hl 3 rfl) ?_
      refine lv_iadd hx hb dX5_priceOf_15 ?_
      obtain ⟨t3, e9, g⟩ := bd g
      refine q_iald hx hb hK hP 3 0 rfl rfl e9 dX5_priceOf_16 ?_
      refine lv_icmp_le (tgt := 41) hx hb dX5_priceOf_17 (by decide) (fun c9 => ?_) (fun c9 => ?_)
      · have g := ipos c9 g
        cases g
        have h := lpx h
        cases h
        exact hT0 _ _ hP hD hS _ (lv_sub hl [0, 1, 2, 3, 4] rfl)
      · have g := ineg c9 g
        refine lv_iload hx hb dX5_priceOf_20 (lv_at hl 4 rfl) ?_
        refine lv_aload_n hx hb dX5_priceOf_22 rfl (lv_at hl 0 rfl) ?_
        refine va_get (D := (dC, dI)) (ci := 5) (v := .ref aMW) (C := RX5) (T := TX5) (N := 21) hx hb hts k1 hown hK hP 0 rfl rfl 5 (by decide) k0 (fun _ h9 => h9) rfl dX5_priceOf_23 ?_
        refine lv_iconst (v := 3) hx hb dX5_priceOf_26 (by decide) ?_
        refine lv_iload_n hx hb dX5_priceOf_27 rfl (lv_at hl 1 rfl) ?_
        refine lv_imul hx hb dX5_priceOf_28 ?_
        refine lv_iload_n hx hb dX5_priceOf_29 rfl (lv_at hl 3 rfl) ?_
        refine lv_iadd hx hb dX5_priceOf_30 ?_
        obtain ⟨t4, e9, g⟩ := bd g
        refine q_iald hx hb hK hP 3 0 rfl rfl e9 dX5_priceOf_31 ?_
        refine lv_isub hx hb dX5_priceOf_32 ?_
        refine lv_istore (lv' := [(4, .int (x4_2 - t4)), (0, .ref mo), (1, .int p0), (2, .int p1), (3, .int x3_1)]) hx hb dX5_priceOf_33 hl (by decide) rfl (fun ls hl => ?_)
        refine lv_iinc (v := x3_1 + 1) (lv' := [(3, .int (x3_1 + 1)), (4, .int (x4_2 - t4)), (0, .ref mo), (1, .int p0), (2, .int p1)]) hx hb dX5_priceOf_35 hl (k := 4) rfl (by rfl) (by decide) rfl (fun ls hl => ?_)
        refine lv_goto (tgt := 5) hx hb dX5_priceOf_38 (by decide) ?_
        cases g
        exact ih0 _ _ h _ _ hP hD hS _ (lv_sub hl [2, 3, 4, 0, 1] rfl)
  exact hL0 N _ _  e0 _ _ hP hD hS _ (lv_sub hl [2, 3, 4, 1, 0] rfl)
set_option maxHeartbeats 4000000 in
set_option maxRecDepth 100000 in
theorem c_X5_price (l : Launch) (dC : Nat → ClassId) (dI : Nat → Nat → Nat) (cyI : ClassId) (mo aMF aMT aMW aMU aMP aML aMM aMO aMR aMD aMB aMK : Nat) (sz : Nat) (mTh mNo mAr mS mG mQ mWa mPa mLa : Int32) (mF mT mW mU mP mL mM mO mR mD mB mK : Nat → Int32) (p0 p1 : Int32) (N : Nat) (res : Int32 × Int32) (h : pX5_price N mAr mW mU mP p0 p1 = some res) : Met l yX5_price wsX5_price { frames := 2, cells := 0, slots := 0, locals := 43 } (va_Pc [.ref mo, .int p0, .int p1] (zPre (dC, dI) (wX5 cyI mo aMF aMT aMW aMU aMP aML aMM aMO aMR aMD aMB aMK mTh mNo mAr mS mG mQ mWa mPa mLa mF mT mW mU mP mL mM mO mR mD mB mK) [(cyI, .int)] sz)) (zQi (dC, dI) (wX5 cyI mo aMF aMT aMW aMU aMP aML aMM aMO aMR aMD aMB aMK res.2 mNo mAr mS mG mQ mWa mPa mLa mF mT mW mU mP mL mM mO mR mD mB mK) [(cyI, .int)] (res.1) (va_A (wX5 cyI mo aMF aMT aMW aMU aMP aML aMM aMO aMR aMD aMB aMK mTh mNo mAr mS mG mQ mWa mPa mLa mF mT mW mU mP mL mM mO mR mD mB mK) sz)) 0 0 (va_A (wX5 cyI mo aMF aMT aMW aMU aMP aML aMM aMO aMR aMD aMB aMK mTh mNo mAr mS mG mQ mWa mPa mLa mF mT mW mU mP mL mM mO mR mD mB mK) sz) := by
  refine q_ofWi (cc := cX5_price) (maxL := 4) (rt := (some .int)) (by decide) rfl (Nat.le_of_ble_eq_true rfl) ?_
  intro p e s m args below meth c ls A Q H locs hQ hx hb hr hts hown hlocks hml hA hK hP hD hS hl
  have hl : lv_has ls 4 [(0, .ref mo), (1, .int p0), (2, .int p1)] := hl
  unfold pX5_price at h
  refine lv_aload_n hx hb dX5_price_0 rfl (lv_at hl 0 rfl) ?_
  refine lv_iload_n hx hb dX5_price_1 rfl (lv_at hl 1 rfl) ?_
  obtain ⟨b1, e9, h⟩ := bd h
  refine q_callVi (ret := b2i b1) (As := [.int p0]) (w1 := wX5 cyI mo aMF aMT aMW aMU aMP aML aMM aMO aMR aMD aMB aMK mTh mNo mAr mS mG mQ mWa mPa mLa mF mT mW mU mP mL mM mO mR mD mB mK) (ws2 := wX5 cyI mo aMF aMT aMW aMU aMP aML aMM aMO aMR aMD aMB aMK mTh mNo mAr mS mG mQ mWa mPa mLa mF mT mW mU mP mL mM mO mR mD mB mK) ⟨hx, hb, hml, hown, hts⟩ (c_X5_isArc l dC dI cyI mo aMF aMT aMW aMU aMP aML aMM aMO aMR aMD aMB aMK H.size mTh mNo mAr mS mG mQ mWa mPa mLa mF mT mW mU mP mL mM mO mR mD mB mK p0 _ e9) (cwV 1 hts gX5_price_X5_isArc rfl rfl rfl (by decide +kernel) ⟨Nat.le_of_ble_eq_true rfl, Nat.le_of_ble_eq_true rfl⟩) hK hP hD hS hA [0, 1, 2, 3, 4, 5, 6, 7, 8, 9, 10, 11, 12] [] [0, 1, 2, 3, 4, 5, 6, 7, 8, 9, 10, 11, 12] [0] rfl rfl rfl rfl (by decide) rfl rfl rfl 5 0 rfl rfl rfl hl.1 (Nat.le_of_ble_eq_true rfl) (Nat.le_of_ble_eq_true rfl) (Nat.le_of_ble_eq_true rfl) rfl dX5_price_2 (fun H locs hP hD hS => ?_)
  refine lv_if_eq (tgt := 25) hx hb dX5_price_5 (by decide) (fun c9 => ?_) (fun c9 => ?_)
  · have h := ipos c9 h
    refine lv_iconst (v := 0) hx hb dX5_price_25 (by decide) ?_
    refine lv_istore_n (lv' := [(3, .int 0), (0, .ref mo), (1, .int p0), (2, .int p1)]) hx hb dX5_price_26 rfl hl (by decide) rfl (fun ls hl => ?_)
    refine lv_aload_n hx hb dX5_price_27 rfl (lv_at hl 1 rfl) ?_
    refine lv_iload_n hx hb dX5_price_28 rfl (lv_at hl 0 rfl) ?_
    refine lv_if_eq (tgt := 36) hx hb dX5_price_29 (by decide) (fun _ => ?_) (fun c9 => absurd (by decide) c9)
    refine lv_iconst (v := 1) hx hb dX5_price_36 (by decide) ?_
    obtain ⟨b2, mTh_3, e9, h⟩ := bd2 h
    refine q_callVi (ret := b2i b2) (As := [.int 1]) (w1 := wX5 cyI mo aMF aMT aMW aMU aMP aML aMM aMO aMR aMD aMB aMK mTh_3 mNo mAr mS mG mQ mWa mPa mLa mF mT mW mU mP mL mM mO mR mD mB mK) (ws2 := wX5 cyI mo aMF aMT aMW aMU aMP aML aMM aMO aMR aMD aMB aMK mTh_3 mNo mAr mS mG mQ mWa mPa mLa mF mT mW mU mP mL mM mO mR mD mB mK) ⟨hx, hb, hml, hown, hts⟩ (c_X5_goesWell l dC dI cyI mo aMF aMT aMW aMU aMP aML aMM aMO aMR aMD aMB aMK H.size mTh mNo mAr mS mG mQ mWa mPa mLa mF mT mW mU mP mL mM mO mR mD mB mK 1 _ e9) (cwV 1 hts gX5_price_X5_goesWell rfl rfl rfl (by decide +kernel) ⟨Nat.le_of_ble_eq_true rfl, Nat.le_of_ble_eq_true rfl⟩) hK hP hD hS hA [0, 1, 2, 3, 4, 5, 6, 7, 8, 9, 10, 11, 12] [] [0, 1, 2, 3, 4, 5, 6, 7, 8, 9, 10, 11, 12] [0] rfl rfl rfl rfl (by decide) rfl rfl rfl 5 0 rfl rfl rfl hl.1 (Nat.le_of_ble_eq_true rfl) (Nat.le_of_ble_eq_true rfl) (Nat.le_of_ble_eq_true rfl) rfl dX5_price_37 (fun H locs hP hD hS => ?_)
    refine lv_if_eq (tgt := 52) hx hb dX5_price_40 (by decide) (fun c9 => ?_) (fun c9 => ?_)
    · have h := ipos c9 h
      refine lv_iconst (v := 0) hx hb dX5_price_52 (by decide) ?_
      cases h
      exact q_iret hQ hx hb hr hlocks hP hK hD hS dX5_price_53
    · have h := ineg c9 h
      refine lv_aload_n hx hb dX5_price_43 rfl (lv_at hl 1 rfl) ?_
      refine lv_iload_n hx hb dX5_price_44 rfl (lv_at hl 2 rfl) ?_
      refine lv_iload_n hx hb dX5_price_45 rfl (lv_at hl 3 rfl) ?_
      obtain ⟨r4, e9, h⟩ := bd h
      refine q_callVi (ret := r4) (As := [.int p0, .int p1]) (w1 := wX5 cyI mo aMF aMT aMW aMU aMP aML aMM aMO aMR aMD aMB aMK mTh_3 mNo mAr mS mG mQ mWa mPa mLa mF mT mW mU mP mL mM mO mR mD mB mK) (ws2 := wX5 cyI mo aMF aMT aMW aMU aMP aML aMM aMO aMR aMD aMB aMK mTh_3 mNo mAr mS mG mQ mWa mPa mLa mF mT mW mU mP mL mM mO mR mD mB mK) ⟨hx, hb, hml, hown, hts⟩ (c_X5_priceOf l dC dI cyI mo aMF aMT aMW aMU aMP aML aMM aMO aMR aMD aMB aMK H.size mTh_3 mNo mAr mS mG mQ mWa mPa mLa mF mT mW mU mP mL mM mO mR mD mB mK p0 p1 N _ e9) (cwV 2 hts gX5_price_X5_priceOf rfl rfl rfl (by decide +kernel) ⟨Nat.le_of_ble_eq_true rfl, Nat.le_of_ble_eq_true rfl⟩) hK hP hD hS hA [0, 1, 2, 3, 4, 5, 6, 7, 8, 9, 10, 11, 12] [] [0, 1, 2, 3, 4, 5, 6, 7, 8, 9, 10, 11, 12] [0] rfl rfl rfl rfl (by decide) rfl rfl rfl 5 0 rfl rfl rfl hl.1 (Nat.le_of_ble_eq_true rfl) (Nat.le_of_ble_eq_true rfl) (Nat.le_of_ble_eq_true rfl) rfl dX5_price_46 (fun H locs hP hD hS => ?_)
      refine lv_goto (tgt := 53) hx hb dX5_price_49 (by decide) ?_
      cases h
      exact q_iret hQ hx hb hr hlocks hP hK hD hS dX5_price_53
  · have h := ineg c9 h
    refine lv_iload_n hx hb dX5_price_8 rfl (lv_at hl 2 rfl) ?_
    refine lv_iconst (v := 1) hx hb dX5_price_9 (by decide) ?_
    refine lv_aload_n hx hb dX5_price_10 rfl (lv_at hl 0 rfl) ?_
    refine lv_iload_n hx hb dX5_price_11 rfl (lv_at hl 1 rfl) ?_
    obtain ⟨r5, e9, h⟩ := bd h
    refine q_callVi (ret := r5) (As := [.int p0]) (w1 := wX5 cyI mo aMF aMT aMW aMU aMP aML aMM aMO aMR aMD aMB aMK mTh mNo mAr mS mG mQ mWa mPa mLa mF mT mW mU mP mL mM mO mR mD mB mK) (ws2 := wX5 cyI mo aMF aMT aMW aMU aMP aML aMM aMO aMR aMD aMB aMK mTh mNo mAr mS mG mQ mWa mPa mLa mF mT mW mU mP mL mM mO mR mD mB mK) ⟨hx, hb, hml, hown, hts⟩ (c_X5_capacityOf l dC dI cyI mo aMF aMT aMW aMU aMP aML aMM aMO aMR aMD aMB aMK H.size mTh mNo mAr mS mG mQ mWa mPa mLa mF mT mW mU mP mL mM mO mR mD mB mK p0 N _ e9) (cwV 1 hts gX5_price_X5_capacityOf rfl rfl rfl (by decide +kernel) ⟨Nat.le_of_ble_eq_true rfl, Nat.le_of_ble_eq_true rfl⟩) hK hP hD hS hA [0, 1, 2, 3, 4, 5, 6, 7, 8, 9, 10, 11, 12] [] [0, 1, 2, 3, 4, 5, 6, 7, 8, 9, 10, 11, 12] [0] rfl rfl rfl rfl (by decide) rfl rfl rfl 5 0 rfl rfl rfl hl.1 (Nat.le_of_ble_eq_true rfl) (Nat.le_of_ble_eq_true rfl) (Nat.le_of_ble_eq_true rfl) rfl dX5_price_12 (fun H locs hP hD hS => ?_)
    obtain ⟨b6, e9, h⟩ := bd h
    refine q_callSi (ret := b2i b6) (As := [.int p1, .int 1, .int r5]) ⟨hx, hb, hml, hown, hts⟩ (c_X5_in l dC dI H.size p1 1 r5 _ e9) (va_cwS 3 hts gX5_price_X5_in rfl rfl rfl (by decide +kernel) ⟨Nat.le_of_ble_eq_true rfl, Nat.le_of_ble_eq_true rfl⟩) hK hP hD hS hA [0, 1, 2, 3, 4, 5, 6, 7, 8, 9, 10, 11, 12] rfl rfl rfl hl.1 (Nat.le_of_ble_eq_true rfl) (Nat.le_of_ble_eq_true rfl) (Nat.le_of_ble_eq_true rfl) rfl dX5_price_15 (fun H locs hP hD hS => ?_)
    refine lv_if_eq (tgt := 25) hx hb dX5_price_18 (by decide) (fun c9 => ?_) (fun c9 => ?_)
    · have h := ipos c9 h
      refine lv_iconst (v := 0) hx hb dX5_price_25 (by decide) ?_
      refine lv_istore_n (lv' := [(3, .int 0), (0, .ref mo), (1, .int p0), (2, .int p1)]) hx hb dX5_price_26 rfl hl (by decide) rfl (fun ls hl => ?_)
      refine lv_aload_n hx hb dX5_price_27 rfl (lv_at hl 1 rfl) ?_
      refine lv_iload_n hx hb dX5_price_28 rfl (lv_at hl 0 rfl) ?_
      refine lv_if_eq (tgt := 36) hx hb dX5_price_29 (by decide) (fun _ => ?_) (fun c9 => absurd (by decide) c9)
      refine lv_iconst (v := 1) hx hb dX5_price_36 (by decide) ?_
      obtain ⟨b7, mTh_8, e9, h⟩ := bd2 h
      refine q_callVi (ret := b2i b7) (As := [.int 1]) (w1 := wX5 cyI mo aMF aMT aMW aMU aMP aML aMM aMO aMR aMD aMB aMK mTh_8 mNo mAr mS mG mQ mWa mPa mLa mF mT mW mU mP mL mM mO mR mD mB mK) (ws2 := wX5 cyI mo aMF aMT aMW aMU aMP aML aMM aMO aMR aMD aMB aMK mTh_8 mNo mAr mS mG mQ mWa mPa mLa mF mT mW mU mP mL mM mO mR mD mB mK) ⟨hx, hb, hml, hown, hts⟩ (c_X5_goesWell l dC dI cyI mo aMF aMT aMW aMU aMP aML aMM aMO aMR aMD aMB aMK H.size mTh mNo mAr mS mG mQ mWa mPa mLa mF mT mW mU mP mL mM mO mR mD mB mK 1 _ e9) (cwV 1 hts gX5_price_X5_goesWell rfl rfl rfl (by decide +kernel) ⟨Nat.le_of_ble_eq_true rfl, Nat.le_of_ble_eq_true rfl⟩) hK hP hD hS hA [0, 1, 2, 3, 4, 5, 6, 7, 8, 9, 10, 11, 12] [] [0, 1, 2, 3, 4, 5, 6, 7, 8, 9, 10, 11, 12] [0] rfl rfl rfl rfl (by decide) rfl rfl rfl 5 0 rfl rfl rfl hl.1 (Nat.le_of_ble_eq_true rfl) (Nat.le_of_ble_eq_true rfl) (Nat.le_of_ble_eq_true rfl) rfl dX5_price_37 (fun H locs hP hD hS => ?_)
      refine lv_if_eq (tgt := 52) hx hb dX5_price_40 (by decide) (fun c9 => ?_) (fun c9 => ?_)
      · have h := ipos c9 h
        refine lv_iconst (v := 0) hx hb dX5_price_52 (by decide) ?_
        cases h
        exact q_iret hQ hx hb hr hlocks hP hK hD hS dX5_price_53
      · have h := ineg c9 h
        refine lv_aload_n hx hb dX5_price_43 rfl (lv_at hl 1 rfl) ?_
        refine lv_iload_n hx hb dX5_price_44 rfl (lv_at hl 2 rfl) ?_
        refine lv_iload_n hx hb dX5_price_45 rfl (lv_at hl 3 rfl) ?_
        obtain ⟨r9, e9, h⟩ := bd h
        refine q_callVi (ret := r9) (As := [.int p0, .int p1]) (w1 := wX5 cyI mo aMF aMT aMW aMU aMP aML aMM aMO aMR aMD aMB aMK mTh_8 mNo mAr mS mG mQ mWa mPa mLa mF mT mW mU mP mL mM mO mR mD mB mK) (ws2 := wX5 cyI mo aMF aMT aMW aMU aMP aML aMM aMO aMR aMD aMB aMK mTh_8 mNo mAr mS mG mQ mWa mPa mLa mF mT mW mU mP mL mM mO mR mD mB mK) ⟨hx, hb, hml, hown, hts⟩ (c_X5_priceOf l dC dI cyI mo aMF aMT aMW aMU aMP aML aMM aMO aMR aMD aMB aMK H.size mTh_8 mNo mAr mS mG mQ mWa mPa mLa mF mT mW mU mP mL mM mO mR mD mB mK p0 p1 N _ e9) (cwV 2 hts gX5_price_X5_priceOf rfl rfl rfl (by decide +kernel) ⟨Nat.le_of_ble_eq_true rfl, Nat.le_of_ble_eq_true rfl⟩) hK hP hD hS hA [0, 1, 2, 3, 4, 5, 6, 7, 8, 9, 10, 11, 12] [] [0, 1, 2, 3, 4, 5, 6, 7, 8, 9, 10, 11, 12] [0] rfl rfl rfl rfl (by decide) rfl rfl rfl 5 0 rfl rfl rfl hl.1 (Nat.le_of_ble_eq_true rfl) (Nat.le_of_ble_eq_true rfl) (Nat.le_of_ble_eq_true rfl) rfl dX5_price_46 (fun H locs hP hD hS => ?_)
        refine lv_goto (tgt := 53) hx hb dX5_price_49 (by decide) ?_
        cases h
        exact q_iret hQ hx hb hr hlocks hP hK hD hS dX5_price_53
    · have h := ineg c9 h
      refine lv_iconst (v := 1) hx hb dX5_price_21 (by decide) ?_
      refine lv_goto (tgt := 26) hx hb dX5_price_22 (by decide) ?_
      refine lv_istore_n (lv' := [(3, .int 1), (0, .ref mo), (1, .int p0), (2, .int p1)]) hx hb dX5_price_26 rfl hl (by decide) rfl (fun ls hl => ?_)
      refine lv_aload_n hx hb dX5_price_27 rfl (lv_at hl 1 rfl) ?_
      refine lv_iload_n hx hb dX5_price_28 rfl (lv_at hl 0 rfl) ?_
      refine lv_if_eq (tgt := 36) hx hb dX5_price_29 (by decide) (fun c9 => absurd c9 (by decide)) (fun _ => ?_)
      refine lv_iconst (v := 0) hx hb dX5_price_32 (by decide) ?_
      refine lv_goto (tgt := 37) hx hb dX5_price_33 (by decide) ?_
      obtain ⟨b10, mTh_11, e9, h⟩ := bd2 h
      refine q_callVi (ret := b2i b10) (As := [.int 0]) (w1 := wX5 cyI mo aMF aMT aMW aMU aMP aML aMM aMO aMR aMD aMB aMK mTh_11 mNo mAr mS mG mQ mWa mPa mLa mF mT mW mU mP mL mM mO mR mD mB mK) (ws2 := wX5 cyI mo aMF aMT aMW aMU aMP aML aMM aMO aMR aMD aMB aMK mTh_11 mNo mAr mS mG mQ mWa mPa mLa mF mT mW mU mP mL mM mO mR mD mB mK) ⟨hx, hb, hml, hown, hts⟩ (c_X5_goesWell l dC dI cyI mo aMF aMT aMW aMU aMP aML aMM aMO aMR aMD aMB aMK H.size mTh mNo mAr mS mG mQ mWa mPa mLa mF mT mW mU mP mL mM mO mR mD mB mK 0 _ e9) (cwV 1 hts gX5_price_X5_goesWell rfl rfl rfl (by decide +kernel) ⟨Nat.le_of_ble_eq_true rfl, Nat.le_of_ble_eq_true rfl⟩) hK hP hD hS hA [0, 1, 2, 3, 4, 5, 6, 7, 8, 9, 10, 11, 12] [] [0, 1, 2, 3, 4, 5, 6, 7, 8, 9, 10, 11, 12] [0] rfl rfl rfl rfl (by decide) rfl rfl rfl 5 0 rfl rfl rfl hl.1 (Nat.le_of_ble_eq_true rfl) (Nat.le_of_ble_eq_true rfl) (Nat.le_of_ble_eq_true rfl) rfl dX5_price_37 (fun H locs hP hD hS => ?_)
      refine lv_if_eq (tgt := 52) hx hb dX5_price_40 (by decide) (fun c9 => ?_) (fun c9 => ?_)
      · have h := ipos c9 h
        refine lv_iconst (v := 0) hx hb dX5_price_52 (by decide) ?_
        cases h
        exact q_iret hQ hx hb hr hlocks hP hK hD hS dX5_price_53
      · have h := ineg c9 h
        refine lv_aload_n hx hb dX5_price_43 rfl (lv_at hl 1 rfl) ?_
        refine lv_iload_n hx hb dX5_price_44 rfl (lv_at hl 2 rfl) ?_
        refine lv_iload_n hx hb dX5_price_45 rfl (lv_at hl 3 rfl) ?_
        obtain ⟨r12, e9, h⟩ := bd h
        refine q_callVi (ret := r12) (As := [.int p0, .int p1]) (w1 := wX5 cyI mo aMF aMT aMW aMU aMP aML aMM aMO aMR aMD aMB aMK mTh_11 mNo mAr mS mG mQ mWa mPa mLa mF mT mW mU mP mL mM mO mR mD mB mK) (ws2 := wX5 cyI mo aMF aMT aMW aMU aMP aML aMM aMO aMR aMD aMB aMK mTh_11 mNo mAr mS mG mQ mWa mPa mLa mF mT mW mU mP mL mM mO mR mD mB mK) ⟨hx, hb, hml, hown, hts⟩ (c_X5_priceOf l dC dI cyI mo aMF aMT aMW aMU aMP aML aMM aMO aMR aMD aMB aMK H.size mTh_11 mNo mAr mS mG mQ mWa mPa mLa mF mT mW mU mP mL mM mO mR mD mB mK p0 p1 N _ e9) (cwV 2 hts gX5_price_X5_priceOf rfl rfl rfl (by decide +kernel) ⟨Nat.le_of_ble_eq_true rfl, Nat.le_of_ble_eq_true rfl⟩) hK hP hD hS hA [0, 1, 2, 3, 4, 5, 6, 7, 8, 9, 10, 11, 12] [] [0, 1, 2, 3, 4, 5, 6, 7, 8, 9, 10, 11, 12] [0] rfl rfl rfl rfl (by decide) rfl rfl rfl 5 0 rfl rfl rfl hl.1 (Nat.le_of_ble_eq_true rfl) (Nat.le_of_ble_eq_true rfl) (Nat.le_of_ble_eq_true rfl) rfl dX5_price_46 (fun H locs hP hD hS => ?_)
        refine lv_goto (tgt := 53) hx hb dX5_price_49 (by decide) ?_
        cases h
        exact q_iret hQ hx hb hr hlocks hP hK hD hS dX5_price_53
set_option maxHeartbeats 4000000 in
set_option maxRecDepth 100000 in
theorem c_X5_open (l : Launch) (dC : Nat → ClassId) (dI : Nat → Nat → Nat) (cyI : ClassId) (mo aMF aMT aMW aMU aMP aML aMM aMO aMR aMD aMB aMK : Nat) (sz : Nat) (mTh mNo mAr mS mG mQ mWa mPa mLa : Int32) (mF mT mW mU mP mL mM mO mR mD mB mK : Nat → Int32) (N : Nat) (res : (Nat → Int32) × (Nat → Int32)) (h : pX5_open N mAr mW mP mL mM = some res) : Met l yX5_open wsX5_open { frames := 1, cells := 0, slots := 0, locals := 23 } (va_Pc [.ref mo] (zPre (dC, dI) (wX5 cyI mo aMF aMT aMW aMU aMP aML aMM aMO aMR aMD aMB aMK mTh mNo mAr mS mG mQ mWa mPa mLa mF mT mW mU mP mL mM mO mR mD mB mK) [(cyI, .int)] sz)) (zQv (dC, dI) (wX5 cyI mo aMF aMT aMW aMU aMP aML aMM aMO aMR aMD aMB aMK mTh mNo mAr mS mG mQ mWa mPa mLa mF mT mW mU mP res.1 res.2 mO mR mD mB mK) [(cyI, .int)] (va_A (wX5 cyI mo aMF aMT aMW aMU aMP aML aMM aMO aMR aMD aMB aMK mTh mNo mAr mS mG mQ mWa mPa mLa mF mT mW mU mP mL mM mO mR mD mB mK) sz)) 0 0 (va_A (wX5 cyI mo aMF aMT aMW aMU aMP aML aMM aMO aMR aMD aMB aMK mTh mNo mAr mS mG mQ mWa mPa mLa mF mT mW mU mP mL mM mO mR mD mB mK) sz) := by
  refine q_ofWv (cc := cX5_open) (maxL := 2) (rt := none) (by decide) rfl (Nat.le_of_ble_eq_true rfl) ?_
  intro p e s m args below meth c ls A Q H locs hQ hx hb hr hts hown hlocks hml hA hK hP hD hS hl
  have hl : lv_has ls 2 [(0, .ref mo)] := hl
  have k0 := hts (.fieldLink RX5 60 "ConvexConduitModel" "arcs" "I") (by decide +kernel)
  have k1 : ∀ w ∈ u_ws RX5 TX5 21, w ∈ wsX5_open := by decide +kernel
  have k2 := hts (.fieldLink RX5 29 "ConvexConduitModel" "least" "[I") (by decide +kernel)
  have k3 := hts (.fieldLink RX5 32 "ConvexConduitModel" "most" "[I") (by decide +kernel)
  unfold pX5_open at h
  refine lv_iconst (v := 0) hx hb dX5_open_0 (by decide) ?_
  refine lv_istore_n (lv' := [(1, .int 0), (0, .ref mo)]) hx hb dX5_open_1 rfl hl (by decide) rfl (fun ls hl => ?_)
  obtain ⟨x1_7, mL_8, mM_9, e0, h⟩ := bd3 h
  have hT0 : ∀ (H : Heap) (locs : List Loc), va_P (dC, dI) vwCl (wX5 cyI mo aMF aMT aMW aMU aMP aML aMM aMO aMR aMD aMB aMK mTh mNo mAr mS mG mQ mWa mPa mLa mF mT mW mU mP mL_8 mM_9 mO mR mD mB mK) H → va_D A (wX5 cyI mo aMF aMT aMW aMU aMP aML aMM aMO aMR aMD aMB aMK mTh mNo mAr mS mG mQ mWa mPa mLa mF mT mW mU mP mL_8 mM_9 mO mR mD mB mK) → va_S A s.heap H locs → ∀ ls : Array Slot, lv_has ls 2 [(0, .ref mo), (1, .int x1_7)] → W p l e { frames := 1, cells := 0, slots := 0, locals := 23 } s m args below meth c H locs 0 0 Q (F0 m 34 ls []) := by
    intro H locs hP hD hS ls hl
    cases h
    exact q_vret hQ hx hb hr hlocks hP hK hD hS dX5_open_34
  have hL0 : ∀ (n9 : Nat) (x1_1 : Int32) (mL_2 : Nat → Int32) (mM_3 : Nat → Int32), lp (un3 (pX5_open_l2 N mAr mP mW)) n9 ((x1_1, mL_2, mM_3)) = some ((x1_7, mL_8, mM_9)) → ∀ (H : Heap) (locs : List Loc), va_P (dC, dI) vwCl (wX5 cyI mo aMF aMT aMW aMU aMP aML aMM aMO aMR aMD aMB aMK mTh mNo mAr mS mG mQ mWa mPa mLa mF mT mW mU mP mL_2 mM_3 mO mR mD mB mK) H → va_D A (wX5 cyI mo aMF aMT aMW aMU aMP aML aMM aMO aMR aMD aMB aMK mTh mNo mAr mS mG mQ mWa mPa mLa mF mT mW mU mP mL_2 mM_3 mO mR mD mB mK) → va_S A s.heap H locs → ∀ ls : Array Slot, lv_has ls 2 [(0, .ref mo), (1, .int x1_1)] → W p l e { frames := 1, cells := 0, slots := 0, locals := 23 } s m args below meth c H locs 0 0 Q (F0 m 2 ls []) := by
    intro n9
    induction n9 with
    | zero =>
      intro x1_1 mL_2 mM_3 h
      exact lp0 h
    | succ n9 ih0 =>
      intro x1_1 mL_2 mM_3 h H locs hP hD hS ls hl
      obtain ⟨o9, g, h⟩ := lps h
      replace g : pX5_open_l2 N mAr mP mW x1_1 mL_2 mM_3 = some o9 := g
      unfold pX5_open_l2 at g
      refine lv_iload_n hx hb dX5_open_2 rfl (lv_at hl 1 rfl) ?_
      refine lv_aload_n hx hb dX5_open_3 rfl (lv_at hl 0 rfl) ?_
      refine va_get (D := (dC, dI)) (ci := 5) (v := .int mAr) (C := RX5) (T := TX5) (N := 21) hx hb hts k1 hown hK hP 0 rfl rfl 2 (by decide) k0 (fun _ h9 => h9) rfl dX5_open_4 ?_
      refine lv_icmp_ge (tgt := 34) hx hb dX5_open_7 (by decide) (fun c9 => ?_) (fun c9 => ?_)
      · have g := ipos c9 g
        cases g
        have h := lpx h
        cases h
        exact hT0 _ _ hP hD hS _ (lv_sub hl [0, 1] rfl)
      · have g := ineg c9 g
        refine lv_aload_n hx hb dX5_open_10 rfl (lv_at hl 0 rfl) ?_
        refine va_get (D := (dC, dI)) (ci := 5) (v := .ref aML) (C := RX5) (T := TX5) (N := 21) hx hb hts k1 hown hK hP 0 rfl rfl 11 (by decide) k2 (fun _ h9 => h9) rfl dX5_open_11 ?_
        refine lv_iload_n hx hb dX5_open_14 rfl (lv_at hl 1 rfl) ?_
        refine lv_iconst (v := 0) hx hb dX5_open_15 (by decide) ?_
        obtain ⟨mL_4, e9, g⟩ := bd g
        refine q_iast (ws2 := wX5 cyI mo aMF aMT aMW aMU aMP aML aMM aMO aMR aMD aMB aMK mTh mNo mAr mS mG mQ mWa mPa mLa mF mT mW mU mP mL_4 mM_3 mO mR mD mB mK) hx hb hK hP hD hS 6 0 rfl rfl e9 dX5_open_16 rfl (fun H locs hP hD hS => ?_)
        refine lv_aload_n hx hb dX5_open_17 rfl (lv_at hl 0 rfl) ?_
        refine va_get (D := (dC, dI)) (ci := 5) (v := .ref aMM) (C := RX5) (T := TX5) (N := 21) hx hb hts k1 hown hK hP 0 rfl rfl 12 (by decide) k3 (fun _ h9 => h9) rfl dX5_open_18 ?_
        refine lv_iload_n hx hb dX5_open_21 rfl (lv_at hl 1 rfl) ?_
        refine lv_aload_n hx hb dX5_open_22 rfl (lv_at hl 0 rfl) ?_
        refine lv_iload_n hx hb dX5_open_23 rfl (lv_at hl 1 rfl) ?_
        obtain ⟨r5, e9, g⟩ := bd g
        refine q_callVi (ret := r5) (As := [.int x1_1]) (w1 := wX5 cyI mo aMF aMT aMW aMU aMP aML aMM aMO aMR aMD aMB aMK mTh mNo mAr mS mG mQ mWa mPa mLa mF mT mW mU mP mL_4 mM_3 mO mR mD mB mK) (ws2 := wX5 cyI mo aMF aMT aMW aMU aMP aML aMM aMO aMR aMD aMB aMK mTh mNo mAr mS mG mQ mWa mPa mLa mF mT mW mU mP mL_4 mM_3 mO mR mD mB mK) ⟨hx, hb, hml, hown, hts⟩ (c_X5_capacityOf l dC dI cyI mo aMF aMT aMW aMU aMP aML aMM aMO aMR aMD aMB aMK H.size mTh mNo mAr mS mG mQ mWa mPa mLa mF mT mW mU mP mL_4 mM_3 mO mR mD mB mK x1_1 N _ e9) (cwV 1 hts gX5_open_X5_capacityOf rfl rfl rfl (by decide +kernel) ⟨Nat.le_of_ble_eq_true rfl, Nat.le_of_ble_eq_true rfl⟩) hK hP hD hS hA [0, 1, 2, 3, 4, 5, 6, 7, 8, 9, 10, 11, 12] [] [0, 1, 2, 3, 4, 5, 6, 7, 8, 9, 10, 11, 12] [0] rfl rfl rfl rfl (by decide) rfl rfl rfl 5 0 rfl rfl rfl hl.1 (Nat.le_of_ble_eq_true rfl) (Nat.le_of_ble_eq_true rfl) (Nat.le_of_ble_eq_true rfl) rfl dX5_open_24 (fun H locs hP hD hS => ?_)
        obtain ⟨mM_6, e9, g⟩ := bd g
        refine q_iast (ws2 := wX5 cyI mo aMF aMT aMW aMU aMP aML aMM aMO aMR aMD aMB aMK mTh mNo mAr mS mG mQ mWa mPa mLa mF mT mW mU mP mL_4 mM_6 mO mR mD mB mK) hx hb hK hP hD hS 7 0 rfl rfl e9 dX5_open_27 rfl (fun H locs hP hD hS => ?_)
        refine lv_iinc (v := x1_1 + 1) (lv' := [(1, .int (x1_1 + 1)), (0, .ref mo)]) hx hb dX5_open_28 hl (k := 1) rfl (by rfl) (by decide) rfl (fun ls hl => ?_)
        refine lv_goto (tgt := 2) hx hb dX5_open_31 (by decide) ?_
        cases g
        exact ih0 _ _ _ h _ _ hP hD hS _ (lv_sub hl [1, 0] rfl)
  exact hL0 N _ _ _  e0 _ _ hP hD hS _ (lv_sub hl [1, 0] rfl)
set_option maxHeartbeats 4000000 in
set_option maxRecDepth 100000 in
theorem c_X5_begin (l : Launch) (dC : Nat → ClassId) (dI : Nat → Nat → Nat) (cyI : ClassId) (mo aMF aMT aMW aMU aMP aML aMM aMO aMR aMD aMB aMK : Nat) (sz : Nat) (mTh mNo mAr mS mG mQ mWa mPa mLa : Int32) (mF mT mW mU mP mL mM mO mR mD mB mK : Nat → Int32) (p0 p1 : Int32) (N : Nat) (res : Int32 × (Nat → Int32) × (Nat → Int32)) (h : pX5_begin N mNo mAr mS mG mF mT mW mU mL mO mR p0 p1 = some res) : Met l yX5_begin wsX5_begin { frames := 1, cells := 0, slots := 0, locals := 24 } (va_Pc [.ref mo, .int p0, .int p1] (zPre (dC, dI) (wX5 cyI mo aMF aMT aMW aMU aMP aML aMM aMO aMR aMD aMB aMK mTh mNo mAr mS mG mQ mWa mPa mLa mF mT mW mU mP mL mM mO mR mD mB mK) [(cyI, .int)] sz)) (zQi (dC, dI) (wX5 cyI mo aMF aMT aMW aMU aMP aML aMM aMO aMR aMD aMB aMK mTh mNo mAr mS mG mQ mWa mPa mLa mF mT mW mU mP mL mM res.2.1 res.2.2 mD mB mK) [(cyI, .int)] (res.1) (va_A (wX5 cyI mo aMF aMT aMW aMU aMP aML aMM aMO aMR aMD aMB aMK mTh mNo mAr mS mG mQ mWa mPa mLa mF mT mW mU mP mL mM mO mR mD mB mK) sz)) 0 0 (va_A (wX5 cyI mo aMF aMT aMW aMU aMP aML aMM aMO aMR aMD aMB aMK mTh mNo mAr mS mG mQ mWa mPa mLa mF mT mW mU mP mL mM mO mR mD mB mK) sz) := by
  refine q_ofWi (cc := cX5_begin) (maxL := 6) (rt := (some .int)) (by decide) rfl (Nat.le_of_ble_eq_true rfl) ?_
  intro p e s m args below meth c ls A Q H locs hQ hx hb hr hts hown hlocks hml hA hK hP hD hS hl
  have hl : lv_has ls 6 [(0, .ref mo), (1, .int p0), (2, .int p1)] := hl
  have k0 := hts (.fieldLink RX5 50 "ConvexConduitModel" "nodes" "I") (by decide +kernel)
  have k1 : ∀ w ∈ u_ws RX5 TX5 21, w ∈ wsX5_begin := by decide +kernel
  have k2 := hts (.fieldLink RX5 38 "ConvexConduitModel" "rest" "[I") (by decide +kernel)
  have k3 := hts (.fieldLink RX5 81 "ConvexConduitModel" "source" "I") (by decide +kernel)
  have k4 := hts (.fieldLink RX5 25 "ConvexConduitModel" "target" "I") (by decide +kernel)
  have k5 := hts (.fieldLink RX5 60 "ConvexConduitModel" "arcs" "I") (by decide +kernel)
  have k6 := hts (.fieldLink RX5 35 "ConvexConduitModel" "on" "[I") (by decide +kernel)
  have k7 := hts (.fieldLink RX5 29 "ConvexConduitModel" "least" "[I") (by decide +kernel)
  have k8 := hts (.fieldLink RX5 7 "ConvexConduitModel" "froms" "[I") (by decide +kernel)
  have k9 := hts (.fieldLink RX5 13 "ConvexConduitModel" "tos" "[I") (by decide +kernel)
  unfold pX5_begin at h
  refine lv_iconst (v := 0) hx hb dX5_begin_0 (by decide) ?_
  refine lv_istore_n (lv' := [(3, .int 0), (0, .ref mo), (1, .int p0), (2, .int p1)]) hx hb dX5_begin_1 rfl hl (by decide) rfl (fun ls hl => ?_)
  obtain ⟨x3_4, mR_5, e0, h⟩ := bd2 h
  have hT0 : ∀ (H : Heap) (locs : List Loc), va_P (dC, dI) vwCl (wX5 cyI mo aMF aMT aMW aMU aMP aML aMM aMO aMR aMD aMB aMK mTh mNo mAr mS mG mQ mWa mPa mLa mF mT mW mU mP mL mM mO mR_5 mD mB mK) H → va_D A (wX5 cyI mo aMF aMT aMW aMU aMP aML aMM aMO aMR aMD aMB aMK mTh mNo mAr mS mG mQ mWa mPa mLa mF mT mW mU mP mL mM mO mR_5 mD mB mK) → va_S A s.heap H locs → ∀ ls : Array Slot, lv_has ls 6 [(0, .ref mo), (1, .int p0), (2, .int p1), (3, .int x3_4)] → W p l e { frames := 1, cells := 0, slots := 0, locals := 24 } s m args below meth c H locs 0 0 Q (F0 m 23 ls []) := by
    intro H locs hP hD hS ls hl
    refine lv_aload_n hx hb dX5_begin_23 rfl (lv_at hl 0 rfl) ?_
    refine va_get (D := (dC, dI)) (ci := 5) (v := .ref aMR) (C := RX5) (T := TX5) (N := 21) hx hb hts k1 hown hK hP 0 rfl rfl 14 (by decide) k2 (fun _ h9 => h9) rfl dX5_begin_24 ?_
    refine lv_aload_n hx hb dX5_begin_27 rfl (lv_at hl 0 rfl) ?_
    refine va_get (D := (dC, dI)) (ci := 5) (v := .int mS) (C := RX5) (T := TX5) (N := 21) hx hb hts k1 hown hK hP 0 rfl rfl 8 (by decide) k3 (fun _ h9 => h9) rfl dX5_begin_28 ?_
    refine lv_dup2_11 hx hb dX5_begin_31 rfl rfl ?_
    obtain ⟨t6, e9, h⟩ := bd h
    refine q_iald hx hb hK hP 9 0 rfl rfl e9 dX5_begin_32 ?_
    refine lv_iload_n hx hb dX5_begin_33 rfl (lv_at hl 1 rfl) ?_
    refine lv_iload_n hx hb dX5_begin_34 rfl (lv_at hl 2 rfl) ?_
    refine lv_iconst (v := -1) hx hb dX5_begin_35 (by decide) ?_
    refine lv_icmp_ne (tgt := 43) hx hb dX5_begin_36 (by decide) (fun c9 => ?_) (fun c9 => ?_)
    · have h := ineg c9 h
      refine lv_iconst (v := 1) hx hb dX5_begin_43 (by decide) ?_
      refine lv_iadd hx hb dX5_begin_44 ?_
      refine lv_iadd hx hb dX5_begin_45 ?_
      obtain ⟨mR_7, e9, h⟩ := bd h
      refine q_iast (ws2 := wX5 cyI mo aMF aMT aMW aMU aMP aML aMM aMO aMR aMD aMB aMK mTh mNo mAr mS mG mQ mWa mPa mLa mF mT mW mU mP mL mM mO mR_7 mD mB mK) hx hb hK hP hD hS 9 0 rfl rfl e9 dX5_begin_46 rfl (fun H locs hP hD hS => ?_)
      refine lv_aload_n hx hb dX5_begin_47 rfl (lv_at hl 0 rfl) ?_
      refine va_get (D := (dC, dI)) (ci := 5) (v := .ref aMR) (C := RX5) (T := TX5) (N := 21) hx hb hts k1 hown hK hP 0 rfl rfl 14 (by decide) k2 (fun _ h9 => h9) rfl dX5_begin_48 ?_
      refine lv_aload_n hx hb dX5_begin_51 rfl (lv_at hl 0 rfl) ?_
      refine va_get (D := (dC, dI)) (ci := 5) (v := .int mG) (C := RX5) (T := TX5) (N := 21) hx hb hts k1 hown hK hP 0 rfl rfl 9 (by decide) k4 (fun _ h9 => h9) rfl dX5_begin_52 ?_
      refine lv_dup2_11 hx hb dX5_begin_55 rfl rfl ?_
      obtain ⟨t8, e9, h⟩ := bd h
      refine q_iald hx hb hK hP 9 0 rfl rfl e9 dX5_begin_56 ?_
      refine lv_iload_n hx hb dX5_begin_57 rfl (lv_at hl 1 rfl) ?_
      refine lv_isub hx hb dX5_begin_58 ?_
      obtain ⟨mR_9, e9, h⟩ := bd h
      refine q_iast (ws2 := wX5 cyI mo aMF aMT aMW aMU aMP aML aMM aMO aMR aMD aMB aMK mTh mNo mAr mS mG mQ mWa mPa mLa mF mT mW mU mP mL mM mO mR_9 mD mB mK) hx hb hK hP hD hS 9 0 rfl rfl e9 dX5_begin_59 rfl (fun H locs hP hD hS => ?_)
      refine lv_iload_n hx hb dX5_begin_60 rfl (lv_at hl 2 rfl) ?_
      refine lv_iconst (v := -1) hx hb dX5_begin_61 (by decide) ?_
      refine lv_icmp_eq (tgt := 75) hx hb dX5_begin_62 (by decide) (fun c9 => ?_) (fun c9 => ?_)
      · have h := ipos c9 h
        refine lv_iconst (v := 0) hx hb dX5_begin_75 (by decide) ?_
        refine lv_istore_n (lv' := [(3, .int 0), (0, .ref mo), (1, .int p0), (2, .int p1)]) hx hb dX5_begin_76 rfl hl (by decide) rfl (fun ls hl => ?_)
        refine lv_iconst (v := 0) hx hb dX5_begin_77 (by decide) ?_
        refine lv_istore (lv' := [(4, .int 0), (3, .int 0), (0, .ref mo), (1, .int p0), (2, .int p1)]) hx hb dX5_begin_78 hl (by decide) rfl (fun ls hl => ?_)
        obtain ⟨x3_30, x4_31, mO_32, mR_33, e1, h⟩ := bd4 h
        have hT1 : ∀ (H : Heap) (locs : List Loc), va_P (dC, dI) vwCl (wX5 cyI mo aMF aMT aMW aMU aMP aML aMM aMO aMR aMD aMB aMK mTh mNo mAr mS mG mQ mWa mPa mLa mF mT mW mU mP mL mM mO_32 mR_33 mD mB mK) H → va_D A (wX5 cyI mo aMF aMT aMW aMU aMP aML aMM aMO aMR aMD aMB aMK mTh mNo mAr mS mG mQ mWa mPa mLa mF mT mW mU mP mL mM mO_32 mR_33 mD mB mK) → va_S A s.heap H locs → ∀ ls : Array Slot, lv_has ls 6 [(0, .ref mo), (1, .int p0), (2, .int p1), (3, .int x3_30), (4, .int x4_31)] → W p l e { frames := 1, cells := 0, slots := 0, locals := 24 } s m args below meth c H locs 0 0 Q (F0 m 185 ls []) := by
          intro H locs hP hD hS ls hl
          refine lv_iload_n hx hb dX5_begin_185 rfl (lv_at hl 3 rfl) ?_
          cases h
          exact q_iret hQ hx hb hr hlocks hP hK hD hS dX5_begin_186
        have hL1 : ∀ (n9 : Nat) (x3_10 : Int32) (x4_11 : Int32) (mO_12 : Nat → Int32) (mR_13 : Nat → Int32), lp (un4 (pX5_begin_l80'' N mAr mF mL mT mU mW)) n9 ((x3_10, x4_11, mO_12, mR_13)) = some ((x3_30, x4_31, mO_32, mR_33)) → ∀ (H : Heap) (locs : List Loc), va_P (dC, dI) vwCl (wX5 cyI mo aMF aMT aMW aMU aMP aML aMM aMO aMR aMD aMB aMK mTh mNo mAr mS mG mQ mWa mPa mLa mF mT mW mU mP mL mM mO_12 mR_13 mD mB mK) H → va_D A (wX5 cyI mo aMF aMT aMW aMU aMP aML aMM aMO aMR aMD aMB aMK mTh mNo mAr mS mG mQ mWa mPa mLa mF mT mW mU mP mL mM mO_12 mR_13 mD mB mK) → va_S A s.heap H locs → ∀ ls : Array Slot, lv_has ls 6 [(0, .ref mo), (1, .int p0), (2, .int p1), (3, .int x3_10), (4, .int x4_11)] → W p l e { frames := 1, cells := 0, slots := 0, locals := 24 } s m args below meth c H locs 0 0 Q (F0 m 80 ls []) := by
          intro n9
          induction n9 with
          | zero =>
            intro x3_10 x4_11 mO_12 mR_13 h
            exact lp0 h
          | succ n9 ih1 =>
            intro x3_10 x4_11 mO_12 mR_13 h H locs hP hD hS ls hl
            obtain ⟨o9, g, h⟩ := lps h
            replace g : pX5_begin_l80'' N mAr mF mL mT mU mW x3_10 x4_11 mO_12 mR_13 = some o9 := g
            unfold pX5_begin_l80'' at g
            refine lv_iload hx hb dX5_begin_80 (lv_at hl 4 rfl) ?_
            refine lv_aload_n hx hb dX5_begin_82 rfl (lv_at hl 0 rfl) ?_
            refine va_get (D := (dC, dI)) (ci := 5) (v := .int mAr) (C := RX5) (T := TX5) (N := 21) hx hb hts k1 hown hK hP 0 rfl rfl 2 (by decide) k5 (fun _ h9 => h9) rfl dX5_begin_83 ?_
            refine lv_icmp_ge (tgt := 185) hx hb dX5_begin_86 (by decide) (fun c9 => ?_) (fun c9 => ?_)
            · have g := ipos c9 g
              cases g
              have h := lpx h
              cases h
              exact hT1 _ _ hP hD hS _ (lv_sub hl [0, 1, 2, 3, 4] rfl)
            · have g := ineg c9 g
              refine lv_aload_n hx hb dX5_begin_89 rfl (lv_at hl 0 rfl) ?_
              refine va_get (D := (dC, dI)) (ci := 5) (v := .ref aMO) (C := RX5) (T := TX5) (N := 21) hx hb hts k1 hown hK hP 0 rfl rfl 13 (by decide) k6 (fun _ h9 => h9) rfl dX5_begin_90 ?_
              refine lv_iload hx hb dX5_begin_93 (lv_at hl 4 rfl) ?_
              refine lv_aload_n hx hb dX5_begin_95 rfl (lv_at hl 0 rfl) ?_
              refine va_get (D := (dC, dI)) (ci := 5) (v := .ref aML) (C := RX5) (T := TX5) (N := 21) hx hb hts k1 hown hK hP 0 rfl rfl 11 (by decide) k7 (fun _ h9 => h9) rfl dX5_begin_96 ?_
              refine lv_iload hx hb dX5_begin_99 (lv_at hl 4 rfl) ?_
              obtain ⟨t14, e9, g⟩ := bd g
              refine q_iald hx hb hK hP 6 0 rfl rfl e9 dX5_begin_101 ?_
              obtain ⟨mO_15, e9, g⟩ := bd g
              refine q_iast (ws2 := wX5 cyI mo aMF aMT aMW aMU aMP aML aMM aMO aMR aMD aMB aMK mTh mNo mAr mS mG mQ mWa mPa mLa mF mT mW mU mP mL mM mO_15 mR_13 mD mB mK) hx hb hK hP hD hS 8 0 rfl rfl e9 dX5_begin_102 rfl (fun H locs hP hD hS => ?_)
              refine lv_aload_n hx hb dX5_begin_103 rfl (lv_at hl 0 rfl) ?_
              refine va_get (D := (dC, dI)) (ci := 5) (v := .ref aMR) (C := RX5) (T := TX5) (N := 21) hx hb hts k1 hown hK hP 0 rfl rfl 14 (by decide) k2 (fun _ h9 => h9) rfl dX5_begin_104 ?_
              refine lv_aload_n hx hb dX5_begin_107 rfl (lv_at hl 0 rfl) ?_
              refine va_get (D := (dC, dI)) (ci := 5) (v := .ref aMF) (C := RX5) (T := TX5) (N := 21) hx hb hts k1 hown hK hP 0 rfl rfl 3 (by decide) k8 (fun _ h9 => h9) rfl dX5_begin_108 ?_
              refine lv_iload hx hb dX5_begin_111 (lv_at hl 4 rfl) ?_
              obtain ⟨t16, e9, g⟩ := bd g
              refine q_iald hx hb hK hP 1 0 rfl rfl e9 dX5_begin_113 ?_
              refine lv_dup2_11 hx hb dX5_begin_114 rfl rfl ?_
              obtain ⟨t17, e9, g⟩ := bd g
              refine q_iald hx hb hK hP 9 0 rfl rfl e9 dX5_begin_115 ?_
              refine lv_aload_n hx hb dX5_begin_116 rfl (lv_at hl 0 rfl) ?_
              refine va_get (D := (dC, dI)) (ci := 5) (v := .ref aML) (C := RX5) (T := TX5) (N := 21) hx hb hts k1 hown hK hP 0 rfl rfl 11 (by decide) k7 (fun _ h9 => h9) rfl dX5_begin_117 ?_
              refine lv_iload hx hb dX5_begin_120 (lv_at hl 4 rfl) ?_
              obtain ⟨t18, e9, g⟩ := bd g
              refine q_iald hx hb hK hP 6 0 rfl rfl e9 dX5_begin_122 ?_
              refine lv_isub hx hb dX5_begin_123 ?_
              obtain ⟨mR_19, e9, g⟩ := bd g
              refine q_iast (ws2 := wX5 cyI mo aMF aMT aMW aMU aMP aML aMM aMO aMR aMD aMB aMK mTh mNo mAr mS mG mQ mWa mPa mLa mF mT mW mU mP mL mM mO_15 mR_19 mD mB mK) hx hb hK hP hD hS 9 0 rfl rfl e9 dX5_begin_124 rfl (fun H locs hP hD hS => ?_)
              refine lv_aload_n hx hb dX5_begin_125 rfl (lv_at hl 0 rfl) ?_
              refine va_get (D := (dC, dI)) (ci := 5) (v := .ref aMR) (C := RX5) (T := TX5) (N := 21) hx hb hts k1 hown hK hP 0 rfl rfl 14 (by decide) k2 (fun _ h9 => h9) rfl dX5_begin_126 ?_
              refine lv_aload_n hx hb dX5_begin_129 rfl (lv_at hl 0 rfl) ?_
              refine va_get (D := (dC, dI)) (ci := 5) (v := .ref aMT) (C := RX5) (T := TX5) (N := 21) hx hb hts k1 hown hK hP 0 rfl rfl 4 (by decide) k9 (fun _ h9 => h9) rfl dX5_begin_130 ?_
              refine lv_iload hx hb dX5_begin_133 (lv_at hl 4 rfl) ?_
              obtain ⟨t20, e9, g⟩ := bd g
              refine q_iald hx hb hK hP 2 0 rfl rfl e9 dX5_begin_135 ?_
              refine lv_dup2_11 hx hb dX5_begin_136 rfl rfl ?_
              obtain ⟨t21, e9, g⟩ := bd g
              refine q_iald hx hb hK hP 9 0 rfl rfl e9 dX5_begin_137 ?_
              refine lv_aload_n hx hb dX5_begin_138 rfl (lv_at hl 0 rfl) ?_
              refine va_get (D := (dC, dI)) (ci := 5) (v := .ref aML) (C := RX5) (T := TX5) (N := 21) hx hb hts k1 hown hK hP 0 rfl rfl 11 (by decide) k7 (fun _ h9 => h9) rfl dX5_begin_139 ?_
              refine lv_iload hx hb dX5_begin_142 (lv_at hl 4 rfl) ?_
              obtain ⟨t22, e9, g⟩ := bd g
              refine q_iald hx hb hK hP 6 0 rfl rfl e9 dX5_begin_144 ?_
              refine lv_iadd hx hb dX5_begin_145 ?_
              obtain ⟨mR_23, e9, g⟩ := bd g
              refine q_iast (ws2 := wX5 cyI mo aMF aMT aMW aMU aMP aML aMM aMO aMR aMD aMB aMK mTh mNo mAr mS mG mQ mWa mPa mLa mF mT mW mU mP mL mM mO_15 mR_23 mD mB mK) hx hb hK hP hD hS 9 0 rfl rfl e9 dX5_begin_146 rfl (fun H locs hP hD hS => ?_)
              refine lv_iconst (v := 1) hx hb dX5_begin_147 (by decide) ?_
              refine lv_istore (lv' := [(5, .int 1), (0, .ref mo), (1, .int p0), (2, .int p1), (3, .int x3_10), (4, .int x4_11)]) hx hb dX5_begin_148 hl (by decide) rfl (fun ls hl => ?_)
              obtain ⟨x3_28, x5_29, e2, g⟩ := bd2 g
              have hT2 : ∀ (H : Heap) (locs : List Loc), va_P (dC, dI) vwCl (wX5 cyI mo aMF aMT aMW aMU aMP aML aMM aMO aMR aMD aMB aMK mTh mNo mAr mS mG mQ mWa mPa mLa mF mT mW mU mP mL mM mO_15 mR_23 mD mB mK) H → va_D A (wX5 cyI mo aMF aMT aMW aMU aMP aML aMM aMO aMR aMD aMB aMK mTh mNo mAr mS mG mQ mWa mPa mLa mF mT mW mU mP mL mM mO_15 mR_23 mD mB mK) → va_S A s.heap H locs → ∀ ls : Array Slot, lv_has ls 6 [(0, .ref mo), (1, .int p0), (2, .int p1), (3, .int x3_28), (4, .int x4_11), (5, .int x5_29)] → W p l e { frames := 1, cells := 0, slots := 0, locals := 24 } s m args below meth c H locs 0 0 Q (F0 m 179 ls []) := by
                intro H locs hP hD hS ls hl
                refine lv_iinc (v := x4_11 + 1) (lv' := [(4, .int (x4_11 + 1)), (0, .ref mo), (1, .int p0), (2, .int p1), (3, .int x3_28), (5, .int x5_29)]) hx hb dX5_begin_179 hl (k := 4) rfl (by rfl) (by decide) rfl (fun ls hl => ?_)
                refine lv_goto (tgt := 80) hx hb dX5_begin_182 (by decide) ?_
                cases g
                exact ih1 _ _ _ _ h _ _ hP hD hS _ (lv_sub hl [1, 2, 3, 4, 0] rfl)
              have hL2 : ∀ (n9 : Nat) (x3_24 : Int32) (x5_25 : Int32), lp (un2 (pX5_begin_l150'' N mL mU mW x4_11)) n9 ((x3_24, x5_25)) = some ((x3_28, x5_29)) → ∀ (H : Heap) (locs : List Loc), va_P (dC, dI) vwCl (wX5 cyI mo aMF aMT aMW aMU aMP aML aMM aMO aMR aMD aMB aMK mTh mNo mAr mS mG mQ mWa mPa mLa mF mT mW mU mP mL mM mO_15 mR_23 mD mB mK) H → va_D A (wX5 cyI mo aMF aMT aMW aMU aMP aML aMM aMO aMR aMD aMB aMK mTh mNo mAr mS mG mQ mWa mPa mLa mF mT mW mU mP mL mM mO_15 mR_23 mD mB mK) → va_S A s.heap H locs → ∀ ls : Array Slot, lv_has ls 6 [(0, .ref mo), (1, .int p0), (2, .int p1), (3, .int x3_24), (4, .int x4_11), (5, .int x5_25)] → W p l e { frames := 1, cells := 0, slots := 0, locals := 24 } s m args below meth c H locs 0 0 Q (F0 m 150 ls []) := by
                intro n9
                induction n9 with
                | zero =>
                  intro x3_24 x5_25 h
                  exact lp0 h
                | succ n9 ih2 =>
                  intro x3_24 x5_25 h H locs hP hD hS ls hl
                  obtain ⟨o9, g, h⟩ := lps h
                  replace g : pX5_begin_l150'' N mL mU mW x4_11 x3_24 x5_25 = some o9 := g
                  unfold pX5_begin_l150'' at g
                  refine lv_iload hx hb dX5_begin_150 (lv_at hl 5 rfl) ?_
                  refine lv_aload_n hx hb dX5_begin_152 rfl (lv_at hl 0 rfl) ?_
                  refine va_get (D := (dC, dI)) (ci := 5) (v := .ref aML) (C := RX5) (T := TX5) (N := 21) hx hb hts k1 hown hK hP 0 rfl rfl 11 (by decide) k7 (fun _ h9 => h9) rfl dX5_begin_153 ?_
                  refine lv_iload hx hb dX5_begin_156 (lv_at hl 4 rfl) ?_
                  obtain ⟨t26, e9, g⟩ := bd g
                  refine q_iald hx hb hK hP 6 0 rfl rfl e9 dX5_begin_158 ?_
                  refine lv_icmp_gt (tgt := 179) hx hb dX5_begin_159 (by decide) (fun c9 => ?_) (fun c9 => ?_)
                  · have g := ipos c9 g
                    cases g
                    have h := lpx h
                    cases h
                    exact hT2 _ _ hP hD hS _ (lv_sub hl [0, 1, 2, 3, 4, 5] rfl)
                  · have g := ineg c9 g
                    refine lv_iload_n hx hb dX5_begin_162 rfl (lv_at hl 3 rfl) ?_
                    refine lv_aload_n hx hb dX5_begin_163 rfl (lv_at hl 0 rfl) ?_
                    refine lv_iload hx hb dX5_begin_164 (lv_at hl 4 rfl) ?_
                    refine lv_iload hx hb dX5_begin_166 (lv_at hl 5 rfl) ?_
                    obtain ⟨r27, e9, g⟩ := bd g
                    refine q_callVi (ret := r27) (As := [.int x4_11, .int x5_25]) (w1 := wX5 cyI mo aMF aMT aMW aMU aMP aML aMM aMO aMR aMD aMB aMK mTh mNo mAr mS mG mQ mWa mPa mLa mF mT mW mU mP mL mM mO_15 mR_23 mD mB mK) (ws2 := wX5 cyI mo aMF aMT aMW aMU aMP aML aMM aMO aMR aMD aMB aMK mTh mNo mAr mS mG mQ mWa mPa mLa mF mT mW mU mP mL mM mO_15 mR_23 mD mB mK) ⟨hx, hb, hml, hown, hts⟩ (c_X5_priceOf l dC dI cyI mo aMF aMT aMW aMU aMP aML aMM aMO aMR aMD aMB aMK H.size mTh mNo mAr mS mG mQ mWa mPa mLa mF mT mW mU mP mL mM mO_15 mR_23 mD mB mK x4_11 x5_25 N _ e9) (cwV 2 hts gX5_begin_X5_priceOf rfl rfl rfl (by decide +kernel) ⟨Nat.le_of_ble_eq_true rfl, Nat.le_of_ble_eq_true rfl⟩) hK hP hD hS hA [0, 1, 2, 3, 4, 5, 6, 7, 8, 9, 10, 11, 12] [] [0, 1, 2, 3, 4, 5, 6, 7, 8, 9, 10, 11, 12] [0] rfl rfl rfl rfl (by decide) rfl rfl rfl 5 0 rfl rfl rfl hl.1 (Nat.le_of_ble_eq_true rfl) (Nat.le_of_ble_eq_true rfl) (Nat.le_of_ble_eq_true rfl) rfl dX5_begin_168 (fun H locs hP hD hS => ?_)
                    refine lv_iadd hx hb dX5_begin_171 ?_
                    refine lv_istore_n (lv' := [(3, .int (x3_24 + r27)), (0, .ref mo), (1, .int p0), (2, .int p1), (4, .int x4_11), (5, .int x5_25)]) hx hb dX5_begin_172 rfl hl (by decide) rfl (fun ls hl => ?_)
                    refine lv_iinc (v := x5_25 + 1) (lv' := [(5, .int (x5_25 + 1)), (3, .int (x3_24 + r27)), (0, .ref mo), (1, .int p0), (2, .int p1), (4, .int x4_11)]) hx hb dX5_begin_173 hl (k := 5) rfl (by rfl) (by decide) rfl (fun ls hl => ?_)
                    refine lv_goto (tgt := 150) hx hb dX5_begin_176 (by decide) ?_
                    cases g
                    exact ih2 _ _ h _ _ hP hD hS _ (lv_sub hl [2, 3, 4, 1, 5, 0] rfl)
              exact hL2 N _ _  e2 _ _ hP hD hS _ (lv_sub hl [1, 2, 3, 4, 5, 0] rfl)
        exact hL1 N _ _ _ _  e1 _ _ hP hD hS _ (lv_sub hl [2, 3, 4, 1, 0] rfl)
      · have h := ineg c9 h
        refine lv_aload_n hx hb dX5_begin_65 rfl (lv_at hl 0 rfl) ?_
        refine va_get (D := (dC, dI)) (ci := 5) (v := .ref aMR) (C := RX5) (T := TX5) (N := 21) hx hb hts k1 hown hK hP 0 rfl rfl 14 (by decide) k2 (fun _ h9 => h9) rfl dX5_begin_66 ?_
        refine lv_iload_n hx hb dX5_begin_69 rfl (lv_at hl 2 rfl) ?_
        refine lv_dup2_11 hx hb dX5_begin_70 rfl rfl ?_
        obtain ⟨t34, e9, h⟩ := bd h
        refine q_iald hx hb hK hP 9 0 rfl rfl e9 dX5_begin_71 ?_
        refine lv_iconst (v := 1) hx hb dX5_begin_72 (by decide) ?_
        refine lv_isub hx hb dX5_begin_73 ?_
        obtain ⟨mR_35, e9, h⟩ := bd h
        refine q_iast (ws2 := wX5 cyI mo aMF aMT aMW aMU aMP aML aMM aMO aMR aMD aMB aMK mTh mNo mAr mS mG mQ mWa mPa mLa mF mT mW mU mP mL mM mO mR_35 mD mB mK) hx hb hK hP hD hS 9 0 rfl rfl e9 dX5_begin_74 rfl (fun H locs hP hD hS => ?_)
        refine lv_iconst (v := 0) hx hb dX5_begin_75 (by decide) ?_
        refine lv_istore_n (lv' := [(3, .int 0), (0, .ref mo), (1, .int p0), (2, .int p1)]) hx hb dX5_begin_76 rfl hl (by decide) rfl (fun ls hl => ?_)
        refine lv_iconst (v := 0) hx hb dX5_begin_77 (by decide) ?_
        refine lv_istore (lv' := [(4, .int 0), (3, .int 0), (0, .ref mo), (1, .int p0), (2, .int p1)]) hx hb dX5_begin_78 hl (by decide) rfl (fun ls hl => ?_)
        obtain ⟨x3_56, x4_57, mO_58, mR_59, e3, h⟩ := bd4 h
        have hT3 : ∀ (H : Heap) (locs : List Loc), va_P (dC, dI) vwCl (wX5 cyI mo aMF aMT aMW aMU aMP aML aMM aMO aMR aMD aMB aMK mTh mNo mAr mS mG mQ mWa mPa mLa mF mT mW mU mP mL mM mO_58 mR_59 mD mB mK) H → va_D A (wX5 cyI mo aMF aMT aMW aMU aMP aML aMM aMO aMR aMD aMB aMK mTh mNo mAr mS mG mQ mWa mPa mLa mF mT mW mU mP mL mM mO_58 mR_59 mD mB mK) → va_S A s.heap H locs → ∀ ls : Array Slot, lv_has ls 6 [(0, .ref mo), (1, .int p0), (2, .int p1), (3, .int x3_56), (4, .int x4_57)] → W p l e { frames := 1, cells := 0, slots := 0, locals := 24 } s m args below meth c H locs 0 0 Q (F0 m 185 ls []) := by
          intro H locs hP hD hS ls hl
          refine lv_iload_n hx hb dX5_begin_185 rfl (lv_at hl 3 rfl) ?_
          cases h
          exact q_iret hQ hx hb hr hlocks hP hK hD hS dX5_begin_186
        have hL3 : ∀ (n9 : Nat) (x3_36 : Int32) (x4_37 : Int32) (mO_38 : Nat → Int32) (mR_39 : Nat → Int32), lp (un4 (pX5_begin_l80''' N mAr mF mL mT mU mW)) n9 ((x3_36, x4_37, mO_38, mR_39)) = some ((x3_56, x4_57, mO_58, mR_59)) → ∀ (H : Heap) (locs : List Loc), va_P (dC, dI) vwCl (wX5 cyI mo aMF aMT aMW aMU aMP aML aMM aMO aMR aMD aMB aMK mTh mNo mAr mS mG mQ mWa mPa mLa mF mT mW mU mP mL mM mO_38 mR_39 mD mB mK) H → va_D A (wX5 cyI mo aMF aMT aMW aMU aMP aML aMM aMO aMR aMD aMB aMK mTh mNo mAr mS mG mQ mWa mPa mLa mF mT mW mU mP mL mM mO_38 mR_39 mD mB mK) → va_S A s.heap H locs → ∀ ls : Array Slot, lv_has ls 6 [(0, .ref mo), (1, .int p0), (2, .int p1), (3, .int x3_36), (4, .int x4_37)] → W p l e { frames := 1, cells := 0, slots := 0, locals := 24 } s m args below meth c H locs 0 0 Q (F0 m 80 ls []) := by
          intro n9
          induction n9 with
          | zero =>
            intro x3_36 x4_37 mO_38 mR_39 h
            exact lp0 h
          | succ n9 ih3 =>
            intro x3_36 x4_37 mO_38 mR_39 h H locs hP hD hS ls hl
            obtain ⟨o9, g, h⟩ := lps h
            replace g : pX5_begin_l80''' N mAr mF mL mT mU mW x3_36 x4_37 mO_38 mR_39 = some o9 := g
            unfold pX5_begin_l80''' at g
            refine lv_iload hx hb dX5_begin_80 (lv_at hl 4 rfl) ?_
            refine lv_aload_n hx hb dX5_begin_82 rfl (lv_at hl 0 rfl) ?_
            refine va_get (D := (dC, dI)) (ci := 5) (v := .int mAr) (C := RX5) (T := TX5) (N := 21) hx hb hts k1 hown hK hP 0 rfl rfl 2 (by decide) k5 (fun _ h9 => h9) rfl dX5_begin_83 ?_
            refine lv_icmp_ge (tgt := 185) hx hb dX5_begin_86 (by decide) (fun c9 => ?_) (fun c9 => ?_)
            · have g := ipos c9 g
              cases g
              have h := lpx h
              cases h
              exact hT3 _ _ hP hD hS _ (lv_sub hl [0, 1, 2, 3, 4] rfl)
            · have g := ineg c9 g
              refine lv_aload_n hx hb dX5_begin_89 rfl (lv_at hl 0 rfl) ?_
              refine va_get (D := (dC, dI)) (ci := 5) (v := .ref aMO) (C := RX5) (T := TX5) (N := 21) hx hb hts k1 hown hK hP 0 rfl rfl 13 (by decide) k6 (fun _ h9 => h9) rfl dX5_begin_90 ?_
              refine lv_iload hx hb dX5_begin_93 (lv_at hl 4 rfl) ?_
              refine lv_aload_n hx hb dX5_begin_95 rfl (lv_at hl 0 rfl) ?_
              refine va_get (D := (dC, dI)) (ci := 5) (v := .ref aML) (C := RX5) (T := TX5) (N := 21) hx hb hts k1 hown hK hP 0 rfl rfl 11 (by decide) k7 (fun _ h9 => h9) rfl dX5_begin_96 ?_
              refine lv_iload hx hb dX5_begin_99 (lv_at hl 4 rfl) ?_
              obtain ⟨t40, e9, g⟩ := bd g
              refine q_iald hx hb hK hP 6 0 rfl rfl e9 dX5_begin_101 ?_
              obtain ⟨mO_41, e9, g⟩ := bd g
              refine q_iast (ws2 := wX5 cyI mo aMF aMT aMW aMU aMP aML aMM aMO aMR aMD aMB aMK mTh mNo mAr mS mG mQ mWa mPa mLa mF mT mW mU mP mL mM mO_41 mR_39 mD mB mK) hx hb hK hP hD hS 8 0 rfl rfl e9 dX5_begin_102 rfl (fun H locs hP hD hS => ?_)
              refine lv_aload_n hx hb dX5_begin_103 rfl (lv_at hl 0 rfl) ?_
              refine va_get (D := (dC, dI)) (ci := 5) (v := .ref aMR) (C := RX5) (T := TX5) (N := 21) hx hb hts k1 hown hK hP 0 rfl rfl 14 (by decide) k2 (fun _ h9 => h9) rfl dX5_begin_104 ?_
              refine lv_aload_n hx hb dX5_begin_107 rfl (lv_at hl 0 rfl) ?_
              refine va_get (D := (dC, dI)) (ci := 5) (v := .ref aMF) (C := RX5) (T := TX5) (N := 21) hx hb hts k1 hown hK hP 0 rfl rfl 3 (by decide) k8 (fun _ h9 => h9) rfl dX5_begin_108 ?_
              refine lv_iload hx hb dX5_begin_111 (lv_at hl 4 rfl) ?_
              obtain ⟨t42, e9, g⟩ := bd g
              refine q_iald hx hb hK hP 1 0 rfl rfl e9 dX5_begin_113 ?_
              refine lv_dup2_11 hx hb dX5_begin_114 rfl rfl ?_
              obtain ⟨t43, e9, g⟩ := bd g
              refine q_iald hx hb hK hP 9 0 rfl rfl e9 dX5_begin_115 ?_
              refine lv_aload_n hx hb dX5_begin_116 rfl (lv_at hl 0 rfl) ?_
              refine va_get (D := (dC, dI)) (ci := 5) (v := .ref aML) (C := RX5) (T := TX5) (N := 21) hx hb hts k1 hown hK hP 0 rfl rfl 11 (by decide) k7 (fun _ h9 => h9) rfl dX5_begin_117 ?_
              refine lv_iload hx hb dX5_begin_120 (lv_at hl 4 rfl) ?_
              obtain ⟨t44, e9, g⟩ := bd g
              refine q_iald hx hb hK hP 6 0 rfl rfl e9 dX5_begin_122 ?_
              refine lv_isub hx hb dX5_begin_123 ?_
              obtain ⟨mR_45, e9, g⟩ := bd g
              refine q_iast (ws2 := wX5 cyI mo aMF aMT aMW aMU aMP aML aMM aMO aMR aMD aMB aMK mTh mNo mAr mS mG mQ mWa mPa mLa mF mT mW mU mP mL mM mO_41 mR_45 mD mB mK) hx hb hK hP hD hS 9 0 rfl rfl e9 dX5_begin_124 rfl (fun H locs hP hD hS => ?_)
              refine lv_aload_n hx hb dX5_begin_125 rfl (lv_at hl 0 rfl) ?_
              refine va_get (D := (dC, dI)) (ci := 5) (v := .ref aMR) (C := RX5) (T := TX5) (N := 21) hx hb hts k1 hown hK hP 0 rfl rfl 14 (by decide) k2 (fun _ h9 => h9) rfl dX5_begin_126 ?_
              refine lv_aload_n hx hb dX5_begin_129 rfl (lv_at hl 0 rfl) ?_
              refine va_get (D := (dC, dI)) (ci := 5) (v := .ref aMT) (C := RX5) (T := TX5) (N := 21) hx hb hts k1 hown hK hP 0 rfl rfl 4 (by decide) k9 (fun _ h9 => h9) rfl dX5_begin_130 ?_
              refine lv_iload hx hb dX5_begin_133 (lv_at hl 4 rfl) ?_
              obtain ⟨t46, e9, g⟩ := bd g
              refine q_iald hx hb hK hP 2 0 rfl rfl e9 dX5_begin_135 ?_
              refine lv_dup2_11 hx hb dX5_begin_136 rfl rfl ?_
              obtain ⟨t47, e9, g⟩ := bd g
              refine q_iald hx hb hK hP 9 0 rfl rfl e9 dX5_begin_137 ?_
              refine lv_aload_n hx hb dX5_begin_138 rfl (lv_at hl 0 rfl) ?_
              refine va_get (D := (dC, dI)) (ci := 5) (v := .ref aML) (C := RX5) (T := TX5) (N := 21) hx hb hts k1 hown hK hP 0 rfl rfl 11 (by decide) k7 (fun _ h9 => h9) rfl dX5_begin_139 ?_
              refine lv_iload hx hb dX5_begin_142 (lv_at hl 4 rfl) ?_
              obtain ⟨t48, e9, g⟩ := bd g
              refine q_iald hx hb hK hP 6 0 rfl rfl e9 dX5_begin_144 ?_
              refine lv_iadd hx hb dX5_begin_145 ?_
              obtain ⟨mR_49, e9, g⟩ := bd g
              refine q_iast (ws2 := wX5 cyI mo aMF aMT aMW aMU aMP aML aMM aMO aMR aMD aMB aMK mTh mNo mAr mS mG mQ mWa mPa mLa mF mT mW mU mP mL mM mO_41 mR_49 mD mB mK) hx hb hK hP hD hS 9 0 rfl rfl e9 dX5_begin_146 rfl (fun H locs hP hD hS => ?_)
              refine lv_iconst (v := 1) hx hb dX5_begin_147 (by decide) ?_
              refine lv_istore (lv' := [(5, .int 1), (0, .ref mo), (1, .int p0), (2, .int p1), (3, .int x3_36), (4, .int x4_37)]) hx hb dX5_begin_148 hl (by decide) rfl (fun ls hl => ?_)
              obtain ⟨x3_54, x5_55, e4, g⟩ := bd2 g
              have hT4 : ∀ (H : Heap) (locs : List Loc), va_P (dC, dI) vwCl (wX5 cyI mo aMF aMT aMW aMU aMP aML aMM aMO aMR aMD aMB aMK mTh mNo mAr mS mG mQ mWa mPa mLa mF mT mW mU mP mL mM mO_41 mR_49 mD mB mK) H → va_D A (wX5 cyI mo aMF aMT aMW aMU aMP aML aMM aMO aMR aMD aMB aMK mTh mNo mAr mS mG mQ mWa mPa mLa mF mT mW mU mP mL mM mO_41 mR_49 mD mB mK) → va_S A s.heap H locs → ∀ ls : Array Slot, lv_has ls 6 [(0, .ref mo), (1, .int p0), (2, .int p1), (3, .int x3_54), (4, .int x4_37), (5, .int x5_55)] → W p l e { frames := 1, cells := 0, slots := 0, locals := 24 } s m args below meth c H locs 0 0 Q (F0 m 179 ls []) := by
                intro H locs hP hD hS ls hl
                refine lv_iinc (v := x4_37 + 1) (lv' := [(4, .int (x4_37 + 1)), (0, .ref mo), (1, .int p0), (2, .int p1), (3, .int x3_54), (5, .int x5_55)]) hx hb dX5_begin_179 hl (k := 4) rfl (by rfl) (by decide) rfl (fun ls hl => ?_)
                refine lv_goto (tgt := 80) hx hb dX5_begin_182 (by decide) ?_
                cases g
                exact ih3 _ _ _ _ h _ _ hP hD hS _ (lv_sub hl [1, 2, 3, 4, 0] rfl)
              have hL4 : ∀ (n9 : Nat) (x3_50 : Int32) (x5_51 : Int32), lp (un2 (pX5_begin_l150''' N mL mU mW x4_37)) n9 ((x3_50, x5_51)) = some ((x3_54, x5_55)) → ∀ (H : Heap) (locs : List Loc), va_P (dC, dI) vwCl (wX5 cyI mo aMF aMT aMW aMU aMP aML aMM aMO aMR aMD aMB aMK mTh mNo mAr mS mG mQ mWa mPa mLa mF mT mW mU mP mL mM mO_41 mR_49 mD mB mK) H → va_D A (wX5 cyI mo aMF aMT aMW aMU aMP aML aMM aMO aMR aMD aMB aMK mTh mNo mAr mS mG mQ mWa mPa mLa mF mT mW mU mP mL mM mO_41 mR_49 mD mB mK) → va_S A s.heap H locs → ∀ ls : Array Slot, lv_has ls 6 [(0, .ref mo), (1, .int p0), (2, .int p1), (3, .int x3_50), (4, .int x4_37), (5, .int x5_51)] → W p l e { frames := 1, cells := 0, slots := 0, locals := 24 } s m args below meth c H locs 0 0 Q (F0 m 150 ls []) := by
                intro n9
                induction n9 with
                | zero =>
                  intro x3_50 x5_51 h
                  exact lp0 h
                | succ n9 ih4 =>
                  intro x3_50 x5_51 h H locs hP hD hS ls hl
                  obtain ⟨o9, g, h⟩ := lps h
                  replace g : pX5_begin_l150''' N mL mU mW x4_37 x3_50 x5_51 = some o9 := g
                  unfold pX5_begin_l150''' at g
                  refine lv_iload hx hb dX5_begin_150 (lv_at hl 5 rfl) ?_
                  refine lv_aload_n hx hb dX5_begin_152 rfl (lv_at hl 0 rfl) ?_
                  refine va_get (D := (dC, dI)) (ci := 5) (v := .ref aML) (C := RX5) (T := TX5) (N := 21) hx hb hts k1 hown hK hP 0 rfl rfl 11 (by decide) k7 (fun _ h9 => h9) rfl dX5_begin_153 ?_
                  refine lv_iload hx hb dX5_begin_156 (lv_at hl 4 rfl) ?_
                  obtain ⟨t52, e9, g⟩ := bd g
                  refine q_iald hx hb hK hP 6 0 rfl rfl e9 dX5_begin_158 ?_
                  refine lv_icmp_gt (tgt := 179) hx hb dX5_begin_159 (by decide) (fun c9 => ?_) (fun c9 => ?_)
                  · have g := ipos c9 g
                    cases g
                    have h := lpx h
                    cases h
                    exact hT4 _ _ hP hD hS _ (lv_sub hl [0, 1, 2, 3, 4, 5] rfl)
                  · have g := ineg c9 g
                    refine lv_iload_n hx hb dX5_begin_162 rfl (lv_at hl 3 rfl) ?_
                    refine lv_aload_n hx hb dX5_begin_163 rfl (lv_at hl 0 rfl) ?_
                    refine lv_iload hx hb dX5_begin_164 (lv_at hl 4 rfl) ?_
                    refine lv_iload hx hb dX5_begin_166 (lv_at hl 5 rfl) ?_
                    obtain ⟨r53, e9, g⟩ := bd g
                    refine q_callVi (ret := r53) (As := [.int x4_37, .int x5_51]) (w1 := wX5 cyI mo aMF aMT aMW aMU aMP aML aMM aMO aMR aMD aMB aMK mTh mNo mAr mS mG mQ mWa mPa mLa mF mT mW mU mP mL mM mO_41 mR_49 mD mB mK) (ws2 := wX5 cyI mo aMF aMT aMW aMU aMP aML aMM aMO aMR aMD aMB aMK mTh mNo mAr mS mG mQ mWa mPa mLa mF mT mW mU mP mL mM mO_41 mR_49 mD mB mK) ⟨hx, hb, hml, hown, hts⟩ (c_X5_priceOf l dC dI cyI mo aMF aMT aMW aMU aMP aML aMM aMO aMR aMD aMB aMK H.size mTh mNo mAr mS mG mQ mWa mPa mLa mF mT mW mU mP mL mM mO_41 mR_49 mD mB mK x4_37 x5_51 N _ e9) (cwV 2 hts gX5_begin_X5_priceOf rfl rfl rfl (by decide +kernel) ⟨Nat.le_of_ble_eq_true rfl, Nat.le_of_ble_eq_true rfl⟩) hK hP hD hS hA [0, 1, 2, 3, 4, 5, 6, 7, 8, 9, 10, 11, 12] [] [0, 1, 2, 3, 4, 5, 6, 7, 8, 9, 10, 11, 12] [0] rfl rfl rfl rfl (by decide) rfl rfl rfl 5 0 rfl rfl rfl hl.1 (Nat.le_of_ble_eq_true rfl) (Nat.le_of_ble_eq_true rfl) (Nat.le_of_ble_eq_true rfl) rfl dX5_begin_168 (fun H locs hP hD hS => ?_)
                    refine lv_iadd hx hb dX5_begin_171 ?_
                    refine lv_istore_n (lv' := [(3, .int (x3_50 + r53)), (0, .ref mo), (1, .int p0), (2, .int p1), (4, .int x4_37), (5, .int x5_51)]) hx hb dX5_begin_172 rfl hl (by decide) rfl (fun ls hl => ?_)
                    refine lv_iinc (v := x5_51 + 1) (lv' := [(5, .int (x5_51 + 1)), (3, .int (x3_50 + r53)), (0, .ref mo), (1, .int p0), (2, .int p1), (4, .int x4_37)]) hx hb dX5_begin_173 hl (k := 5) rfl (by rfl) (by decide) rfl (fun ls hl => ?_)
                    refine lv_goto (tgt := 150) hx hb dX5_begin_176 (by decide) ?_
                    cases g
                    exact ih4 _ _ h _ _ hP hD hS _ (lv_sub hl [2, 3, 4, 1, 5, 0] rfl)
              exact hL4 N _ _  e4 _ _ hP hD hS _ (lv_sub hl [1, 2, 3, 4, 5, 0] rfl)
        exact hL3 N _ _ _ _  e3 _ _ hP hD hS _ (lv_sub hl [2, 3, 4, 1, 0] rfl)
    · have h := ipos c9 h
      refine lv_iconst (v := 0) hx hb dX5_begin_39 (by decide) ?_
      refine lv_goto (tgt := 44) hx hb dX5_begin_40 (by decide) ?_
      refine lv_iadd hx hb dX5_begin_44 ?_
      refine lv_iadd hx hb dX5_begin_45 ?_
      obtain ⟨mR_60, e9, h⟩ := bd h
      refine q_iast (ws2 := wX5 cyI mo aMF aMT aMW aMU aMP aML aMM aMO aMR aMD aMB aMK mTh mNo mAr mS mG mQ mWa mPa mLa mF mT mW mU mP mL mM mO mR_60 mD mB mK) hx hb hK hP hD hS 9 0 rfl rfl e9 dX5_begin_46 rfl (fun H locs hP hD hS => ?_)
      refine lv_aload_n hx hb dX5_begin_47 rfl (lv_at hl 0 rfl) ?_
      refine va_get (D := (dC, dI)) (ci := 5) (v := .ref aMR) (C := RX5) (T := TX5) (N := 21) hx hb hts k1 hown hK hP 0 rfl rfl 14 (by decide) k2 (fun _ h9 => h9) rfl dX5_begin_48 ?_
      refine lv_aload_n hx hb dX5_begin_51 rfl (lv_at hl 0 rfl) ?_
      refine va_get (D := (dC, dI)) (ci := 5) (v := .int mG) (C := RX5) (T := TX5) (N := 21) hx hb hts k1 hown hK hP 0 rfl rfl 9 (by decide) k4 (fun _ h9 => h9) rfl dX5_begin_52 ?_
      refine lv_dup2_11 hx hb dX5_begin_55 rfl rfl ?_
      obtain ⟨t61, e9, h⟩ := bd h
      refine q_iald hx hb hK hP 9 0 rfl rfl e9 dX5_begin_56 ?_
      refine lv_iload_n hx hb dX5_begin_57 rfl (lv_at hl 1 rfl) ?_
      refine lv_isub hx hb dX5_begin_58 ?_
      obtain ⟨mR_62, e9, h⟩ := bd h
      refine q_iast (ws2 := wX5 cyI mo aMF aMT aMW aMU aMP aML aMM aMO aMR aMD aMB aMK mTh mNo mAr mS mG mQ mWa mPa mLa mF mT mW mU mP mL mM mO mR_62 mD mB mK) hx hb hK hP hD hS 9 0 rfl rfl e9 dX5_begin_59 rfl (fun H locs hP hD hS => ?_)
      refine lv_iload_n hx hb dX5_begin_60 rfl (lv_at hl 2 rfl) ?_
      refine lv_iconst (v := -1) hx hb dX5_begin_61 (by decide) ?_
      refine lv_icmp_eq (tgt := 75) hx hb dX5_begin_62 (by decide) (fun c9 => ?_) (fun c9 => ?_)
      · have h := ipos c9 h
        refine lv_iconst (v := 0) hx hb dX5_begin_75 (by decide) ?_
        refine lv_istore_n (lv' := [(3, .int 0), (0, .ref mo), (1, .int p0), (2, .int p1)]) hx hb dX5_begin_76 rfl hl (by decide) rfl (fun ls hl => ?_)
        refine lv_iconst (v := 0) hx hb dX5_begin_77 (by decide) ?_
        refine lv_istore (lv' := [(4, .int 0), (3, .int 0), (0, .ref mo), (1, .int p0), (2, .int p1)]) hx hb dX5_begin_78 hl (by decide) rfl (fun ls hl => ?_)
        obtain ⟨x3_83, x4_84, mO_85, mR_86, e5, h⟩ := bd4 h
        have hT5 : ∀ (H : Heap) (locs : List Loc), va_P (dC, dI) vwCl (wX5 cyI mo aMF aMT aMW aMU aMP aML aMM aMO aMR aMD aMB aMK mTh mNo mAr mS mG mQ mWa mPa mLa mF mT mW mU mP mL mM mO_85 mR_86 mD mB mK) H → va_D A (wX5 cyI mo aMF aMT aMW aMU aMP aML aMM aMO aMR aMD aMB aMK mTh mNo mAr mS mG mQ mWa mPa mLa mF mT mW mU mP mL mM mO_85 mR_86 mD mB mK) → va_S A s.heap H locs → ∀ ls : Array Slot, lv_has ls 6 [(0, .ref mo), (1, .int p0), (2, .int p1), (3, .int x3_83), (4, .int x4_84)] → W p l e { frames := 1, cells := 0, slots := 0, locals := 24 } s m args below meth c H locs 0 0 Q (F0 m 185 ls []) := by
          intro H locs hP hD hS ls hl
          refine lv_iload_n hx hb dX5_begin_185 rfl (lv_at hl 3 rfl) ?_
          cases h
          exact q_iret hQ hx hb hr hlocks hP hK hD hS dX5_begin_186
        have hL5 : ∀ (n9 : Nat) (x3_63 : Int32) (x4_64 : Int32) (mO_65 : Nat → Int32) (mR_66 : Nat → Int32), lp (un4 (pX5_begin_l80 N mAr mF mL mT mU mW)) n9 ((x3_63, x4_64, mO_65, mR_66)) = some ((x3_83, x4_84, mO_85, mR_86)) → ∀ (H : Heap) (locs : List Loc), va_P (dC, dI) vwCl (wX5 cyI mo aMF aMT aMW aMU aMP aML aMM aMO aMR aMD aMB aMK mTh mNo mAr mS mG mQ mWa mPa mLa mF mT mW mU mP mL mM mO_65 mR_66 mD mB mK) H → va_D A (wX5 cyI mo aMF aMT aMW aMU aMP aML aMM aMO aMR aMD aMB aMK mTh mNo mAr mS mG mQ mWa mPa mLa mF mT mW mU mP mL mM mO_65 mR_66 mD mB mK) → va_S A s.heap H locs → ∀ ls : Array Slot, lv_has ls 6 [(0, .ref mo), (1, .int p0), (2, .int p1), (3, .int x3_63), (4, .int x4_64)] → W p l e { frames := 1, cells := 0, slots := 0, locals := 24 } s m args below meth c H locs 0 0 Q (F0 m 80 ls []) := by
          intro n9
          induction n9 with
          | zero =>
            intro x3_63 x4_64 mO_65 mR_66 h
            exact lp0 h
          | succ n9 ih5 =>
            intro x3_63 x4_64 mO_65 mR_66 h H locs hP hD hS ls hl
            obtain ⟨o9, g, h⟩ := lps h
            replace g : pX5_begin_l80 N mAr mF mL mT mU mW x3_63 x4_64 mO_65 mR_66 = some o9 := g
            unfold pX5_begin_l80 at g
            refine lv_iload hx hb dX5_begin_80 (lv_at hl 4 rfl) ?_
            refine lv_aload_n hx hb dX5_begin_82 rfl (lv_at hl 0 rfl) ?_
            refine va_get (D := (dC, dI)) (ci := 5) (v := .int mAr) (C := RX5) (T := TX5) (N := 21) hx hb hts k1 hown hK hP 0 rfl rfl 2 (by decide) k5 (fun _ h9 => h9) rfl dX5_begin_83 ?_
            refine lv_icmp_ge (tgt := 185) hx hb dX5_begin_86 (by decide) (fun c9 => ?_) (fun c9 => ?_)
            · have g := ipos c9 g
              cases g
              have h := lpx h
              cases h
              exact hT5 _ _ hP hD hS _ (lv_sub hl [0, 1, 2, 3, 4] rfl)
            · have g := ineg c9 g
              refine lv_aload_n hx hb dX5_begin_89 rfl (lv_at hl 0 rfl) ?_
              refine va_get (D := (dC, dI)) (ci := 5) (v := .ref aMO) (C := RX5) (T := TX5) (N := 21) hx hb hts k1 hown hK hP 0 rfl rfl 13 (by decide) k6 (fun _ h9 => h9) rfl dX5_begin_90 ?_
              refine lv_iload hx hb dX5_begin_93 (lv_at hl 4 rfl) ?_
              refine lv_aload_n hx hb dX5_begin_95 rfl (lv_at hl 0 rfl) ?_
              refine va_get (D := (dC, dI)) (ci := 5) (v := .ref aML) (C := RX5) (T := TX5) (N := 21) hx hb hts k1 hown hK hP 0 rfl rfl 11 (by decide) k7 (fun _ h9 => h9) rfl dX5_begin_96 ?_
              refine lv_iload hx hb dX5_begin_99 (lv_at hl 4 rfl) ?_
              obtain ⟨t67, e9, g⟩ := bd g
              refine q_iald hx hb hK hP 6 0 rfl rfl e9 dX5_begin_101 ?_
              obtain ⟨mO_68, e9, g⟩ := bd g
              refine q_iast (ws2 := wX5 cyI mo aMF aMT aMW aMU aMP aML aMM aMO aMR aMD aMB aMK mTh mNo mAr mS mG mQ mWa mPa mLa mF mT mW mU mP mL mM mO_68 mR_66 mD mB mK) hx hb hK hP hD hS 8 0 rfl rfl e9 dX5_begin_102 rfl (fun H locs hP hD hS => ?_)
              refine lv_aload_n hx hb dX5_begin_103 rfl (lv_at hl 0 rfl) ?_
              refine va_get (D := (dC, dI)) (ci := 5) (v := .ref aMR) (C := RX5) (T := TX5) (N := 21) hx hb hts k1 hown hK hP 0 rfl rfl 14 (by decide) k2 (fun _ h9 => h9) rfl dX5_begin_104 ?_
              refine lv_aload_n hx hb dX5_begin_107 rfl (lv_at hl 0 rfl) ?_
              refine va_get (D := (dC, dI)) (ci := 5) (v := .ref aMF) (C := RX5) (T := TX5) (N := 21) hx hb hts k1 hown hK hP 0 rfl rfl 3 (by decide) k8 (fun _ h9 => h9) rfl dX5_begin_108 ?_
              refine lv_iload hx hb dX5_begin_111 (lv_at hl 4 rfl) ?_
              obtain ⟨t69, e9, g⟩ := bd g
              refine q_iald hx hb hK hP 1 0 rfl rfl e9 dX5_begin_113 ?_
              refine lv_dup2_11 hx hb dX5_begin_114 rfl rfl ?_
              obtain ⟨t70, e9, g⟩ := bd g
              refine q_iald hx hb hK hP 9 0 rfl rfl e9 dX5_begin_115 ?_
              refine lv_aload_n hx hb dX5_begin_116 rfl (lv_at hl 0 rfl) ?_
              refine va_get (D := (dC, dI)) (ci := 5) (v := .ref aML) (C := RX5) (T := TX5) (N := 21) hx hb hts k1 hown hK hP 0 rfl rfl 11 (by decide) k7 (fun _ h9 => h9) rfl dX5_begin_117 ?_
              refine lv_iload hx hb dX5_begin_120 (lv_at hl 4 rfl) ?_
              obtain ⟨t71, e9, g⟩ := bd g
              refine q_iald hx hb hK hP 6 0 rfl rfl e9 dX5_begin_122 ?_
              refine lv_isub hx hb dX5_begin_123 ?_
              obtain ⟨mR_72, e9, g⟩ := bd g
              refine q_iast (ws2 := wX5 cyI mo aMF aMT aMW aMU aMP aML aMM aMO aMR aMD aMB aMK mTh mNo mAr mS mG mQ mWa mPa mLa mF mT mW mU mP mL mM mO_68 mR_72 mD mB mK) hx hb hK hP hD hS 9 0 rfl rfl e9 dX5_begin_124 rfl (fun H locs hP hD hS => ?_)
              refine lv_aload_n hx hb dX5_begin_125 rfl (lv_at hl 0 rfl) ?_
              refine va_get (D := (dC, dI)) (ci := 5) (v := .ref aMR) (C := RX5) (T := TX5) (N := 21) hx hb hts k1 hown hK hP 0 rfl rfl 14 (by decide) k2 (fun _ h9 => h9) rfl dX5_begin_126 ?_
              refine lv_aload_n hx hb dX5_begin_129 rfl (lv_at hl 0 rfl) ?_
              refine va_get (D := (dC, dI)) (ci := 5) (v := .ref aMT) (C := RX5) (T := TX5) (N := 21) hx hb hts k1 hown hK hP 0 rfl rfl 4 (by decide) k9 (fun _ h9 => h9) rfl dX5_begin_130 ?_
              refine lv_iload hx hb dX5_begin_133 (lv_at hl 4 rfl) ?_
              obtain ⟨t73, e9, g⟩ := bd g
              refine q_iald hx hb hK hP 2 0 rfl rfl e9 dX5_begin_135 ?_
              refine lv_dup2_11 hx hb dX5_begin_136 rfl rfl ?_
              obtain ⟨t74, e9, g⟩ := bd g
              refine q_iald hx hb hK hP 9 0 rfl rfl e9 dX5_begin_137 ?_
              refine lv_aload_n hx hb dX5_begin_138 rfl (lv_at hl 0 rfl) ?_
              refine va_get (D := (dC, dI)) (ci := 5) (v := .ref aML) (C := RX5) (T := TX5) (N := 21) hx hb hts k1 hown hK hP 0 rfl rfl 11 (by decide) k7 (fun _ h9 => h9) rfl dX5_begin_139 ?_
              refine lv_iload hx hb dX5_begin_142 (lv_at hl 4 rfl) ?_
              obtain ⟨t75, e9, g⟩ := bd g
              refine q_iald hx hb hK hP 6 0 rfl rfl e9 dX5_begin_144 ?_
              refine lv_iadd hx hb dX5_begin_145 ?_
              obtain ⟨mR_76, e9, g⟩ := bd g
              refine q_iast (ws2 := wX5 cyI mo aMF aMT aMW aMU aMP aML aMM aMO aMR aMD aMB aMK mTh mNo mAr mS mG mQ mWa mPa mLa mF mT mW mU mP mL mM mO_68 mR_76 mD mB mK) hx hb hK hP hD hS 9 0 rfl rfl e9 dX5_begin_146 rfl (fun H locs hP hD hS => ?_)
              refine lv_iconst (v := 1) hx hb dX5_begin_147 (by decide) ?_
              refine lv_istore (lv' := [(5, .int 1), (0, .ref mo), (1, .int p0), (2, .int p1), (3, .int x3_63), (4, .int x4_64)]) hx hb dX5_begin_148 hl (by decide) rfl (fun ls hl => ?_)
              obtain ⟨x3_81, x5_82, e6, g⟩ := bd2 g
              have hT6 : ∀ (H : Heap) (locs : List Loc), va_P (dC, dI) vwCl (wX5 cyI mo aMF aMT aMW aMU aMP aML aMM aMO aMR aMD aMB aMK mTh mNo mAr mS mG mQ mWa mPa mLa mF mT mW mU mP mL mM mO_68 mR_76 mD mB mK) H → va_D A (wX5 cyI mo aMF aMT aMW aMU aMP aML aMM aMO aMR aMD aMB aMK mTh mNo mAr mS mG mQ mWa mPa mLa mF mT mW mU mP mL mM mO_68 mR_76 mD mB mK) → va_S A s.heap H locs → ∀ ls : Array Slot, lv_has ls 6 [(0, .ref mo), (1, .int p0), (2, .int p1), (3, .int x3_81), (4, .int x4_64), (5, .int x5_82)] → W p l e { frames := 1, cells := 0, slots := 0, locals := 24 } s m args below meth c H locs 0 0 Q (F0 m 179 ls []) := by
                intro H locs hP hD hS ls hl
                refine lv_iinc (v := x4_64 + 1) (lv' := [(4, .int (x4_64 + 1)), (0, .ref mo), (1, .int p0), (2, .int p1), (3, .int x3_81), (5, .int x5_82)]) hx hb dX5_begin_179 hl (k := 4) rfl (by rfl) (by decide) rfl (fun ls hl => ?_)
                refine lv_goto (tgt := 80) hx hb dX5_begin_182 (by decide) ?_
                cases g
                exact ih5 _ _ _ _ h _ _ hP hD hS _ (lv_sub hl [1, 2, 3, 4, 0] rfl)
              have hL6 : ∀ (n9 : Nat) (x3_77 : Int32) (x5_78 : Int32), lp (un2 (pX5_begin_l150 N mL mU mW x4_64)) n9 ((x3_77, x5_78)) = some ((x3_81, x5_82)) → ∀ (H : Heap) (locs : List Loc), va_P (dC, dI) vwCl (wX5 cyI mo aMF aMT aMW aMU aMP aML aMM aMO aMR aMD aMB aMK mTh mNo mAr mS mG mQ mWa mPa mLa mF mT mW mU mP mL mM mO_68 mR_76 mD mB mK) H → va_D A (wX5 cyI mo aMF aMT aMW aMU aMP aML aMM aMO aMR aMD aMB aMK mTh mNo mAr mS mG mQ mWa mPa mLa mF mT mW mU mP mL mM mO_68 mR_76 mD mB mK) → va_S A s.heap H locs → ∀ ls : Array Slot, lv_has ls 6 [(0, .ref mo), (1, .int p0), (2, .int p1), (3, .int x3_77), (4, .int x4_64), (5, .int x5_78)] → W p l e { frames := 1, cells := 0, slots := 0, locals := 24 } s m args below meth c H locs 0 0 Q (F0 m 150 ls []) := by
                intro n9
                induction n9 with
                | zero =>
                  intro x3_77 x5_78 h
                  exact lp0 h
                | succ n9 ih6 =>
                  intro x3_77 x5_78 h H locs hP hD hS ls hl
                  obtain ⟨o9, g, h⟩ := lps h
                  replace g : pX5_begin_l150 N mL mU mW x4_64 x3_77 x5_78 = some o9 := g
                  unfold pX5_begin_l150 at g
                  refine lv_iload hx hb dX5_begin_150 (lv_at hl 5 rfl) ?_
                  refine lv_aload_n hx hb dX5_begin_152 rfl (lv_at hl 0 rfl) ?_
                  refine va_get (D := (dC, dI)) (ci := 5) (v := .ref aML) (C := RX5) (T := TX5) (N := 21) hx hb hts k1 hown hK hP 0 rfl rfl 11 (by decide) k7 (fun _ h9 => h9) rfl dX5_begin_153 ?_
                  refine lv_iload hx hb dX5_begin_156 (lv_at hl 4 rfl) ?_
                  obtain ⟨t79, e9, g⟩ := bd g
                  refine q_iald hx hb hK hP 6 0 rfl rfl e9 dX5_begin_158 ?_
                  refine lv_icmp_gt (tgt := 179) hx hb dX5_begin_159 (by decide) (fun c9 => ?_) (fun c9 => ?_)
                  · have g := ipos c9 g
                    cases g
                    have h := lpx h
                    cases h
                    exact hT6 _ _ hP hD hS _ (lv_sub hl [0, 1, 2, 3, 4, 5] rfl)
                  · have g := ineg c9 g
                    refine lv_iload_n hx hb dX5_begin_162 rfl (lv_at hl 3 rfl) ?_
                    refine lv_aload_n hx hb dX5_begin_163 rfl (lv_at hl 0 rfl) ?_
                    refine lv_iload hx hb dX5_begin_164 (lv_at hl 4 rfl) ?_
                    refine lv_iload hx hb dX5_begin_166 (lv_at hl 5 rfl) ?_
                    obtain ⟨r80, e9, g⟩ := bd g
                    refine q_callVi (ret := r80) (As := [.int x4_64, .int x5_78]) (w1 := wX5 cyI mo aMF aMT aMW aMU aMP aML aMM aMO aMR aMD aMB aMK mTh mNo mAr mS mG mQ mWa mPa mLa mF mT mW mU mP mL mM mO_68 mR_76 mD mB mK) (ws2 := wX5 cyI mo aMF aMT aMW aMU aMP aML aMM aMO aMR aMD aMB aMK mTh mNo mAr mS mG mQ mWa mPa mLa mF mT mW mU mP mL mM mO_68 mR_76 mD mB mK) ⟨hx, hb, hml, hown, hts⟩ (c_X5_priceOf l dC dI cyI mo aMF aMT aMW aMU aMP aML aMM aMO aMR aMD aMB aMK H.size mTh mNo mAr mS mG mQ mWa mPa mLa mF mT mW mU mP mL mM mO_68 mR_76 mD mB mK x4_64 x5_78 N _ e9) (cwV 2 hts gX5_begin_X5_priceOf rfl rfl rfl (by decide +kernel) ⟨Nat.le_of_ble_eq_true rfl, Nat.le_of_ble_eq_true rfl⟩) hK hP hD hS hA [0, 1, 2, 3, 4, 5, 6, 7, 8, 9, 10, 11, 12] [] [0, 1, 2, 3, 4, 5, 6, 7, 8, 9, 10, 11, 12] [0] rfl rfl rfl rfl (by decide) rfl rfl rfl 5 0 rfl rfl rfl hl.1 (Nat.le_of_ble_eq_true rfl) (Nat.le_of_ble_eq_true rfl) (Nat.le_of_ble_eq_true rfl) rfl dX5_begin_168 (fun H locs hP hD hS => ?_)
                    refine lv_iadd hx hb dX5_begin_171 ?_
                    refine lv_istore_n (lv' := [(3, .int (x3_77 + r80)), (0, .ref mo), (1, .int p0), (2, .int p1), (4, .int x4_64), (5, .int x5_78)]) hx hb dX5_begin_172 rfl hl (by decide) rfl (fun ls hl => ?_)
                    refine lv_iinc (v := x5_78 + 1) (lv' := [(5, .int (x5_78 + 1)), (3, .int (x3_77 + r80)), (0, .ref mo), (1, .int p0), (2, .int p1), (4, .int x4_64)]) hx hb dX5_begin_173 hl (k := 5) rfl (by rfl) (by decide) rfl (fun ls hl => ?_)
                    refine lv_goto (tgt := 150) hx hb dX5_begin_176 (by decide) ?_
                    cases g
                    exact ih6 _ _ h _ _ hP hD hS _ (lv_sub hl [2, 3, 4, 1, 5, 0] rfl)
              exact hL6 N _ _  e6 _ _ hP hD hS _ (lv_sub hl [1, 2, 3, 4, 5, 0] rfl)
        exact hL5 N _ _ _ _  e5 _ _ hP hD hS _ (lv_sub hl [2, 3, 4, 1, 0] rfl)
      · have h := ineg c9 h
        refine lv_aload_n hx hb dX5_begin_65 rfl (lv_at hl 0 rfl) ?_
        refine va_get (D := (dC, dI)) (ci := 5) (v := .ref aMR) (C := RX5) (T := TX5) (N := 21) hx hb hts k1 hown hK hP 0 rfl rfl 14 (by decide) k2 (fun _ h9 => h9) rfl dX5_begin_66 ?_
        refine lv_iload_n hx hb dX5_begin_69 rfl (lv_at hl 2 rfl) ?_
        refine lv_dup2_11 hx hb dX5_begin_70 rfl rfl ?_
        obtain ⟨t87, e9, h⟩ := bd h
        refine q_iald hx hb hK hP 9 0 rfl rfl e9 dX5_begin_71 ?_
        refine lv_iconst (v := 1) hx hb dX5_begin_72 (by decide) ?_
        refine lv_isub hx hb dX5_begin_73 ?_
        obtain ⟨mR_88, e9, h⟩ := bd h
        refine q_iast (ws2 := wX5 cyI mo aMF aMT aMW aMU aMP aML aMM aMO aMR aMD aMB aMK mTh mNo mAr mS mG mQ mWa mPa mLa mF mT mW mU mP mL mM mO mR_88 mD mB mK) hx hb hK hP hD hS 9 0 rfl rfl e9 dX5_begin_74 rfl (fun H locs hP hD hS => ?_)
        refine lv_iconst (v := 0) hx hb dX5_begin_75 (by decide) ?_
        refine lv_istore_n (lv' := [(3, .int 0), (0, .ref mo), (1, .int p0), (2, .int p1)]) hx hb dX5_begin_76 rfl hl (by decide) rfl (fun ls hl => ?_)
        refine lv_iconst (v := 0) hx hb dX5_begin_77 (by decide) ?_
        refine lv_istore (lv' := [(4, .int 0), (3, .int 0), (0, .ref mo), (1, .int p0), (2, .int p1)]) hx hb dX5_begin_78 hl (by decide) rfl (fun ls hl => ?_)
        obtain ⟨x3_109, x4_110, mO_111, mR_112, e7, h⟩ := bd4 h
        have hT7 : ∀ (H : Heap) (locs : List Loc), va_P (dC, dI) vwCl (wX5 cyI mo aMF aMT aMW aMU aMP aML aMM aMO aMR aMD aMB aMK mTh mNo mAr mS mG mQ mWa mPa mLa mF mT mW mU mP mL mM mO_111 mR_112 mD mB mK) H → va_D A (wX5 cyI mo aMF aMT aMW aMU aMP aML aMM aMO aMR aMD aMB aMK mTh mNo mAr mS mG mQ mWa mPa mLa mF mT mW mU mP mL mM mO_111 mR_112 mD mB mK) → va_S A s.heap H locs → ∀ ls : Array Slot, lv_has ls 6 [(0, .ref mo), (1, .int p0), (2, .int p1), (3, .int x3_109), (4, .int x4_110)] → W p l e { frames := 1, cells := 0, slots := 0, locals := 24 } s m args below meth c H locs 0 0 Q (F0 m 185 ls []) := by
          intro H locs hP hD hS ls hl
          refine lv_iload_n hx hb dX5_begin_185 rfl (lv_at hl 3 rfl) ?_
          cases h
          exact q_iret hQ hx hb hr hlocks hP hK hD hS dX5_begin_186
        have hL7 : ∀ (n9 : Nat) (x3_89 : Int32) (x4_90 : Int32) (mO_91 : Nat → Int32) (mR_92 : Nat → Int32), lp (un4 (pX5_begin_l80' N mAr mF mL mT mU mW)) n9 ((x3_89, x4_90, mO_91, mR_92)) = some ((x3_109, x4_110, mO_111, mR_112)) → ∀ (H : Heap) (locs : List Loc), va_P (dC, dI) vwCl (wX5 cyI mo aMF aMT aMW aMU aMP aML aMM aMO aMR aMD aMB aMK mTh mNo mAr mS mG mQ mWa mPa mLa mF mT mW mU mP mL mM mO_91 mR_92 mD mB mK) H → va_D A (wX5 cyI mo aMF aMT aMW aMU aMP aML aMM aMO aMR aMD aMB aMK mTh mNo mAr mS mG mQ mWa mPa mLa mF mT mW mU mP mL mM mO_91 mR_92 mD mB mK) → va_S A s.heap H locs → ∀ ls : Array Slot, lv_has ls 6 [(0, .ref mo), (1, .int p0), (2, .int p1), (3, .int x3_89), (4, .int x4_90)] → W p l e { frames := 1, cells := 0, slots := 0, locals := 24 } s m args below meth c H locs 0 0 Q (F0 m 80 ls []) := by
          intro n9
          induction n9 with
          | zero =>
            intro x3_89 x4_90 mO_91 mR_92 h
            exact lp0 h
          | succ n9 ih7 =>
            intro x3_89 x4_90 mO_91 mR_92 h H locs hP hD hS ls hl
            obtain ⟨o9, g, h⟩ := lps h
            replace g : pX5_begin_l80' N mAr mF mL mT mU mW x3_89 x4_90 mO_91 mR_92 = some o9 := g
            unfold pX5_begin_l80' at g
            refine lv_iload hx hb dX5_begin_80 (lv_at hl 4 rfl) ?_
            refine lv_aload_n hx hb dX5_begin_82 rfl (lv_at hl 0 rfl) ?_
            refine va_get (D := (dC, dI)) (ci := 5) (v := .int mAr) (C := RX5) (T := TX5) (N := 21) hx hb hts k1 hown hK hP 0 rfl rfl 2 (by decide) k5 (fun _ h9 => h9) rfl dX5_begin_83 ?_
            refine lv_icmp_ge (tgt := 185) hx hb dX5_begin_86 (by decide) (fun c9 => ?_) (fun c9 => ?_)
            · have g := ipos c9 g
              cases g
              have h := lpx h
              cases h
              exact hT7 _ _ hP hD hS _ (lv_sub hl [0, 1, 2, 3, 4] rfl)
            · have g := ineg c9 g
              refine lv_aload_n hx hb dX5_begin_89 rfl (lv_at hl 0 rfl) ?_
              refine va_get (D := (dC, dI)) (ci := 5) (v := .ref aMO) (C := RX5) (T := TX5) (N := 21) hx hb hts k1 hown hK hP 0 rfl rfl 13 (by decide) k6 (fun _ h9 => h9) rfl dX5_begin_90 ?_
              refine lv_iload hx hb dX5_begin_93 (lv_at hl 4 rfl) ?_
              refine lv_aload_n hx hb dX5_begin_95 rfl (lv_at hl 0 rfl) ?_
              refine va_get (D := (dC, dI)) (ci := 5) (v := .ref aML) (C := RX5) (T := TX5) (N := 21) hx hb hts k1 hown hK hP 0 rfl rfl 11 (by decide) k7 (fun _ h9 => h9) rfl dX5_begin_96 ?_
              refine lv_iload hx hb dX5_begin_99 (lv_at hl 4 rfl) ?_
              obtain ⟨t93, e9, g⟩ := bd g
              refine q_iald hx hb hK hP 6 0 rfl rfl e9 dX5_begin_101 ?_
              obtain ⟨mO_94, e9, g⟩ := bd g
              refine q_iast (ws2 := wX5 cyI mo aMF aMT aMW aMU aMP aML aMM aMO aMR aMD aMB aMK mTh mNo mAr mS mG mQ mWa mPa mLa mF mT mW mU mP mL mM mO_94 mR_92 mD mB mK) hx hb hK hP hD hS 8 0 rfl rfl e9 dX5_begin_102 rfl (fun H locs hP hD hS => ?_)
              refine lv_aload_n hx hb dX5_begin_103 rfl (lv_at hl 0 rfl) ?_
              refine va_get (D := (dC, dI)) (ci := 5) (v := .ref aMR) (C := RX5) (T := TX5) (N := 21) hx hb hts k1 hown hK hP 0 rfl rfl 14 (by decide) k2 (fun _ h9 => h9) rfl dX5_begin_104 ?_
              refine lv_aload_n hx hb dX5_begin_107 rfl (lv_at hl 0 rfl) ?_
              refine va_get (D := (dC, dI)) (ci := 5) (v := .ref aMF) (C := RX5) (T := TX5) (N := 21) hx hb hts k1 hown hK hP 0 rfl rfl 3 (by decide) k8 (fun _ h9 => h9) rfl dX5_begin_108 ?_
              refine lv_iload hx hb dX5_begin_111 (lv_at hl 4 rfl) ?_
              obtain ⟨t95, e9, g⟩ := bd g
              refine q_iald hx hb hK hP 1 0 rfl rfl e9 dX5_begin_113 ?_
              refine lv_dup2_11 hx hb dX5_begin_114 rfl rfl ?_
              obtain ⟨t96, e9, g⟩ := bd g
              refine q_iald hx hb hK hP 9 0 rfl rfl e9 dX5_begin_115 ?_
              refine lv_aload_n hx hb dX5_begin_116 rfl (lv_at hl 0 rfl) ?_
              refine va_get (D := (dC, dI)) (ci := 5) (v := .ref aML) (C := RX5) (T := TX5) (N := 21) hx hb hts k1 hown hK hP 0 rfl rfl 11 (by decide) k7 (fun _ h9 => h9) rfl dX5_begin_117 ?_
              refine lv_iload hx hb dX5_begin_120 (lv_at hl 4 rfl) ?_
              obtain ⟨t97, e9, g⟩ := bd g
              refine q_iald hx hb hK hP 6 0 rfl rfl e9 dX5_begin_122 ?_
              refine lv_isub hx hb dX5_begin_123 ?_
              obtain ⟨mR_98, e9, g⟩ := bd g
              refine q_iast (ws2 := wX5 cyI mo aMF aMT aMW aMU aMP aML aMM aMO aMR aMD aMB aMK mTh mNo mAr mS mG mQ mWa mPa mLa mF mT mW mU mP mL mM mO_94 mR_98 mD mB mK) hx hb hK hP hD hS 9 0 rfl rfl e9 dX5_begin_124 rfl (fun H locs hP hD hS => ?_)
              refine lv_aload_n hx hb dX5_begin_125 rfl (lv_at hl 0 rfl) ?_
              refine va_get (D := (dC, dI)) (ci := 5) (v := .ref aMR) (C := RX5) (T := TX5) (N := 21) hx hb hts k1 hown hK hP 0 rfl rfl 14 (by decide) k2 (fun _ h9 => h9) rfl dX5_begin_126 ?_
              refine lv_aload_n hx hb dX5_begin_129 rfl (lv_at hl 0 rfl) ?_
              refine va_get (D := (dC, dI)) (ci := 5) (v := .ref aMT) (C := RX5) (T := TX5) (N := 21) hx hb hts k1 hown hK hP 0 rfl rfl 4 (by decide) k9 (fun _ h9 => h9) rfl dX5_begin_130 ?_
              refine lv_iload hx hb dX5_begin_133 (lv_at hl 4 rfl) ?_
              obtain ⟨t99, e9, g⟩ := bd g
              refine q_iald hx hb hK hP 2 0 rfl rfl e9 dX5_begin_135 ?_
              refine lv_dup2_11 hx hb dX5_begin_136 rfl rfl ?_
              obtain ⟨t100, e9, g⟩ := bd g
              refine q_iald hx hb hK hP 9 0 rfl rfl e9 dX5_begin_137 ?_
              refine lv_aload_n hx hb dX5_begin_138 rfl (lv_at hl 0 rfl) ?_
              refine va_get (D := (dC, dI)) (ci := 5) (v := .ref aML) (C := RX5) (T := TX5) (N := 21) hx hb hts k1 hown hK hP 0 rfl rfl 11 (by decide) k7 (fun _ h9 => h9) rfl dX5_begin_139 ?_
              refine lv_iload hx hb dX5_begin_142 (lv_at hl 4 rfl) ?_
              obtain ⟨t101, e9, g⟩ := bd g
              refine q_iald hx hb hK hP 6 0 rfl rfl e9 dX5_begin_144 ?_
              refine lv_iadd hx hb dX5_begin_145 ?_
              obtain ⟨mR_102, e9, g⟩ := bd g
              refine q_iast (ws2 := wX5 cyI mo aMF aMT aMW aMU aMP aML aMM aMO aMR aMD aMB aMK mTh mNo mAr mS mG mQ mWa mPa mLa mF mT mW mU mP mL mM mO_94 mR_102 mD mB mK) hx hb hK hP hD hS 9 0 rfl rfl e9 dX5_begin_146 rfl (fun H locs hP hD hS => ?_)
              refine lv_iconst (v := 1) hx hb dX5_begin_147 (by decide) ?_
              refine lv_istore (lv' := [(5, .int 1), (0, .ref mo), (1, .int p0), (2, .int p1), (3, .int x3_89), (4, .int x4_90)]) hx hb dX5_begin_148 hl (by decide) rfl (fun ls hl => ?_)
              obtain ⟨x3_107, x5_108, e8, g⟩ := bd2 g
              have hT8 : ∀ (H : Heap) (locs : List Loc), va_P (dC, dI) vwCl (wX5 cyI mo aMF aMT aMW aMU aMP aML aMM aMO aMR aMD aMB aMK mTh mNo mAr mS mG mQ mWa mPa mLa mF mT mW mU mP mL mM mO_94 mR_102 mD mB mK) H → va_D A (wX5 cyI mo aMF aMT aMW aMU aMP aML aMM aMO aMR aMD aMB aMK mTh mNo mAr mS mG mQ mWa mPa mLa mF mT mW mU mP mL mM mO_94 mR_102 mD mB mK) → va_S A s.heap H locs → ∀ ls : Array Slot, lv_has ls 6 [(0, .ref mo), (1, .int p0), (2, .int p1), (3, .int x3_107), (4, .int x4_90), (5, .int x5_108)] → W p l e { frames := 1, cells := 0, slots := 0, locals := 24 } s m args below meth c H locs 0 0 Q (F0 m 179 ls []) := by
                intro H locs hP hD hS ls hl
                refine lv_iinc (v := x4_90 + 1) (lv' := [(4, .int (x4_90 + 1)), (0, .ref mo), (1, .int p0), (2, .int p1), (3, .int x3_107), (5, .int x5_108)]) hx hb dX5_begin_179 hl (k := 4) rfl (by rfl) (by decide) rfl (fun ls hl => ?_)
                refine lv_goto (tgt := 80) hx hb dX5_begin_182 (by decide) ?_
                cases g
                exact ih7 _ _ _ _ h _ _ hP hD hS _ (lv_sub hl [1, 2, 3, 4, 0] rfl)
              have hL8 : ∀ (n9 : Nat) (x3_103 : Int32) (x5_104 : Int32), lp (un2 (pX5_begin_l150' N mL mU mW x4_90)) n9 ((x3_103, x5_104)) = some ((x3_107, x5_108)) → ∀ (H : Heap) (locs : List Loc), va_P (dC, dI) vwCl (wX5 cyI mo aMF aMT aMW aMU aMP aML aMM aMO aMR aMD aMB aMK mTh mNo mAr mS mG mQ mWa mPa mLa mF mT mW mU mP mL mM mO_94 mR_102 mD mB mK) H → va_D A (wX5 cyI mo aMF aMT aMW aMU aMP aML aMM aMO aMR aMD aMB aMK mTh mNo mAr mS mG mQ mWa mPa mLa mF mT mW mU mP mL mM mO_94 mR_102 mD mB mK) → va_S A s.heap H locs → ∀ ls : Array Slot, lv_has ls 6 [(0, .ref mo), (1, .int p0), (2, .int p1), (3, .int x3_103), (4, .int x4_90), (5, .int x5_104)] → W p l e { frames := 1, cells := 0, slots := 0, locals := 24 } s m args below meth c H locs 0 0 Q (F0 m 150 ls []) := by
                intro n9
                induction n9 with
                | zero =>
                  intro x3_103 x5_104 h
                  exact lp0 h
                | succ n9 ih8 =>
                  intro x3_103 x5_104 h H locs hP hD hS ls hl
                  obtain ⟨o9, g, h⟩ := lps h
                  replace g : pX5_begin_l150' N mL mU mW x4_90 x3_103 x5_104 = some o9 := g
                  unfold pX5_begin_l150' at g
                  refine lv_iload hx hb dX5_begin_150 (lv_at hl 5 rfl) ?_
                  refine lv_aload_n hx hb dX5_begin_152 rfl (lv_at hl 0 rfl) ?_
                  refine va_get (D := (dC, dI)) (ci := 5) (v := .ref aML) (C := RX5) (T := TX5) (N := 21) hx hb hts k1 hown hK hP 0 rfl rfl 11 (by decide) k7 (fun _ h9 => h9) rfl dX5_begin_153 ?_
                  refine lv_iload hx hb dX5_begin_156 (lv_at hl 4 rfl) ?_
                  obtain ⟨t105, e9, g⟩ := bd g
                  refine q_iald hx hb hK hP 6 0 rfl rfl e9 dX5_begin_158 ?_
                  refine lv_icmp_gt (tgt := 179) hx hb dX5_begin_159 (by decide) (fun c9 => ?_) (fun c9 => ?_)
                  · have g := ipos c9 g
                    cases g
                    have h := lpx h
                    cases h
                    exact hT8 _ _ hP hD hS _ (lv_sub hl [0, 1, 2, 3, 4, 5] rfl)
                  · have g := ineg c9 g
                    refine lv_iload_n hx hb dX5_begin_162 rfl (lv_at hl 3 rfl) ?_
                    refine lv_aload_n hx hb dX5_begin_163 rfl (lv_at hl 0 rfl) ?_
                    refine lv_iload hx hb dX5_begin_164 (lv_at hl 4 rfl) ?_
                    refine lv_iload hx hb dX5_begin_166 (lv_at hl 5 rfl) ?_
                    obtain ⟨r106, e9, g⟩ := bd g
                    refine q_callVi (ret := r106) (As := [.int x4_90, .int x5_104]) (w1 := wX5 cyI mo aMF aMT aMW aMU aMP aML aMM aMO aMR aMD aMB aMK mTh mNo mAr mS mG mQ mWa mPa mLa mF mT mW mU mP mL mM mO_94 mR_102 mD mB mK) (ws2 := wX5 cyI mo aMF aMT aMW aMU aMP aML aMM aMO aMR aMD aMB aMK mTh mNo mAr mS mG mQ mWa mPa mLa mF mT mW mU mP mL mM mO_94 mR_102 mD mB mK) ⟨hx, hb, hml, hown, hts⟩ (c_X5_priceOf l dC dI cyI mo aMF aMT aMW aMU aMP aML aMM aMO aMR aMD aMB aMK H.size mTh mNo mAr mS mG mQ mWa mPa mLa mF mT mW mU mP mL mM mO_94 mR_102 mD mB mK x4_90 x5_104 N _ e9) (cwV 2 hts gX5_begin_X5_priceOf rfl rfl rfl (by decide +kernel) ⟨Nat.le_of_ble_eq_true rfl, Nat.le_of_ble_eq_true rfl⟩) hK hP hD hS hA [0, 1, 2, 3, 4, 5, 6, 7, 8, 9, 10, 11, 12] [] [0, 1, 2, 3, 4, 5, 6, 7, 8, 9, 10, 11, 12] [0] rfl rfl rfl rfl (by decide) rfl rfl rfl 5 0 rfl rfl rfl hl.1 (Nat.le_of_ble_eq_true rfl) (Nat.le_of_ble_eq_true rfl) (Nat.le_of_ble_eq_true rfl) rfl dX5_begin_168 (fun H locs hP hD hS => ?_)
                    refine lv_iadd hx hb dX5_begin_171 ?_
                    refine lv_istore_n (lv' := [(3, .int (x3_103 + r106)), (0, .ref mo), (1, .int p0), (2, .int p1), (4, .int x4_90), (5, .int x5_104)]) hx hb dX5_begin_172 rfl hl (by decide) rfl (fun ls hl => ?_)
                    refine lv_iinc (v := x5_104 + 1) (lv' := [(5, .int (x5_104 + 1)), (3, .int (x3_103 + r106)), (0, .ref mo), (1, .int p0), (2, .int p1), (4, .int x4_90)]) hx hb dX5_begin_173 hl (k := 5) rfl (by rfl) (by decide) rfl (fun ls hl => ?_)
                    refine lv_goto (tgt := 150) hx hb dX5_begin_176 (by decide) ?_
                    cases g
                    exact ih8 _ _ h _ _ hP hD hS _ (lv_sub hl [2, 3, 4, 1, 5, 0] rfl)
              exact hL8 N _ _  e8 _ _ hP hD hS _ (lv_sub hl [1, 2, 3, 4, 5, 0] rfl)
        exact hL7 N _ _ _ _  e7 _ _ hP hD hS _ (lv_sub hl [2, 3, 4, 1, 0] rfl)
  have hL0 : ∀ (n9 : Nat) (x3_1 : Int32) (mR_2 : Nat → Int32), lp (un2 (pX5_begin_l2 mNo)) n9 ((x3_1, mR_2)) = some ((x3_4, mR_5)) → ∀ (H : Heap) (locs : List Loc), va_P (dC, dI) vwCl (wX5 cyI mo aMF aMT aMW aMU aMP aML aMM aMO aMR aMD aMB aMK mTh mNo mAr mS mG mQ mWa mPa mLa mF mT mW mU mP mL mM mO mR_2 mD mB mK) H → va_D A (wX5 cyI mo aMF aMT aMW aMU aMP aML aMM aMO aMR aMD aMB aMK mTh mNo mAr mS mG mQ mWa mPa mLa mF mT mW mU mP mL mM mO mR_2 mD mB mK) → va_S A s.heap H locs → ∀ ls : Array Slot, lv_has ls 6 [(0, .ref mo), (1, .int p0), (2, .int p1), (3, .int x3_1)] → W p l e { frames := 1, cells := 0, slots := 0, locals := 24 } s m args below meth c H locs 0 0 Q (F0 m 2 ls []) := by
    intro n9
    induction n9 with
    | zero =>
      intro x3_1 mR_2 h
      exact lp0 h
    | succ n9 ih0 =>
      intro x3_1 mR_2 h H locs hP hD hS ls hl
      obtain ⟨o9, g, h⟩ := lps h
      replace g : pX5_begin_l2 mNo x3_1 mR_2 = some o9 := g
      unfold pX5_begin_l2 at g
      refine lv_iload_n hx hb dX5_begin_2 rfl (lv_at hl 3 rfl) ?_
      refine lv_aload_n hx hb dX5_begin_3 rfl (lv_at hl 0 rfl) ?_
      refine va_get (D := (dC, dI)) (ci := 5) (v := .int mNo) (C := RX5) (T := TX5) (N := 21) hx hb hts k1 hown hK hP 0 rfl rfl 1 (by decide) k0 (fun _ h9 => h9) rfl dX5_begin_4 ?_
      refine lv_icmp_ge (tgt := 23) hx hb dX5_begin_7 (by decide) (fun c9 => ?_) (fun c9 => ?_)
      · have g := ipos c9 g
        cases g
        have h := lpx h
        cases h
        exact hT0 _ _ hP hD hS _ (lv_sub hl [0, 1, 2, 3] rfl)
      · have g := ineg c9 g
        refine lv_aload_n hx hb dX5_begin_10 rfl (lv_at hl 0 rfl) ?_
        refine va_get (D := (dC, dI)) (ci := 5) (v := .ref aMR) (C := RX5) (T := TX5) (N := 21) hx hb hts k1 hown hK hP 0 rfl rfl 14 (by decide) k2 (fun _ h9 => h9) rfl dX5_begin_11 ?_
        refine lv_iload_n hx hb dX5_begin_14 rfl (lv_at hl 3 rfl) ?_
        refine lv_iconst (v := 0) hx hb dX5_begin_15 (by decide) ?_
        obtain ⟨mR_3, e9, g⟩ := bd g
        refine q_iast (ws2 := wX5 cyI mo aMF aMT aMW aMU aMP aML aMM aMO aMR aMD aMB aMK mTh mNo mAr mS mG mQ mWa mPa mLa mF mT mW mU mP mL mM mO mR_3 mD mB mK) hx hb hK hP hD hS 9 0 rfl rfl e9 dX5_begin_16 rfl (fun H locs hP hD hS => ?_)
        refine lv_iinc (v := x3_1 + 1) (lv' := [(3, .int (x3_1 + 1)), (0, .ref mo), (1, .int p0), (2, .int p1)]) hx hb dX5_begin_17 hl (k := 3) rfl (by rfl) (by decide) rfl (fun ls hl => ?_)
        refine lv_goto (tgt := 2) hx hb dX5_begin_20 (by decide) ?_
        cases g
        exact ih0 _ _ h _ _ hP hD hS _ (lv_sub hl [1, 2, 3, 0] rfl)
  exact hL0 N _ _  e0 _ _ hP hD hS _ (lv_sub hl [1, 2, 3, 0] rfl)
set_option maxHeartbeats 4000000 in
set_option maxRecDepth 100000 in
theorem c_X5_steps (l : Launch) (dC : Nat → ClassId) (dI : Nat → Nat → Nat) (cyI : ClassId) (mo aMF aMT aMW aMU aMP aML aMM aMO aMR aMD aMB aMK : Nat) (sz : Nat) (mTh mNo mAr mS mG mQ mWa mPa mLa : Int32) (mF mT mW mU mP mL mM mO mR mD mB mK : Nat → Int32) (p0 p1 p2 p3 : Int32) (res : Bool × (Nat → Int32) × (Nat → Int32)) (h : pX5_steps mD mB p0 p1 p2 p3 = some res) : Met l yX5_steps wsX5_steps { frames := 0, cells := 0, slots := 0, locals := 0 } (va_Pc [.ref mo, .int p0, .int p1, .int p2, .int p3] (zPre (dC, dI) (wX5 cyI mo aMF aMT aMW aMU aMP aML aMM aMO aMR aMD aMB aMK mTh mNo mAr mS mG mQ mWa mPa mLa mF mT mW mU mP mL mM mO mR mD mB mK) [(cyI, .int)] sz)) (zQi (dC, dI) (wX5 cyI mo aMF aMT aMW aMU aMP aML aMM aMO aMR aMD aMB aMK mTh mNo mAr mS mG mQ mWa mPa mLa mF mT mW mU mP mL mM mO mR res.2.1 res.2.2 mK) [(cyI, .int)] (b2i res.1) (va_A (wX5 cyI mo aMF aMT aMW aMU aMP aML aMM aMO aMR aMD aMB aMK mTh mNo mAr mS mG mQ mWa mPa mLa mF mT mW mU mP mL mM mO mR mD mB mK) sz)) 0 0 (va_A (wX5 cyI mo aMF aMT aMW aMU aMP aML aMM aMO aMR aMD aMB aMK mTh mNo mAr mS mG mQ mWa mPa mLa mF mT mW mU mP mL mM mO mR mD mB mK) sz) := by
  refine q_ofWi (cc := cX5_steps) (maxL := 5) (rt := (some .boolean)) (by decide) rfl (Nat.le_of_ble_eq_true rfl) ?_
  intro p e s m args below meth c ls A Q H locs hQ hx hb hr hts hown hlocks hml hA hK hP hD hS hl
  have hl : lv_has ls 5 [(0, .ref mo), (1, .int p0), (2, .int p1), (3, .int p2), (4, .int p3)] := hl
  have k0 := hts (.fieldLink RX5 41 "ConvexConduitModel" "far" "[I") (by decide +kernel)
  have k1 : ∀ w ∈ u_ws RX5 TX5 21, w ∈ wsX5_steps := by decide +kernel
  have k2 := hts (.constant RX5 91 (1000000)) (by decide +kernel)
  have k3 := hts (.fieldLink RX5 44 "ConvexConduitModel" "over" "[I") (by decide +kernel)
  unfold pX5_steps at h
  refine lv_aload_n hx hb dX5_steps_0 rfl (lv_at hl 0 rfl) ?_
  refine va_get (D := (dC, dI)) (ci := 5) (v := .ref aMD) (C := RX5) (T := TX5) (N := 21) hx hb hts k1 hown hK hP 0 rfl rfl 15 (by decide) k0 (fun _ h9 => h9) rfl dX5_steps_1 ?_
  refine lv_iload_n hx hb dX5_steps_4 rfl (lv_at hl 1 rfl) ?_
  obtain ⟨t1, e9, h⟩ := bd h
  refine q_iald hx hb hK hP 10 0 rfl rfl e9 dX5_steps_5 ?_
  refine lv_ldc (own := RX5) (v := 1000000) hx hb hown k2 dX5_steps_6 ?_
  refine lv_icmp_ge (tgt := 28) hx hb dX5_steps_8 (by decide) (fun c9 => ?_) (fun c9 => ?_)
  · have h := ipos c9 h
    refine lv_iconst (v := 0) hx hb dX5_steps_28 (by decide) ?_
    cases h
    exact q_zret (b := false) hQ hx hb hr hlocks hP hK hD hS dX5_steps_29
  · have h := ineg c9 h
    refine lv_aload_n hx hb dX5_steps_11 rfl (lv_at hl 0 rfl) ?_
    refine va_get (D := (dC, dI)) (ci := 5) (v := .ref aMD) (C := RX5) (T := TX5) (N := 21) hx hb hts k1 hown hK hP 0 rfl rfl 15 (by decide) k0 (fun _ h9 => h9) rfl dX5_steps_12 ?_
    refine lv_iload_n hx hb dX5_steps_15 rfl (lv_at hl 1 rfl) ?_
    obtain ⟨t2, e9, h⟩ := bd h
    refine q_iald hx hb hK hP 10 0 rfl rfl e9 dX5_steps_16 ?_
    refine lv_iload_n hx hb dX5_steps_17 rfl (lv_at hl 3 rfl) ?_
    refine lv_iadd hx hb dX5_steps_18 ?_
    refine lv_aload_n hx hb dX5_steps_19 rfl (lv_at hl 0 rfl) ?_
    refine va_get (D := (dC, dI)) (ci := 5) (v := .ref aMD) (C := RX5) (T := TX5) (N := 21) hx hb hts k1 hown hK hP 0 rfl rfl 15 (by decide) k0 (fun _ h9 => h9) rfl dX5_steps_20 ?_
    refine lv_iload_n hx hb dX5_steps_23 rfl (lv_at hl 2 rfl) ?_
    obtain ⟨t3, e9, h⟩ := bd h
    refine q_iald hx hb hK hP 10 0 rfl rfl e9 dX5_steps_24 ?_
    refine lv_icmp_lt (tgt := 30) hx hb dX5_steps_25 (by decide) (fun c9 => ?_) (fun c9 => ?_)
    · have h := ipos c9 h
      refine lv_aload_n hx hb dX5_steps_30 rfl (lv_at hl 0 rfl) ?_
      refine va_get (D := (dC, dI)) (ci := 5) (v := .ref aMD) (C := RX5) (T := TX5) (N := 21) hx hb hts k1 hown hK hP 0 rfl rfl 15 (by decide) k0 (fun _ h9 => h9) rfl dX5_steps_31 ?_
      refine lv_iload_n hx hb dX5_steps_34 rfl (lv_at hl 2 rfl) ?_
      refine lv_aload_n hx hb dX5_steps_35 rfl (lv_at hl 0 rfl) ?_
      refine va_get (D := (dC, dI)) (ci := 5) (v := .ref aMD) (C := RX5) (T := TX5) (N := 21) hx hb hts k1 hown hK hP 0 rfl rfl 15 (by decide) k0 (fun _ h9 => h9) rfl dX5_steps_36 ?_
      refine lv_iload_n hx hb dX5_steps_39 rfl (lv_at hl 1 rfl) ?_
      obtain ⟨t4, e9, h⟩ := bd h
      refine q_iald hx hb hK hP 10 0 rfl rfl e9 dX5_steps_40 ?_
      refine lv_iload_n hx hb dX5_steps_41 rfl (lv_at hl 3 rfl) ?_
      refine lv_iadd hx hb dX5_steps_42 ?_
      obtain ⟨mD_5, e9, h⟩ := bd h
      refine q_iast (ws2 := wX5 cyI mo aMF aMT aMW aMU aMP aML aMM aMO aMR aMD aMB aMK mTh mNo mAr mS mG mQ mWa mPa mLa mF mT mW mU mP mL mM mO mR mD_5 mB mK) hx hb hK hP hD hS 10 0 rfl rfl e9 dX5_steps_43 rfl (fun H locs hP hD hS => ?_)
      refine lv_aload_n hx hb dX5_steps_44 rfl (lv_at hl 0 rfl) ?_
      refine va_get (D := (dC, dI)) (ci := 5) (v := .ref aMB) (C := RX5) (T := TX5) (N := 21) hx hb hts k1 hown hK hP 0 rfl rfl 16 (by decide) k3 (fun _ h9 => h9) rfl dX5_steps_45 ?_
      refine lv_iload_n hx hb dX5_steps_48 rfl (lv_at hl 2 rfl) ?_
      refine lv_iload hx hb dX5_steps_49 (lv_at hl 4 rfl) ?_
      obtain ⟨mB_6, e9, h⟩ := bd h
      refine q_iast (ws2 := wX5 cyI mo aMF aMT aMW aMU aMP aML aMM aMO aMR aMD aMB aMK mTh mNo mAr mS mG mQ mWa mPa mLa mF mT mW mU mP mL mM mO mR mD_5 mB_6 mK) hx hb hK hP hD hS 11 0 rfl rfl e9 dX5_steps_51 rfl (fun H locs hP hD hS => ?_)
      refine lv_iconst (v := 1) hx hb dX5_steps_52 (by decide) ?_
      cases h
      exact q_zret (b := true) hQ hx hb hr hlocks hP hK hD hS dX5_steps_53
    · have h := ineg c9 h
      refine lv_iconst (v := 0) hx hb dX5_steps_28 (by decide) ?_
      cases h
      exact q_zret (b := false) hQ hx hb hr hlocks hP hK hD hS dX5_steps_29
set_option maxHeartbeats 4000000 in
set_option maxRecDepth 100000 in
theorem c_X5_measure (l : Launch) (dC : Nat → ClassId) (dI : Nat → Nat → Nat) (cyI : ClassId) (mo aMF aMT aMW aMU aMP aML aMM aMO aMR aMD aMB aMK : Nat) (sz : Nat) (mTh mNo mAr mS mG mQ mWa mPa mLa : Int32) (mF mT mW mU mP mL mM mO mR mD mB mK : Nat → Int32) (N : Nat) (res : (Nat → Int32) × (Nat → Int32)) (h : pX5_measure N mNo mAr mF mT mW mU mL mM mO mR mD mB = some res) : Met l yX5_measure wsX5_measure { frames := 1, cells := 0, slots := 0, locals := 24 } (va_Pc [.ref mo] (zPre (dC, dI) (wX5 cyI mo aMF aMT aMW aMU aMP aML aMM aMO aMR aMD aMB aMK mTh mNo mAr mS mG mQ mWa mPa mLa mF mT mW mU mP mL mM mO mR mD mB mK) [(cyI, .int)] sz)) (zQv (dC, dI) (wX5 cyI mo aMF aMT aMW aMU aMP aML aMM aMO aMR aMD aMB aMK mTh mNo mAr mS mG mQ mWa mPa mLa mF mT mW mU mP mL mM mO mR res.1 res.2 mK) [(cyI, .int)] (va_A (wX5 cyI mo aMF aMT aMW aMU aMP aML aMM aMO aMR aMD aMB aMK mTh mNo mAr mS mG mQ mWa mPa mLa mF mT mW mU mP mL mM mO mR mD mB mK) sz)) 0 0 (va_A (wX5 cyI mo aMF aMT aMW aMU aMP aML aMM aMO aMR aMD aMB aMK mTh mNo mAr mS mG mQ mWa mPa mLa mF mT mW mU mP mL mM mO mR mD mB mK) sz) := by
  refine q_ofWv (cc := cX5_measure) (maxL := 3) (rt := none) (by decide) rfl (Nat.le_of_ble_eq_true rfl) ?_
  intro p e s m args below meth c ls A Q H locs hQ hx hb hr hts hown hlocks hml hA hK hP hD hS hl
  have hl : lv_has ls 3 [(0, .ref mo)] := hl
  have k0 := hts (.fieldLink RX5 50 "ConvexConduitModel" "nodes" "I") (by decide +kernel)
  have k1 : ∀ w ∈ u_ws RX5 TX5 21, w ∈ wsX5_measure := by decide +kernel
  have k2 := hts (.fieldLink RX5 41 "ConvexConduitModel" "far" "[I") (by decide +kernel)
  have k3 := hts (.fieldLink RX5 38 "ConvexConduitModel" "rest" "[I") (by decide +kernel)
  have k4 := hts (.constant RX5 91 (1000000)) (by decide +kernel)
  have k5 := hts (.fieldLink RX5 44 "ConvexConduitModel" "over" "[I") (by decide +kernel)
  have k6 := hts (.fieldLink RX5 60 "ConvexConduitModel" "arcs" "I") (by decide +kernel)
  have k7 := hts (.fieldLink RX5 35 "ConvexConduitModel" "on" "[I") (by decide +kernel)
  have k8 := hts (.fieldLink RX5 32 "ConvexConduitModel" "most" "[I") (by decide +kernel)
  have k9 := hts (.fieldLink RX5 29 "ConvexConduitModel" "least" "[I") (by decide +kernel)
  have k10 := hts (.fieldLink RX5 13 "ConvexConduitModel" "tos" "[I") (by decide +kernel)
  have k11 := hts (.fieldLink RX5 7 "ConvexConduitModel" "froms" "[I") (by decide +kernel)
  unfold pX5_measure at h
  refine lv_iconst (v := 0) hx hb dX5_measure_0 (by decide) ?_
  refine lv_istore_n (lv' := [(1, .int 0), (0, .ref mo)]) hx hb dX5_measure_1 rfl hl (by decide) rfl (fun ls hl => ?_)
  obtain ⟨x1_9, mD_10, mB_11, e0, h⟩ := bd3 h
  have hT0 : ∀ (H : Heap) (locs : List Loc), va_P (dC, dI) vwCl (wX5 cyI mo aMF aMT aMW aMU aMP aML aMM aMO aMR aMD aMB aMK mTh mNo mAr mS mG mQ mWa mPa mLa mF mT mW mU mP mL mM mO mR mD_10 mB_11 mK) H → va_D A (wX5 cyI mo aMF aMT aMW aMU aMP aML aMM aMO aMR aMD aMB aMK mTh mNo mAr mS mG mQ mWa mPa mLa mF mT mW mU mP mL mM mO mR mD_10 mB_11 mK) → va_S A s.heap H locs → ∀ ls : Array Slot, lv_has ls 3 [(0, .ref mo), (1, .int x1_9)] → W p l e { frames := 1, cells := 0, slots := 0, locals := 24 } s m args below meth c H locs 0 0 Q (F0 m 44 ls []) := by
    intro H locs hP hD hS ls hl
    refine lv_iconst (v := 1) hx hb dX5_measure_44 (by decide) ?_
    refine lv_istore_n (lv' := [(1, .int 1), (0, .ref mo)]) hx hb dX5_measure_45 rfl hl (by decide) rfl (fun ls hl => ?_)
    obtain ⟨x1_68, mD_69, mB_70, e1, h⟩ := bd3 h
    have hT1 : ∀ (H : Heap) (locs : List Loc), va_P (dC, dI) vwCl (wX5 cyI mo aMF aMT aMW aMU aMP aML aMM aMO aMR aMD aMB aMK mTh mNo mAr mS mG mQ mWa mPa mLa mF mT mW mU mP mL mM mO mR mD_69 mB_70 mK) H → va_D A (wX5 cyI mo aMF aMT aMW aMU aMP aML aMM aMO aMR aMD aMB aMK mTh mNo mAr mS mG mQ mWa mPa mLa mF mT mW mU mP mL mM mO mR mD_69 mB_70 mK) → va_S A s.heap H locs → ∀ ls : Array Slot, lv_has ls 3 [(0, .ref mo), (1, .int x1_68)] → W p l e { frames := 1, cells := 0, slots := 0, locals := 24 } s m args below meth c H locs 0 0 Q (F0 m 192 ls []) := by
      intro H locs hP hD hS ls hl
      cases h
      exact q_vret hQ hx hb hr hlocks hP hK hD hS dX5_measure_192
    have hL1 : ∀ (n9 : Nat) (x1_12 : Int32) (mD_13 : Nat → Int32) (mB_14 : Nat → Int32), lp (un3 (pX5_measure_l46 N mAr mF mL mM mO mT mU mW)) n9 ((x1_12, mD_13, mB_14)) = some ((x1_68, mD_69, mB_70)) → ∀ (H : Heap) (locs : List Loc), va_P (dC, dI) vwCl (wX5 cyI mo aMF aMT aMW aMU aMP aML aMM aMO aMR aMD aMB aMK mTh mNo mAr mS mG mQ mWa mPa mLa mF mT mW mU mP mL mM mO mR mD_13 mB_14 mK) H → va_D A (wX5 cyI mo aMF aMT aMW aMU aMP aML aMM aMO aMR aMD aMB aMK mTh mNo mAr mS mG mQ mWa mPa mLa mF mT mW mU mP mL mM mO mR mD_13 mB_14 mK) → va_S A s.heap H locs → ∀ ls : Array Slot, lv_has ls 3 [(0, .ref mo), (1, .int x1_12)] → W p l e { frames := 1, cells := 0, slots := 0, locals := 24 } s m args below meth c H locs 0 0 Q (F0 m 46 ls []) := by
      intro n9
      induction n9 with
      | zero =>
        intro x1_12 mD_13 mB_14 h
        exact lp0 h
      | succ n9 ih1 =>
        intro x1_12 mD_13 mB_14 h H locs hP hD hS ls hl
        obtain ⟨o9, g, h⟩ := lps h
        replace g : pX5_measure_l46 N mAr mF mL mM mO mT mU mW x1_12 mD_13 mB_14 = some o9 := g
        unfold pX5_measure_l46 at g
        refine lv_iload_n hx hb dX5_measure_46 rfl (lv_at hl 1 rfl) ?_
        refine lv_if_eq (tgt := 192) hx hb dX5_measure_47 (by decide) (fun c9 => ?_) (fun c9 => ?_)
        · have g := ipos c9 g
          cases g
          have h := lpx h
          cases h
          exact hT1 _ _ hP hD hS _ (lv_sub hl [0, 1] rfl)
        · have g := ineg c9 g
          refine lv_iconst (v := 0) hx hb dX5_measure_50 (by decide) ?_
          refine lv_istore_n (lv' := [(1, .int 0), (0, .ref mo)]) hx hb dX5_measure_51 rfl hl (by decide) rfl (fun ls hl => ?_)
          refine lv_iconst (v := 0) hx hb dX5_measure_52 (by decide) ?_
          refine lv_istore_n (lv' := [(2, .int 0), (1, .int 0), (0, .ref mo)]) hx hb dX5_measure_53 rfl hl (by decide) rfl (fun ls hl => ?_)
          obtain ⟨x1_64, x2_65, mD_66, mB_67, e2, g⟩ := bd4 g
          have hT2 : ∀ (H : Heap) (locs : List Loc), va_P (dC, dI) vwCl (wX5 cyI mo aMF aMT aMW aMU aMP aML aMM aMO aMR aMD aMB aMK mTh mNo mAr mS mG mQ mWa mPa mLa mF mT mW mU mP mL mM mO mR mD_66 mB_67 mK) H → va_D A (wX5 cyI mo aMF aMT aMW aMU aMP aML aMM aMO aMR aMD aMB aMK mTh mNo mAr mS mG mQ mWa mPa mLa mF mT mW mU mP mL mM mO mR mD_66 mB_67 mK) → va_S A s.heap H locs → ∀ ls : Array Slot, lv_has ls 3 [(0, .ref mo), (1, .int x1_64), (2, .int x2_65)] → W p l e { frames := 1, cells := 0, slots := 0, locals := 24 } s m args below meth c H locs 0 0 Q (F0 m 189 ls []) := by
            intro H locs hP hD hS ls hl
            refine lv_goto (tgt := 46) hx hb dX5_measure_189 (by decide) ?_
            cases g
            exact ih1 _ _ _ h _ _ hP hD hS _ (lv_sub hl [0, 1] rfl)
          have hL2 : ∀ (n9 : Nat) (x1_15 : Int32) (x2_16 : Int32) (mD_17 : Nat → Int32) (mB_18 : Nat → Int32), lp (un4 (pX5_measure_l54 N mAr mF mL mM mO mT mU mW)) n9 ((x1_15, x2_16, mD_17, mB_18)) = some ((x1_64, x2_65, mD_66, mB_67)) → ∀ (H : Heap) (locs : List Loc), va_P (dC, dI) vwCl (wX5 cyI mo aMF aMT aMW aMU aMP aML aMM aMO aMR aMD aMB aMK mTh mNo mAr mS mG mQ mWa mPa mLa mF mT mW mU mP mL mM mO mR mD_17 mB_18 mK) H → va_D A (wX5 cyI mo aMF aMT aMW aMU aMP aML aMM aMO aMR aMD aMB aMK mTh mNo mAr mS mG mQ mWa mPa mLa mF mT mW mU mP mL mM mO mR mD_17 mB_18 mK) → va_S A s.heap H locs → ∀ ls : Array Slot, lv_has ls 3 [(0, .ref mo), (1, .int x1_15), (2, .int x2_16)] → W p l e { frames := 1, cells := 0, slots := 0, locals := 24 } s m args below meth c H locs 0 0 Q (F0 m 54 ls []) := by
            intro n9
            induction n9 with
            | zero =>
              intro x1_15 x2_16 mD_17 mB_18 h
              exact lp0 h
            | succ n9 ih2 =>
              intro x1_15 x2_16 mD_17 mB_18 h H locs hP hD hS ls hl
              obtain ⟨o9, g, h⟩ := lps h
              replace g : pX5_measure_l54 N mAr mF mL mM mO mT mU mW x1_15 x2_16 mD_17 mB_18 = some o9 := g
              unfold pX5_measure_l54 at g
              refine lv_iload_n hx hb dX5_measure_54 rfl (lv_at hl 2 rfl) ?_
              refine lv_aload_n hx hb dX5_measure_55 rfl (lv_at hl 0 rfl) ?_
              refine va_get (D := (dC, dI)) (ci := 5) (v := .int mAr) (C := RX5) (T := TX5) (N := 21) hx hb hts k1 hown hK hP 0 rfl rfl 2 (by decide) k6 (fun _ h9 => h9) rfl dX5_measure_56 ?_
              refine lv_icmp_ge (tgt := 189) hx hb dX5_measure_59 (by decide) (fun c9 => ?_) (fun c9 => ?_)
              · have g := ipos c9 g
                cases g
                have h := lpx h
                cases h
                exact hT2 _ _ hP hD hS _ (lv_sub hl [0, 1, 2] rfl)
              · have g := ineg c9 g
                refine lv_aload_n hx hb dX5_measure_62 rfl (lv_at hl 0 rfl) ?_
                refine va_get (D := (dC, dI)) (ci := 5) (v := .ref aMO) (C := RX5) (T := TX5) (N := 21) hx hb hts k1 hown hK hP 0 rfl rfl 13 (by decide) k7 (fun _ h9 => h9) rfl dX5_measure_63 ?_
                refine lv_iload_n hx hb dX5_measure_66 rfl (lv_at hl 2 rfl) ?_
                obtain ⟨t19, e9, g⟩ := bd g
                refine q_iald hx hb hK hP 8 0 rfl rfl e9 dX5_measure_67 ?_
                refine lv_aload_n hx hb dX5_measure_68 rfl (lv_at hl 0 rfl) ?_
                refine va_get (D := (dC, dI)) (ci := 5) (v := .ref aMM) (C := RX5) (T := TX5) (N := 21) hx hb hts k1 hown hK hP 0 rfl rfl 12 (by decide) k8 (fun _ h9 => h9) rfl dX5_measure_69 ?_
                refine lv_iload_n hx hb dX5_measure_72 rfl (lv_at hl 2 rfl) ?_
                obtain ⟨t20, e9, g⟩ := bd g
                refine q_iald hx hb hK hP 7 0 rfl rfl e9 dX5_measure_73 ?_
                refine lv_icmp_ge (tgt := 122) hx hb dX5_measure_74 (by decide) (fun c9 => ?_) (fun c9 => ?_)
                · have g := ipos c9 g
                  refine lv_aload_n hx hb dX5_measure_122 rfl (lv_at hl 0 rfl) ?_
                  refine va_get (D := (dC, dI)) (ci := 5) (v := .ref aMO) (C := RX5) (T := TX5) (N := 21) hx hb hts k1 hown hK hP 0 rfl rfl 13 (by decide) k7 (fun _ h9 => h9) rfl dX5_measure_123 ?_
                  refine lv_iload_n hx hb dX5_measure_126 rfl (lv_at hl 2 rfl) ?_
                  obtain ⟨t21, e9, g⟩ := bd g
                  refine q_iald hx hb hK hP 8 0 rfl rfl e9 dX5_measure_127 ?_
                  refine lv_aload_n hx hb dX5_measure_128 rfl (lv_at hl 0 rfl) ?_
                  refine va_get (D := (dC, dI)) (ci := 5) (v := .ref aML) (C := RX5) (T := TX5) (N := 21) hx hb hts k1 hown hK hP 0 rfl rfl 11 (by decide) k9 (fun _ h9 => h9) rfl dX5_measure_129 ?_
                  refine lv_iload_n hx hb dX5_measure_132 rfl (lv_at hl 2 rfl) ?_
                  obtain ⟨t22, e9, g⟩ := bd g
                  refine q_iald hx hb hK hP 6 0 rfl rfl e9 dX5_measure_133 ?_
                  refine lv_icmp_le (tgt := 183) hx hb dX5_measure_134 (by decide) (fun c9 => ?_) (fun c9 => ?_)
                  · have g := ipos c9 g
                    refine lv_iinc (v := x2_16 + 1) (lv' := [(2, .int (x2_16 + 1)), (0, .ref mo), (1, .int x1_15)]) hx hb dX5_measure_183 hl (k := 2) rfl (by rfl) (by decide) rfl (fun ls hl => ?_)
                    refine lv_goto (tgt := 54) hx hb dX5_measure_186 (by decide) ?_
                    cases g
                    exact ih2 _ _ _ _ h _ _ hP hD hS _ (lv_sub hl [1, 2, 0] rfl)
                  · have g := ineg c9 g
                    refine lv_aload_n hx hb dX5_measure_137 rfl (lv_at hl 0 rfl) ?_
                    refine lv_aload_n hx hb dX5_measure_138 rfl (lv_at hl 0 rfl) ?_
                    refine va_get (D := (dC, dI)) (ci := 5) (v := .ref aMT) (C := RX5) (T := TX5) (N := 21) hx hb hts k1 hown hK hP 0 rfl rfl 4 (by decide) k10 (fun _ h9 => h9) rfl dX5_measure_139 ?_
                    refine lv_iload_n hx hb dX5_measure_142 rfl (lv_at hl 2 rfl) ?_
                    obtain ⟨t23, e9, g⟩ := bd g
                    refine q_iald hx hb hK hP 2 0 rfl rfl e9 dX5_measure_143 ?_
                    refine lv_aload_n hx hb dX5_measure_144 rfl (lv_at hl 0 rfl) ?_
                    refine va_get (D := (dC, dI)) (ci := 5) (v := .ref aMF) (C := RX5) (T := TX5) (N := 21) hx hb hts k1 hown hK hP 0 rfl rfl 3 (by decide) k11 (fun _ h9 => h9) rfl dX5_measure_145 ?_
                    refine lv_iload_n hx hb dX5_measure_148 rfl (lv_at hl 2 rfl) ?_
                    obtain ⟨t24, e9, g⟩ := bd g
                    refine q_iald hx hb hK hP 1 0 rfl rfl e9 dX5_measure_149 ?_
                    refine lv_aload_n hx hb dX5_measure_150 rfl (lv_at hl 0 rfl) ?_
                    refine lv_iload_n hx hb dX5_measure_151 rfl (lv_at hl 2 rfl) ?_
                    refine lv_aload_n hx hb dX5_measure_152 rfl (lv_at hl 0 rfl) ?_
                    refine va_get (D := (dC, dI)) (ci := 5) (v := .ref aMO) (C := RX5) (T := TX5) (N := 21) hx hb hts k1 hown hK hP 0 rfl rfl 13 (by decide) k7 (fun _ h9 => h9) rfl dX5_measure_153 ?_
                    refine lv_iload_n hx hb dX5_measure_156 rfl (lv_at hl 2 rfl) ?_
                    obtain ⟨t25, e9, g⟩ := bd g
                    refine q_iald hx hb hK hP 8 0 rfl rfl e9 dX5_measure_157 ?_
                    obtain ⟨r26, e9, g⟩ := bd g
                    refine q_callVi (ret := r26) (As := [.int x2_16, .int t25]) (w1 := wX5 cyI mo aMF aMT aMW aMU aMP aML aMM aMO aMR aMD aMB aMK mTh mNo mAr mS mG mQ mWa mPa mLa mF mT mW mU mP mL mM mO mR mD_17 mB_18 mK) (ws2 := wX5 cyI mo aMF aMT aMW aMU aMP aML aMM aMO aMR aMD aMB aMK mTh mNo mAr mS mG mQ mWa mPa mLa mF mT mW mU mP mL mM mO mR mD_17 mB_18 mK) ⟨hx, hb, hml, hown, hts⟩ (c_X5_priceOf l dC dI cyI mo aMF aMT aMW aMU aMP aML aMM aMO aMR aMD aMB aMK H.size mTh mNo mAr mS mG mQ mWa mPa mLa mF mT mW mU mP mL mM mO mR mD_17 mB_18 mK x2_16 t25 N _ e9) (cwV 2 hts gX5_measure_X5_priceOf rfl rfl rfl (by decide +kernel) ⟨Nat.le_of_ble_eq_true rfl, Nat.le_of_ble_eq_true rfl⟩) hK hP hD hS hA [0, 1, 2, 3, 4, 5, 6, 7, 8, 9, 10, 11, 12] [] [0, 1, 2, 3, 4, 5, 6, 7, 8, 9, 10, 11, 12] [0] rfl rfl rfl rfl (by decide) rfl rfl rfl 5 0 rfl rfl rfl hl.1 (Nat.le_of_ble_eq_true rfl) (Nat.le_of_ble_eq_true rfl) (Nat.le_of_ble_eq_true rfl) rfl dX5_measure_158 (fun H locs hP hD hS => ?_)
                    refine lv_ineg hx hb dX5_measure_161 ?_
                    refine lv_iconst (v := 2) hx hb dX5_measure_162 (by decide) ?_
                    refine lv_iload_n hx hb dX5_measure_163 rfl (lv_at hl 2 rfl) ?_
                    refine lv_imul hx hb dX5_measure_164 ?_
                    refine lv_iconst (v := 1) hx hb dX5_measure_165 (by decide) ?_
                    refine lv_iadd hx hb dX5_measure_166 ?_
                    obtain ⟨b27, mD_28, mB_29, e9, g⟩ := bd3 g
                    refine q_callVi (ret := b2i b27) (As := [.int t23, .int t24, .int (-r26), .int ((2 * x2_16) + 1)]) (w1 := wX5 cyI mo aMF aMT aMW aMU aMP aML aMM aMO aMR aMD aMB aMK mTh mNo mAr mS mG mQ mWa mPa mLa mF mT mW mU mP mL mM mO mR mD_28 mB_29 mK) (ws2 := wX5 cyI mo aMF aMT aMW aMU aMP aML aMM aMO aMR aMD aMB aMK mTh mNo mAr mS mG mQ mWa mPa mLa mF mT mW mU mP mL mM mO mR mD_28 mB_29 mK) ⟨hx, hb, hml, hown, hts⟩ (c_X5_steps l dC dI cyI mo aMF aMT aMW aMU aMP aML aMM aMO aMR aMD aMB aMK H.size mTh mNo mAr mS mG mQ mWa mPa mLa mF mT mW mU mP mL mM mO mR mD_17 mB_18 mK t23 t24 (-r26) ((2 * x2_16) + 1) _ e9) (cwV 4 hts gX5_measure_X5_steps rfl rfl rfl (by decide +kernel) ⟨Nat.le_of_ble_eq_true rfl, Nat.le_of_ble_eq_true rfl⟩) hK hP hD hS hA [0, 1, 2, 3, 4, 5, 6, 7, 8, 9, 10, 11, 12] [] [0, 1, 2, 3, 4, 5, 6, 7, 8, 9, 10, 11, 12] [0] rfl rfl rfl rfl (by decide) rfl rfl rfl 5 0 rfl rfl rfl hl.1 (Nat.le_of_ble_eq_true rfl) (Nat.le_of_ble_eq_true rfl) (Nat.le_of_ble_eq_true rfl) rfl dX5_measure_167 (fun H locs hP hD hS => ?_)
                    refine lv_if_ne (tgt := 177) hx hb dX5_measure_170 (by decide) (fun c9 => ?_) (fun c9 => ?_)
                    · have g := ineg c9 g
                      refine lv_iconst (v := 1) hx hb dX5_measure_177 (by decide) ?_
                      refine lv_goto (tgt := 182) hx hb dX5_measure_178 (by decide) ?_
                      refine lv_istore_n (lv' := [(1, .int 1), (0, .ref mo), (2, .int x2_16)]) hx hb dX5_measure_182 rfl hl (by decide) rfl (fun ls hl => ?_)
                      refine lv_iinc (v := x2_16 + 1) (lv' := [(2, .int (x2_16 + 1)), (1, .int 1), (0, .ref mo)]) hx hb dX5_measure_183 hl (k := 2) rfl (by rfl) (by decide) rfl (fun ls hl => ?_)
                      refine lv_goto (tgt := 54) hx hb dX5_measure_186 (by decide) ?_
                      cases g
                      exact ih2 _ _ _ _ h _ _ hP hD hS _ (lv_sub hl [2, 1, 0] rfl)
                    · have g := ipos c9 g
                      refine lv_iload_n hx hb dX5_measure_173 rfl (lv_at hl 1 rfl) ?_
                      refine lv_if_eq (tgt := 181) hx hb dX5_measure_174 (by decide) (fun c9 => ?_) (fun c9 => ?_)
                      · have g := ipos c9 g
                        refine lv_iconst (v := 0) hx hb dX5_measure_181 (by decide) ?_
                        refine lv_istore_n (lv' := [(1, .int 0), (0, .ref mo), (2, .int x2_16)]) hx hb dX5_measure_182 rfl hl (by decide) rfl (fun ls hl => ?_)
                        refine lv_iinc (v := x2_16 + 1) (lv' := [(2, .int (x2_16 + 1)), (1, .int 0), (0, .ref mo)]) hx hb dX5_measure_183 hl (k := 2) rfl (by rfl) (by decide) rfl (fun ls hl => ?_)
                        refine lv_goto (tgt := 54) hx hb dX5_measure_186 (by decide) ?_
                        cases g
                        exact ih2 _ _ _ _ h _ _ hP hD hS _ (lv_sub hl [2, 1, 0] rfl)
                      · have g := ineg c9 g
                        refine lv_iconst (v := 1) hx hb dX5_measure_177 (by decide) ?_
                        refine lv_goto (tgt := 182) hx hb dX5_measure_178 (by decide) ?_
                        refine lv_istore_n (lv' := [(1, .int 1), (0, .ref mo), (2, .int x2_16)]) hx hb dX5_measure_182 rfl hl (by decide) rfl (fun ls hl => ?_)
                        refine lv_iinc (v := x2_16 + 1) (lv' := [(2, .int (x2_16 + 1)), (1, .int 1), (0, .ref mo)]) hx hb dX5_measure_183 hl (k := 2) rfl (by rfl) (by decide) rfl (fun ls hl => ?_)
                        refine lv_goto (tgt := 54) hx hb dX5_measure_186 (by decide) ?_
                        cases g
                        exact ih2 _ _ _ _ h _ _ hP hD hS _ (lv_sub hl [2, 1, 0] rfl)
                · have g := ineg c9 g
                  refine lv_aload_n hx hb dX5_measure_77 rfl (lv_at hl 0 rfl) ?_
                  refine lv_aload_n hx hb dX5_measure_78 rfl (lv_at hl 0 rfl) ?_
                  refine va_get (D := (dC, dI)) (ci := 5) (v := .ref aMF) (C := RX5) (T := TX5) (N := 21) hx hb hts k1 hown hK hP 0 rfl rfl 3 (by decide) k11 (fun _ h9 => h9) rfl dX5_measure_79 ?_
                  refine lv_iload_n hx hb dX5_measure_82 rfl (lv_at hl 2 rfl) ?_
                  obtain ⟨t30, e9, g⟩ := bd g
                  refine q_iald hx hb hK hP 1 0 rfl rfl e9 dX5_measure_83 ?_
                  refine lv_aload_n hx hb dX5_measure_84 rfl (lv_at hl 0 rfl) ?_
                  refine va_get (D := (dC, dI)) (ci := 5) (v := .ref aMT) (C := RX5) (T := TX5) (N := 21) hx hb hts k1 hown hK hP 0 rfl rfl 4 (by decide) k10 (fun _ h9 => h9) rfl dX5_measure_85 ?_
                  refine lv_iload_n hx hb dX5_measure_88 rfl (lv_at hl 2 rfl) ?_
                  obtain ⟨t31, e9, g⟩ := bd g
                  refine q_iald hx hb hK hP 2 0 rfl rfl e9 dX5_measure_89 ?_
                  refine lv_aload_n hx hb dX5_measure_90 rfl (lv_at hl 0 rfl) ?_
                  refine lv_iload_n hx hb dX5_measure_91 rfl (lv_at hl 2 rfl) ?_
                  refine lv_aload_n hx hb dX5_measure_92 rfl (lv_at hl 0 rfl) ?_
                  refine va_get (D := (dC, dI)) (ci := 5) (v := .ref aMO) (C := RX5) (T := TX5) (N := 21) hx hb hts k1 hown hK hP 0 rfl rfl 13 (by decide) k7 (fun _ h9 => h9) rfl dX5_measure_93 ?_
                  refine lv_iload_n hx hb dX5_measure_96 rfl (lv_at hl 2 rfl) ?_
                  obtain ⟨t32, e9, g⟩ := bd g
                  refine q_iald hx hb hK hP 8 0 rfl rfl e9 dX5_measure_97 ?_
                  refine lv_iconst (v := 1) hx hb dX5_measure_98 (by decide) ?_
                  refine lv_iadd hx hb dX5_measure_99 ?_
                  obtain ⟨r33, e9, g⟩ := bd g
                  refine q_callVi (ret := r33) (As := [.int x2_16, .int (t32 + 1)]) (w1 := wX5 cyI mo aMF aMT aMW aMU aMP aML aMM aMO aMR aMD aMB aMK mTh mNo mAr mS mG mQ mWa mPa mLa mF mT mW mU mP mL mM mO mR mD_17 mB_18 mK) (ws2 := wX5 cyI mo aMF aMT aMW aMU aMP aML aMM aMO aMR aMD aMB aMK mTh mNo mAr mS mG mQ mWa mPa mLa mF mT mW mU mP mL mM mO mR mD_17 mB_18 mK) ⟨hx, hb, hml, hown, hts⟩ (c_X5_priceOf l dC dI cyI mo aMF aMT aMW aMU aMP aML aMM aMO aMR aMD aMB aMK H.size mTh mNo mAr mS mG mQ mWa mPa mLa mF mT mW mU mP mL mM mO mR mD_17 mB_18 mK x2_16 (t32 + 1) N _ e9) (cwV 2 hts gX5_measure_X5_priceOf rfl rfl rfl (by decide +kernel) ⟨Nat.le_of_ble_eq_true rfl, Nat.le_of_ble_eq_true rfl⟩) hK hP hD hS hA [0, 1, 2, 3, 4, 5, 6, 7, 8, 9, 10, 11, 12] [] [0, 1, 2, 3, 4, 5, 6, 7, 8, 9, 10, 11, 12] [0] rfl rfl rfl rfl (by decide) rfl rfl rfl 5 0 rfl rfl rfl hl.1 (Nat.le_of_ble_eq_true rfl) (Nat.le_of_ble_eq_true rfl) (Nat.le_of_ble_eq_true rfl) rfl dX5_measure_100 (fun H locs hP hD hS => ?_)
                  refine lv_iconst (v := 2) hx hb dX5_measure_103 (by decide) ?_
                  refine lv_iload_n hx hb dX5_measure_104 rfl (lv_at hl 2 rfl) ?_
                  refine lv_imul hx hb dX5_measure_105 ?_
                  obtain ⟨b34, mD_35, mB_36, e9, g⟩ := bd3 g
                  refine q_callVi (ret := b2i b34) (As := [.int t30, .int t31, .int r33, .int (2 * x2_16)]) (w1 := wX5 cyI mo aMF aMT aMW aMU aMP aML aMM aMO aMR aMD aMB aMK mTh mNo mAr mS mG mQ mWa mPa mLa mF mT mW mU mP mL mM mO mR mD_35 mB_36 mK) (ws2 := wX5 cyI mo aMF aMT aMW aMU aMP aML aMM aMO aMR aMD aMB aMK mTh mNo mAr mS mG mQ mWa mPa mLa mF mT mW mU mP mL mM mO mR mD_35 mB_36 mK) ⟨hx, hb, hml, hown, hts⟩ (c_X5_steps l dC dI cyI mo aMF aMT aMW aMU aMP aML aMM aMO aMR aMD aMB aMK H.size mTh mNo mAr mS mG mQ mWa mPa mLa mF mT mW mU mP mL mM mO mR mD_17 mB_18 mK t30 t31 r33 (2 * x2_16) _ e9) (cwV 4 hts gX5_measure_X5_steps rfl rfl rfl (by decide +kernel) ⟨Nat.le_of_ble_eq_true rfl, Nat.le_of_ble_eq_true rfl⟩) hK hP hD hS hA [0, 1, 2, 3, 4, 5, 6, 7, 8, 9, 10, 11, 12] [] [0, 1, 2, 3, 4, 5, 6, 7, 8, 9, 10, 11, 12] [0] rfl rfl rfl rfl (by decide) rfl rfl rfl 5 0 rfl rfl rfl hl.1 (Nat.le_of_ble_eq_true rfl) (Nat.le_of_ble_eq_true rfl) (Nat.le_of_ble_eq_true rfl) rfl dX5_measure_106 (fun H locs hP hD hS => ?_)
                  refine lv_if_ne (tgt := 116) hx hb dX5_measure_109 (by decide) (fun c9 => ?_) (fun c9 => ?_)
                  · have g := ineg c9 g
                    refine lv_iconst (v := 1) hx hb dX5_measure_116 (by decide) ?_
                    refine lv_goto (tgt := 121) hx hb dX5_measure_117 (by decide) ?_
                    refine lv_istore_n (lv' := [(1, .int 1), (0, .ref mo), (2, .int x2_16)]) hx hb dX5_measure_121 rfl hl (by decide) rfl (fun ls hl => ?_)
                    refine lv_aload_n hx hb dX5_measure_122 rfl (lv_at hl 1 rfl) ?_
                    refine va_get (D := (dC, dI)) (ci := 5) (v := .ref aMO) (C := RX5) (T := TX5) (N := 21) hx hb hts k1 hown hK hP 0 rfl rfl 13 (by decide) k7 (fun _ h9 => h9) rfl dX5_measure_123 ?_
                    refine lv_iload_n hx hb dX5_measure_126 rfl (lv_at hl 2 rfl) ?_
                    obtain ⟨t37, e9, g⟩ := bd g
                    refine q_iald hx hb hK hP 8 0 rfl rfl e9 dX5_measure_127 ?_
                    refine lv_aload_n hx hb dX5_measure_128 rfl (lv_at hl 1 rfl) ?_
                    refine va_get (D := (dC, dI)) (ci := 5) (v := .ref aML) (C := RX5) (T := TX5) (N := 21) hx hb hts k1 hown hK hP 0 rfl rfl 11 (by decide) k9 (fun _ h9 => h9) rfl dX5_measure_129 ?_
                    refine lv_iload_n hx hb dX5_measure_132 rfl (lv_at hl 2 rfl) ?_
                    obtain ⟨t38, e9, g⟩ := bd g
                    refine q_iald hx hb hK hP 6 0 rfl rfl e9 dX5_measure_133 ?_
                    refine lv_icmp_le (tgt := 183) hx hb dX5_measure_134 (by decide) (fun c9 => ?_) (fun c9 => ?_)
                    · have g := ipos c9 g
                      refine lv_iinc (v := x2_16 + 1) (lv' := [(2, .int (x2_16 + 1)), (1, .int 1), (0, .ref mo)]) hx hb dX5_measure_183 hl (k := 2) rfl (by rfl) (by decide) rfl (fun ls hl => ?_)
                      refine lv_goto (tgt := 54) hx hb dX5_measure_186 (by decide) ?_
                      cases g
                      exact ih2 _ _ _ _ h _ _ hP hD hS _ (lv_sub hl [2, 1, 0] rfl)
                    · have g := ineg c9 g
                      refine lv_aload_n hx hb dX5_measure_137 rfl (lv_at hl 1 rfl) ?_
                      refine lv_aload_n hx hb dX5_measure_138 rfl (lv_at hl 1 rfl) ?_
                      refine va_get (D := (dC, dI)) (ci := 5) (v := .ref aMT) (C := RX5) (T := TX5) (N := 21) hx hb hts k1 hown hK hP 0 rfl rfl 4 (by decide) k10 (fun _ h9 => h9) rfl dX5_measure_139 ?_
                      refine lv_iload_n hx hb dX5_measure_142 rfl (lv_at hl 2 rfl) ?_
                      obtain ⟨t39, e9, g⟩ := bd g
                      refine q_iald hx hb hK hP 2 0 rfl rfl e9 dX5_measure_143 ?_
                      refine lv_aload_n hx hb dX5_measure_144 rfl (lv_at hl 1 rfl) ?_
                      refine va_get (D := (dC, dI)) (ci := 5) (v := .ref aMF) (C := RX5) (T := TX5) (N := 21) hx hb hts k1 hown hK hP 0 rfl rfl 3 (by decide) k11 (fun _ h9 => h9) rfl dX5_measure_145 ?_
                      refine lv_iload_n hx hb dX5_measure_148 rfl (lv_at hl 2 rfl) ?_
                      obtain ⟨t40, e9, g⟩ := bd g
                      refine q_iald hx hb hK hP 1 0 rfl rfl e9 dX5_measure_149 ?_
                      refine lv_aload_n hx hb dX5_measure_150 rfl (lv_at hl 1 rfl) ?_
                      refine lv_iload_n hx hb dX5_measure_151 rfl (lv_at hl 2 rfl) ?_
                      refine lv_aload_n hx hb dX5_measure_152 rfl (lv_at hl 1 rfl) ?_
                      refine va_get (D := (dC, dI)) (ci := 5) (v := .ref aMO) (C := RX5) (T := TX5) (N := 21) hx hb hts k1 hown hK hP 0 rfl rfl 13 (by decide) k7 (fun _ h9 => h9) rfl dX5_measure_153 ?_
                      refine lv_iload_n hx hb dX5_measure_156 rfl (lv_at hl 2 rfl) ?_
                      obtain ⟨t41, e9, g⟩ := bd g
                      refine q_iald hx hb hK hP 8 0 rfl rfl e9 dX5_measure_157 ?_
                      obtain ⟨r42, e9, g⟩ := bd g
                      refine q_callVi (ret := r42) (As := [.int x2_16, .int t41]) (w1 := wX5 cyI mo aMF aMT aMW aMU aMP aML aMM aMO aMR aMD aMB aMK mTh mNo mAr mS mG mQ mWa mPa mLa mF mT mW mU mP mL mM mO mR mD_35 mB_36 mK) (ws2 := wX5 cyI mo aMF aMT aMW aMU aMP aML aMM aMO aMR aMD aMB aMK mTh mNo mAr mS mG mQ mWa mPa mLa mF mT mW mU mP mL mM mO mR mD_35 mB_36 mK) ⟨hx, hb, hml, hown, hts⟩ (c_X5_priceOf l dC dI cyI mo aMF aMT aMW aMU aMP aML aMM aMO aMR aMD aMB aMK H.size mTh mNo mAr mS mG mQ mWa mPa mLa mF mT mW mU mP mL mM mO mR mD_35 mB_36 mK x2_16 t41 N _ e9) (cwV 2 hts gX5_measure_X5_priceOf rfl rfl rfl (by decide +kernel) ⟨Nat.le_of_ble_eq_true rfl, Nat.le_of_ble_eq_true rfl⟩) hK hP hD hS hA [0, 1, 2, 3, 4, 5, 6, 7, 8, 9, 10, 11, 12] [] [0, 1, 2, 3, 4, 5, 6, 7, 8, 9, 10, 11, 12] [0] rfl rfl rfl rfl (by decide) rfl rfl rfl 5 0 rfl rfl rfl hl.1 (Nat.le_of_ble_eq_true rfl) (Nat.le_of_ble_eq_true rfl) (Nat.le_of_ble_eq_true rfl) rfl dX5_measure_158 (fun H locs hP hD hS => ?_)
                      refine lv_ineg hx hb dX5_measure_161 ?_
                      refine lv_iconst (v := 2) hx hb dX5_measure_162 (by decide) ?_
                      refine lv_iload_n hx hb dX5_measure_163 rfl (lv_at hl 2 rfl) ?_
                      refine lv_imul hx hb dX5_measure_164 ?_
                      refine lv_iconst (v := 1) hx hb dX5_measure_165 (by decide) ?_
                      refine lv_iadd hx hb dX5_measure_166 ?_
                      obtain ⟨b43, mD_44, mB_45, e9, g⟩ := bd3 g
                      refine q_callVi (ret := b2i b43) (As := [.int t39, .int t40, .int (-r42), .int ((2 * x2_16) + 1)]) (w1 := wX5 cyI mo aMF aMT aMW aMU aMP aML aMM aMO aMR aMD aMB aMK mTh mNo mAr mS mG mQ mWa mPa mLa mF mT mW mU mP mL mM mO mR mD_44 mB_45 mK) (ws2 := wX5 cyI mo aMF aMT aMW aMU aMP aML aMM aMO aMR aMD aMB aMK mTh mNo mAr mS mG mQ mWa mPa mLa mF mT mW mU mP mL mM mO mR mD_44 mB_45 mK) ⟨hx, hb, hml, hown, hts⟩ (c_X5_steps l dC dI cyI mo aMF aMT aMW aMU aMP aML aMM aMO aMR aMD aMB aMK H.size mTh mNo mAr mS mG mQ mWa mPa mLa mF mT mW mU mP mL mM mO mR mD_35 mB_36 mK t39 t40 (-r42) ((2 * x2_16) + 1) _ e9) (cwV 4 hts gX5_measure_X5_steps rfl rfl rfl (by decide +kernel) ⟨Nat.le_of_ble_eq_true rfl, Nat.le_of_ble_eq_true rfl⟩) hK hP hD hS hA [0, 1, 2, 3, 4, 5, 6, 7, 8, 9, 10, 11, 12] [] [0, 1, 2, 3, 4, 5, 6, 7, 8, 9, 10, 11, 12] [0] rfl rfl rfl rfl (by decide) rfl rfl rfl 5 0 rfl rfl rfl hl.1 (Nat.le_of_ble_eq_true rfl) (Nat.le_of_ble_eq_true rfl) (Nat.le_of_ble_eq_true rfl) rfl dX5_measure_167 (fun H locs hP hD hS => ?_)
                      refine lv_if_ne (tgt := 177) hx hb dX5_measure_170 (by decide) (fun c9 => ?_) (fun c9 => ?_)
                      · have g := ineg c9 g
                        refine lv_iconst (v := 1) hx hb dX5_measure_177 (by decide) ?_
                        refine lv_goto (tgt := 182) hx hb dX5_measure_178 (by decide) ?_
                        refine lv_istore_n (lv' := [(1, .int 1), (0, .ref mo), (2, .int x2_16)]) hx hb dX5_measure_182 rfl hl (by decide) rfl (fun ls hl => ?_)
                        refine lv_iinc (v := x2_16 + 1) (lv' := [(2, .int (x2_16 + 1)), (1, .int 1), (0, .ref mo)]) hx hb dX5_measure_183 hl (k := 2) rfl (by rfl) (by decide) rfl (fun ls hl => ?_)
                        refine lv_goto (tgt := 54) hx hb dX5_measure_186 (by decide) ?_
                        cases g
                        exact ih2 _ _ _ _ h _ _ hP hD hS _ (lv_sub hl [2, 1, 0] rfl)
                      · have g := ipos c9 g
                        refine lv_iload_n hx hb dX5_measure_173 rfl (lv_at hl 0 rfl) ?_
                        refine lv_if_eq (tgt := 181) hx hb dX5_measure_174 (by decide) (fun c9 => absurd c9 (by decide)) (fun _ => ?_)
                        refine lv_iconst (v := 1) hx hb dX5_measure_177 (by decide) ?_
                        refine lv_goto (tgt := 182) hx hb dX5_measure_178 (by decide) ?_
                        refine lv_istore_n (lv' := [(1, .int 1), (0, .ref mo), (2, .int x2_16)]) hx hb dX5_measure_182 rfl hl (by decide) rfl (fun ls hl => ?_)
                        refine lv_iinc (v := x2_16 + 1) (lv' := [(2, .int (x2_16 + 1)), (1, .int 1), (0, .ref mo)]) hx hb dX5_measure_183 hl (k := 2) rfl (by rfl) (by decide) rfl (fun ls hl => ?_)
                        refine lv_goto (tgt := 54) hx hb dX5_measure_186 (by decide) ?_
                        cases g
                        exact ih2 _ _ _ _ h _ _ hP hD hS _ (lv_sub hl [2, 1, 0] rfl)
                  · have g := ipos c9 g
                    refine lv_iload_n hx hb dX5_measure_112 rfl (lv_at hl 1 rfl) ?_
                    refine lv_if_eq (tgt := 120) hx hb dX5_measure_113 (by decide) (fun c9 => ?_) (fun c9 => ?_)
                    · have g := ipos c9 g
                      refine lv_iconst (v := 0) hx hb dX5_measure_120 (by decide) ?_
                      refine lv_istore_n (lv' := [(1, .int 0), (0, .ref mo), (2, .int x2_16)]) hx hb dX5_measure_121 rfl hl (by decide) rfl (fun ls hl => ?_)
                      refine lv_aload_n hx hb dX5_measure_122 rfl (lv_at hl 1 rfl) ?_
                      refine va_get (D := (dC, dI)) (ci := 5) (v := .ref aMO) (C := RX5) (T := TX5) (N := 21) hx hb hts k1 hown hK hP 0 rfl rfl 13 (by decide) k7 (fun _ h9 => h9) rfl dX5_measure_123 ?_
                      refine lv_iload_n hx hb dX5_measure_126 rfl (lv_at hl 2 rfl) ?_
                      obtain ⟨t46, e9, g⟩ := bd g
                      refine q_iald hx hb hK hP 8 0 rfl rfl e9 dX5_measure_127 ?_
                      refine lv_aload_n hx hb dX5_measure_128 rfl (lv_at hl 1 rfl) ?_
                      refine va_get (D := (dC, dI)) (ci := 5) (v := .ref aML) (C := RX5) (T := TX5) (N := 21) hx hb hts k1 hown hK hP 0 rfl rfl 11 (by decide) k9 (fun _ h9 => h9) rfl dX5_measure_129 ?_
                      refine lv_iload_n hx hb dX5_measure_132 rfl (lv_at hl 2 rfl) ?_
                      obtain ⟨t47, e9, g⟩ := bd g
                      refine q_iald hx hb hK hP 6 0 rfl rfl e9 dX5_measure_133 ?_
                      refine lv_icmp_le (tgt := 183) hx hb dX5_measure_134 (by decide) (fun c9 => ?_) (fun c9 => ?_)
                      · have g := ipos c9 g
                        refine lv_iinc (v := x2_16 + 1) (lv' := [(2, .int (x2_16 + 1)), (1, .int 0), (0, .ref mo)]) hx hb dX5_measure_183 hl (k := 2) rfl (by rfl) (by decide) rfl (fun ls hl => ?_)
                        refine lv_goto (tgt := 54) hx hb dX5_measure_186 (by decide) ?_
                        cases g
                        exact ih2 _ _ _ _ h _ _ hP hD hS _ (lv_sub hl [2, 1, 0] rfl)
                      · have g := ineg c9 g
                        refine lv_aload_n hx hb dX5_measure_137 rfl (lv_at hl 1 rfl) ?_
                        refine lv_aload_n hx hb dX5_measure_138 rfl (lv_at hl 1 rfl) ?_
                        refine va_get (D := (dC, dI)) (ci := 5) (v := .ref aMT) (C := RX5) (T := TX5) (N := 21) hx hb hts k1 hown hK hP 0 rfl rfl 4 (by decide) k10 (fun _ h9 => h9) rfl dX5_measure_139 ?_
                        refine lv_iload_n hx hb dX5_measure_142 rfl (lv_at hl 2 rfl) ?_
                        obtain ⟨t48, e9, g⟩ := bd g
                        refine q_iald hx hb hK hP 2 0 rfl rfl e9 dX5_measure_143 ?_
                        refine lv_aload_n hx hb dX5_measure_144 rfl (lv_at hl 1 rfl) ?_
                        refine va_get (D := (dC, dI)) (ci := 5) (v := .ref aMF) (C := RX5) (T := TX5) (N := 21) hx hb hts k1 hown hK hP 0 rfl rfl 3 (by decide) k11 (fun _ h9 => h9) rfl dX5_measure_145 ?_
                        refine lv_iload_n hx hb dX5_measure_148 rfl (lv_at hl 2 rfl) ?_
                        obtain ⟨t49, e9, g⟩ := bd g
                        refine q_iald hx hb hK hP 1 0 rfl rfl e9 dX5_measure_149 ?_
                        refine lv_aload_n hx hb dX5_measure_150 rfl (lv_at hl 1 rfl) ?_
                        refine lv_iload_n hx hb dX5_measure_151 rfl (lv_at hl 2 rfl) ?_
                        refine lv_aload_n hx hb dX5_measure_152 rfl (lv_at hl 1 rfl) ?_
                        refine va_get (D := (dC, dI)) (ci := 5) (v := .ref aMO) (C := RX5) (T := TX5) (N := 21) hx hb hts k1 hown hK hP 0 rfl rfl 13 (by decide) k7 (fun _ h9 => h9) rfl dX5_measure_153 ?_
                        refine lv_iload_n hx hb dX5_measure_156 rfl (lv_at hl 2 rfl) ?_
                        obtain ⟨t50, e9, g⟩ := bd g
                        refine q_iald hx hb hK hP 8 0 rfl rfl e9 dX5_measure_157 ?_
                        obtain ⟨r51, e9, g⟩ := bd g
                        refine q_callVi (ret := r51) (As := [.int x2_16, .int t50]) (w1 := wX5 cyI mo aMF aMT aMW aMU aMP aML aMM aMO aMR aMD aMB aMK mTh mNo mAr mS mG mQ mWa mPa mLa mF mT mW mU mP mL mM mO mR mD_35 mB_36 mK) (ws2 := wX5 cyI mo aMF aMT aMW aMU aMP aML aMM aMO aMR aMD aMB aMK mTh mNo mAr mS mG mQ mWa mPa mLa mF mT mW mU mP mL mM mO mR mD_35 mB_36 mK) ⟨hx, hb, hml, hown, hts⟩ (c_X5_priceOf l dC dI cyI mo aMF aMT aMW aMU aMP aML aMM aMO aMR aMD aMB aMK H.size mTh mNo mAr mS mG mQ mWa mPa mLa mF mT mW mU mP mL mM mO mR mD_35 mB_36 mK x2_16 t50 N _ e9) (cwV 2 hts gX5_measure_X5_priceOf rfl rfl rfl (by decide +kernel) ⟨Nat.le_of_ble_eq_true rfl, Nat.le_of_ble_eq_true rfl⟩) hK hP hD hS hA [0, 1, 2, 3, 4, 5, 6, 7, 8, 9, 10, 11, 12] [] [0, 1, 2, 3, 4, 5, 6, 7, 8, 9, 10, 11, 12] [0] rfl rfl rfl rfl (by decide) rfl rfl rfl 5 0 rfl rfl rfl hl.1 (Nat.le_of_ble_eq_true rfl) (Nat.le_of_ble_eq_true rfl) (Nat.le_of_ble_eq_true rfl) rfl dX5_measure_158 (fun H locs hP hD hS => ?_)
                        refine lv_ineg hx hb dX5_measure_161 ?_
                        refine lv_iconst (v := 2) hx hb dX5_measure_162 (by decide) ?_
                        refine lv_iload_n hx hb dX5_measure_163 rfl (lv_at hl 2 rfl) ?_
                        refine lv_imul hx hb dX5_measure_164 ?_
                        refine lv_iconst (v := 1) hx hb dX5_measure_165 (by decide) ?_
                        refine lv_iadd hx hb dX5_measure_166 ?_
                        obtain ⟨b52, mD_53, mB_54, e9, g⟩ := bd3 g
                        refine q_callVi (ret := b2i b52) (As := [.int t48, .int t49, .int (-r51), .int ((2 * x2_16) + 1)]) (w1 := wX5 cyI mo aMF aMT aMW aMU aMP aML aMM aMO aMR aMD aMB aMK mTh mNo mAr mS mG mQ mWa mPa mLa mF mT mW mU mP mL mM mO mR mD_53 mB_54 mK) (ws2 := wX5 cyI mo aMF aMT aMW aMU aMP aML aMM aMO aMR aMD aMB aMK mTh mNo mAr mS mG mQ mWa mPa mLa mF mT mW mU mP mL mM mO mR mD_53 mB_54 mK) ⟨hx, hb, hml, hown, hts⟩ (c_X5_steps l dC dI cyI mo aMF aMT aMW aMU aMP aML aMM aMO aMR aMD aMB aMK H.size mTh mNo mAr mS mG mQ mWa mPa mLa mF mT mW mU mP mL mM mO mR mD_35 mB_36 mK t48 t49 (-r51) ((2 * x2_16) + 1) _ e9) (cwV 4 hts gX5_measure_X5_steps rfl rfl rfl (by decide +kernel) ⟨Nat.le_of_ble_eq_true rfl, Nat.le_of_ble_eq_true rfl⟩) hK hP hD hS hA [0, 1, 2, 3, 4, 5, 6, 7, 8, 9, 10, 11, 12] [] [0, 1, 2, 3, 4, 5, 6, 7, 8, 9, 10, 11, 12] [0] rfl rfl rfl rfl (by decide) rfl rfl rfl 5 0 rfl rfl rfl hl.1 (Nat.le_of_ble_eq_true rfl) (Nat.le_of_ble_eq_true rfl) (Nat.le_of_ble_eq_true rfl) rfl dX5_measure_167 (fun H locs hP hD hS => ?_)
                        refine lv_if_ne (tgt := 177) hx hb dX5_measure_170 (by decide) (fun c9 => ?_) (fun c9 => ?_)
                        · have g := ineg c9 g
                          refine lv_iconst (v := 1) hx hb dX5_measure_177 (by decide) ?_
                          refine lv_goto (tgt := 182) hx hb dX5_measure_178 (by decide) ?_
                          refine lv_istore_n (lv' := [(1, .int 1), (0, .ref mo), (2, .int x2_16)]) hx hb dX5_measure_182 rfl hl (by decide) rfl (fun ls hl => ?_)
                          refine lv_iinc (v := x2_16 + 1) (lv' := [(2, .int (x2_16 + 1)), (1, .int 1), (0, .ref mo)]) hx hb dX5_measure_183 hl (k := 2) rfl (by rfl) (by decide) rfl (fun ls hl => ?_)
                          refine lv_goto (tgt := 54) hx hb dX5_measure_186 (by decide) ?_
                          cases g
                          exact ih2 _ _ _ _ h _ _ hP hD hS _ (lv_sub hl [2, 1, 0] rfl)
                        · have g := ipos c9 g
                          refine lv_iload_n hx hb dX5_measure_173 rfl (lv_at hl 0 rfl) ?_
                          refine lv_if_eq (tgt := 181) hx hb dX5_measure_174 (by decide) (fun _ => ?_) (fun c9 => absurd (by decide) c9)
                          refine lv_iconst (v := 0) hx hb dX5_measure_181 (by decide) ?_
                          refine lv_istore_n (lv' := [(1, .int 0), (0, .ref mo), (2, .int x2_16)]) hx hb dX5_measure_182 rfl hl (by decide) rfl (fun ls hl => ?_)
                          refine lv_iinc (v := x2_16 + 1) (lv' := [(2, .int (x2_16 + 1)), (1, .int 0), (0, .ref mo)]) hx hb dX5_measure_183 hl (k := 2) rfl (by rfl) (by decide) rfl (fun ls hl => ?_)
                          refine lv_goto (tgt := 54) hx hb dX5_measure_186 (by decide) ?_
                          cases g
                          exact ih2 _ _ _ _ h _ _ hP hD hS _ (lv_sub hl [2, 1, 0] rfl)
                    · have g := ineg c9 g
                      refine lv_iconst (v := 1) hx hb dX5_measure_116 (by decide) ?_
                      refine lv_goto (tgt := 121) hx hb dX5_measure_117 (by decide) ?_
                      refine lv_istore_n (lv' := [(1, .int 1), (0, .ref mo), (2, .int x2_16)]) hx hb dX5_measure_121 rfl hl (by decide) rfl (fun ls hl => ?_)
                      refine lv_aload_n hx hb dX5_measure_122 rfl (lv_at hl 1 rfl) ?_
                      refine va_get (D := (dC, dI)) (ci := 5) (v := .ref aMO) (C := RX5) (T := TX5) (N := 21) hx hb hts k1 hown hK hP 0 rfl rfl 13 (by decide) k7 (fun _ h9 => h9) rfl dX5_measure_123 ?_
                      refine lv_iload_n hx hb dX5_measure_126 rfl (lv_at hl 2 rfl) ?_
                      obtain ⟨t55, e9, g⟩ := bd g
                      refine q_iald hx hb hK hP 8 0 rfl rfl e9 dX5_measure_127 ?_
                      refine lv_aload_n hx hb dX5_measure_128 rfl (lv_at hl 1 rfl) ?_
                      refine va_get (D := (dC, dI)) (ci := 5) (v := .ref aML) (C := RX5) (T := TX5) (N := 21) hx hb hts k1 hown hK hP 0 rfl rfl 11 (by decide) k9 (fun _ h9 => h9) rfl dX5_measure_129 ?_
                      refine lv_iload_n hx hb dX5_measure_132 rfl (lv_at hl 2 rfl) ?_
                      obtain ⟨t56, e9, g⟩ := bd g
                      refine q_iald hx hb hK hP 6 0 rfl rfl e9 dX5_measure_133 ?_
                      refine lv_icmp_le (tgt := 183) hx hb dX5_measure_134 (by decide) (fun c9 => ?_) (fun c9 => ?_)
                      · have g := ipos c9 g
                        refine lv_iinc (v := x2_16 + 1) (lv' := [(2, .int (x2_16 + 1)), (1, .int 1), (0, .ref mo)]) hx hb dX5_measure_183 hl (k := 2) rfl (by rfl) (by decide) rfl (fun ls hl => ?_)
                        refine lv_goto (tgt := 54) hx hb dX5_measure_186 (by decide) ?_
                        cases g
                        exact ih2 _ _ _ _ h _ _ hP hD hS _ (lv_sub hl [2, 1, 0] rfl)
                      · have g := ineg c9 g
                        refine lv_aload_n hx hb dX5_measure_137 rfl (lv_at hl 1 rfl) ?_
                        refine lv_aload_n hx hb dX5_measure_138 rfl (lv_at hl 1 rfl) ?_
                        refine va_get (D := (dC, dI)) (ci := 5) (v := .ref aMT) (C := RX5) (T := TX5) (N := 21) hx hb hts k1 hown hK hP 0 rfl rfl 4 (by decide) k10 (fun _ h9 => h9) rfl dX5_measure_139 ?_
                        refine lv_iload_n hx hb dX5_measure_142 rfl (lv_at hl 2 rfl) ?_
                        obtain ⟨t57, e9, g⟩ := bd g
                        refine q_iald hx hb hK hP 2 0 rfl rfl e9 dX5_measure_143 ?_
                        refine lv_aload_n hx hb dX5_measure_144 rfl (lv_at hl 1 rfl) ?_
                        refine va_get (D := (dC, dI)) (ci := 5) (v := .ref aMF) (C := RX5) (T := TX5) (N := 21) hx hb hts k1 hown hK hP 0 rfl rfl 3 (by decide) k11 (fun _ h9 => h9) rfl dX5_measure_145 ?_
                        refine lv_iload_n hx hb dX5_measure_148 rfl (lv_at hl 2 rfl) ?_
                        obtain ⟨t58, e9, g⟩ := bd g
                        refine q_iald hx hb hK hP 1 0 rfl rfl e9 dX5_measure_149 ?_
                        refine lv_aload_n hx hb dX5_measure_150 rfl (lv_at hl 1 rfl) ?_
                        refine lv_iload_n hx hb dX5_measure_151 rfl (lv_at hl 2 rfl) ?_
                        refine lv_aload_n hx hb dX5_measure_152 rfl (lv_at hl 1 rfl) ?_
                        refine va_get (D := (dC, dI)) (ci := 5) (v := .ref aMO) (C := RX5) (T := TX5) (N := 21) hx hb hts k1 hown hK hP 0 rfl rfl 13 (by decide) k7 (fun _ h9 => h9) rfl dX5_measure_153 ?_
                        refine lv_iload_n hx hb dX5_measure_156 rfl (lv_at hl 2 rfl) ?_
                        obtain ⟨t59, e9, g⟩ := bd g
                        refine q_iald hx hb hK hP 8 0 rfl rfl e9 dX5_measure_157 ?_
                        obtain ⟨r60, e9, g⟩ := bd g
                        refine q_callVi (ret := r60) (As := [.int x2_16, .int t59]) (w1 := wX5 cyI mo aMF aMT aMW aMU aMP aML aMM aMO aMR aMD aMB aMK mTh mNo mAr mS mG mQ mWa mPa mLa mF mT mW mU mP mL mM mO mR mD_35 mB_36 mK) (ws2 := wX5 cyI mo aMF aMT aMW aMU aMP aML aMM aMO aMR aMD aMB aMK mTh mNo mAr mS mG mQ mWa mPa mLa mF mT mW mU mP mL mM mO mR mD_35 mB_36 mK) ⟨hx, hb, hml, hown, hts⟩ (c_X5_priceOf l dC dI cyI mo aMF aMT aMW aMU aMP aML aMM aMO aMR aMD aMB aMK H.size mTh mNo mAr mS mG mQ mWa mPa mLa mF mT mW mU mP mL mM mO mR mD_35 mB_36 mK x2_16 t59 N _ e9) (cwV 2 hts gX5_measure_X5_priceOf rfl rfl rfl (by decide +kernel) ⟨Nat.le_of_ble_eq_true rfl, Nat.le_of_ble_eq_true rfl⟩) hK hP hD hS hA [0, 1, 2, 3, 4, 5, 6, 7, 8, 9, 10, 11, 12] [] [0, 1, 2, 3, 4, 5, 6, 7, 8, 9, 10, 11, 12] [0] rfl rfl rfl rfl (by decide) rfl rfl rfl 5 0 rfl rfl rfl hl.1 (Nat.le_of_ble_eq_true rfl) (Nat.le_of_ble_eq_true rfl) (Nat.le_of_ble_eq_true rfl) rfl dX5_measure_158 (fun H locs hP hD hS => ?_)
                        refine lv_ineg hx hb dX5_measure_161 ?_
                        refine lv_iconst (v := 2) hx hb dX5_measure_162 (by decide) ?_
                        refine lv_iload_n hx hb dX5_measure_163 rfl (lv_at hl 2 rfl) ?_
                        refine lv_imul hx hb dX5_measure_164 ?_
                        refine lv_iconst (v := 1) hx hb dX5_measure_165 (by decide) ?_
                        refine lv_iadd hx hb dX5_measure_166 ?_
                        obtain ⟨b61, mD_62, mB_63, e9, g⟩ := bd3 g
                        refine q_callVi (ret := b2i b61) (As := [.int t57, .int t58, .int (-r60), .int ((2 * x2_16) + 1)]) (w1 := wX5 cyI mo aMF aMT aMW aMU aMP aML aMM aMO aMR aMD aMB aMK mTh mNo mAr mS mG mQ mWa mPa mLa mF mT mW mU mP mL mM mO mR mD_62 mB_63 mK) (ws2 := wX5 cyI mo aMF aMT aMW aMU aMP aML aMM aMO aMR aMD aMB aMK mTh mNo mAr mS mG mQ mWa mPa mLa mF mT mW mU mP mL mM mO mR mD_62 mB_63 mK) ⟨hx, hb, hml, hown, hts⟩ (c_X5_steps l dC dI cyI mo aMF aMT aMW aMU aMP aML aMM aMO aMR aMD aMB aMK H.size mTh mNo mAr mS mG mQ mWa mPa mLa mF mT mW mU mP mL mM mO mR mD_35 mB_36 mK t57 t58 (-r60) ((2 * x2_16) + 1) _ e9) (cwV 4 hts gX5_measure_X5_steps rfl rfl rfl (by decide +kernel) ⟨Nat.le_of_ble_eq_true rfl, Nat.le_of_ble_eq_true rfl⟩) hK hP hD hS hA [0, 1, 2, 3, 4, 5, 6, 7, 8, 9, 10, 11, 12] [] [0, 1, 2, 3, 4, 5, 6, 7, 8, 9, 10, 11, 12] [0] rfl rfl rfl rfl (by decide) rfl rfl rfl 5 0 rfl rfl rfl hl.1 (Nat.le_of_ble_eq_true rfl) (Nat.le_of_ble_eq_true rfl) (Nat.le_of_ble_eq_true rfl) rfl dX5_measure_167 (fun H locs hP hD hS => ?_)
                        refine lv_if_ne (tgt := 177) hx hb dX5_measure_170 (by decide) (fun c9 => ?_) (fun c9 => ?_)
                        · have g := ineg c9 g
                          refine lv_iconst (v := 1) hx hb dX5_measure_177 (by decide) ?_
                          refine lv_goto (tgt := 182) hx hb dX5_measure_178 (by decide) ?_
                          refine lv_istore_n (lv' := [(1, .int 1), (0, .ref mo), (2, .int x2_16)]) hx hb dX5_measure_182 rfl hl (by decide) rfl (fun ls hl => ?_)
                          refine lv_iinc (v := x2_16 + 1) (lv' := [(2, .int (x2_16 + 1)), (1, .int 1), (0, .ref mo)]) hx hb dX5_measure_183 hl (k := 2) rfl (by rfl) (by decide) rfl (fun ls hl => ?_)
                          refine lv_goto (tgt := 54) hx hb dX5_measure_186 (by decide) ?_
                          cases g
                          exact ih2 _ _ _ _ h _ _ hP hD hS _ (lv_sub hl [2, 1, 0] rfl)
                        · have g := ipos c9 g
                          refine lv_iload_n hx hb dX5_measure_173 rfl (lv_at hl 0 rfl) ?_
                          refine lv_if_eq (tgt := 181) hx hb dX5_measure_174 (by decide) (fun c9 => absurd c9 (by decide)) (fun _ => ?_)
                          refine lv_iconst (v := 1) hx hb dX5_measure_177 (by decide) ?_
                          refine lv_goto (tgt := 182) hx hb dX5_measure_178 (by decide) ?_
                          refine lv_istore_n (lv' := [(1, .int 1), (0, .ref mo), (2, .int x2_16)]) hx hb dX5_measure_182 rfl hl (by decide) rfl (fun ls hl => ?_)
                          refine lv_iinc (v := x2_16 + 1) (lv' := [(2, .int (x2_16 + 1)), (1, .int 1), (0, .ref mo)]) hx hb dX5_measure_183 hl (k := 2) rfl (by rfl) (by decide) rfl (fun ls hl => ?_)
                          refine lv_goto (tgt := 54) hx hb dX5_measure_186 (by decide) ?_
                          cases g
                          exact ih2 _ _ _ _ h _ _ hP hD hS _ (lv_sub hl [2, 1, 0] rfl)
          exact hL2 N _ _ _ _  e2 _ _ hP hD hS _ (lv_sub hl [2, 1, 0] rfl)
    exact hL1 N _ _ _  e1 _ _ hP hD hS _ (lv_sub hl [1, 0] rfl)
  have hL0 : ∀ (n9 : Nat) (x1_1 : Int32) (mD_2 : Nat → Int32) (mB_3 : Nat → Int32), lp (un3 (pX5_measure_l2 mNo mR)) n9 ((x1_1, mD_2, mB_3)) = some ((x1_9, mD_10, mB_11)) → ∀ (H : Heap) (locs : List Loc), va_P (dC, dI) vwCl (wX5 cyI mo aMF aMT aMW aMU aMP aML aMM aMO aMR aMD aMB aMK mTh mNo mAr mS mG mQ mWa mPa mLa mF mT mW mU mP mL mM mO mR mD_2 mB_3 mK) H → va_D A (wX5 cyI mo aMF aMT aMW aMU aMP aML aMM aMO aMR aMD aMB aMK mTh mNo mAr mS mG mQ mWa mPa mLa mF mT mW mU mP mL mM mO mR mD_2 mB_3 mK) → va_S A s.heap H locs → ∀ ls : Array Slot, lv_has ls 3 [(0, .ref mo), (1, .int x1_1)] → W p l e { frames := 1, cells := 0, slots := 0, locals := 24 } s m args below meth c H locs 0 0 Q (F0 m 2 ls []) := by
    intro n9
    induction n9 with
    | zero =>
      intro x1_1 mD_2 mB_3 h
      exact lp0 h
    | succ n9 ih0 =>
      intro x1_1 mD_2 mB_3 h H locs hP hD hS ls hl
      obtain ⟨o9, g, h⟩ := lps h
      replace g : pX5_measure_l2 mNo mR x1_1 mD_2 mB_3 = some o9 := g
      unfold pX5_measure_l2 at g
      refine lv_iload_n hx hb dX5_measure_2 rfl (lv_at hl 1 rfl) ?_
      refine lv_aload_n hx hb dX5_measure_3 rfl (lv_at hl 0 rfl) ?_
      refine va_get (D := (dC, dI)) (ci := 5) (v := .int mNo) (C := RX5) (T := TX5) (N := 21) hx hb hts k1 hown hK hP 0 rfl rfl 1 (by decide) k0 (fun _ h9 => h9) rfl dX5_measure_4 ?_
      refine lv_icmp_ge (tgt := 44) hx hb dX5_measure_7 (by decide) (fun c9 => ?_) (fun c9 => ?_)
      · have g := ipos c9 g
        cases g
        have h := lpx h
        cases h
        exact hT0 _ _ hP hD hS _ (lv_sub hl [0, 1] rfl)
      · have g := ineg c9 g
        refine lv_aload_n hx hb dX5_measure_10 rfl (lv_at hl 0 rfl) ?_
        refine va_get (D := (dC, dI)) (ci := 5) (v := .ref aMD) (C := RX5) (T := TX5) (N := 21) hx hb hts k1 hown hK hP 0 rfl rfl 15 (by decide) k2 (fun _ h9 => h9) rfl dX5_measure_11 ?_
        refine lv_iload_n hx hb dX5_measure_14 rfl (lv_at hl 1 rfl) ?_
        refine lv_aload_n hx hb dX5_measure_15 rfl (lv_at hl 0 rfl) ?_
        refine va_get (D := (dC, dI)) (ci := 5) (v := .ref aMR) (C := RX5) (T := TX5) (N := 21) hx hb hts k1 hown hK hP 0 rfl rfl 14 (by decide) k3 (fun _ h9 => h9) rfl dX5_measure_16 ?_
        refine lv_iload_n hx hb dX5_measure_19 rfl (lv_at hl 1 rfl) ?_
        obtain ⟨t4, e9, g⟩ := bd g
        refine q_iald hx hb hK hP 9 0 rfl rfl e9 dX5_measure_20 ?_
        refine lv_if_le (tgt := 28) hx hb dX5_measure_21 (by decide) (fun c9 => ?_) (fun c9 => ?_)
        · have g := ipos c9 g
          refine lv_ldc (own := RX5) (v := 1000000) hx hb hown k4 dX5_measure_28 ?_
          obtain ⟨mD_5, e9, g⟩ := bd g
          refine q_iast (ws2 := wX5 cyI mo aMF aMT aMW aMU aMP aML aMM aMO aMR aMD aMB aMK mTh mNo mAr mS mG mQ mWa mPa mLa mF mT mW mU mP mL mM mO mR mD_5 mB_3 mK) hx hb hK hP hD hS 10 0 rfl rfl e9 dX5_measure_30 rfl (fun H locs hP hD hS => ?_)
          refine lv_aload_n hx hb dX5_measure_31 rfl (lv_at hl 0 rfl) ?_
          refine va_get (D := (dC, dI)) (ci := 5) (v := .ref aMB) (C := RX5) (T := TX5) (N := 21) hx hb hts k1 hown hK hP 0 rfl rfl 16 (by decide) k5 (fun _ h9 => h9) rfl dX5_measure_32 ?_
          refine lv_iload_n hx hb dX5_measure_35 rfl (lv_at hl 1 rfl) ?_
          refine lv_iconst (v := -1) hx hb dX5_measure_36 (by decide) ?_
          obtain ⟨mB_6, e9, g⟩ := bd g
          refine q_iast (ws2 := wX5 cyI mo aMF aMT aMW aMU aMP aML aMM aMO aMR aMD aMB aMK mTh mNo mAr mS mG mQ mWa mPa mLa mF mT mW mU mP mL mM mO mR mD_5 mB_6 mK) hx hb hK hP hD hS 11 0 rfl rfl e9 dX5_measure_37 rfl (fun H locs hP hD hS => ?_)
          refine lv_iinc (v := x1_1 + 1) (lv' := [(1, .int (x1_1 + 1)), (0, .ref mo)]) hx hb dX5_measure_38 hl (k := 1) rfl (by rfl) (by decide) rfl (fun ls hl => ?_)
          refine lv_goto (tgt := 2) hx hb dX5_measure_41 (by decide) ?_
          cases g
          exact ih0 _ _ _ h _ _ hP hD hS _ (lv_sub hl [1, 0] rfl)
        · have g := ineg c9 g
          refine lv_iconst (v := 0) hx hb dX5_measure_24 (by decide) ?_
          refine lv_goto (tgt := 30) hx hb dX5_measure_25 (by decide) ?_
          obtain ⟨mD_7, e9, g⟩ := bd g
          refine q_iast (ws2 := wX5 cyI mo aMF aMT aMW aMU aMP aML aMM aMO aMR aMD aMB aMK mTh mNo mAr mS mG mQ mWa mPa mLa mF mT mW mU mP mL mM mO mR mD_7 mB_3 mK) hx hb hK hP hD hS 10 0 rfl rfl e9 dX5_measure_30 rfl (fun H locs hP hD hS => ?_)
          refine lv_aload_n hx hb dX5_measure_31 rfl (lv_at hl 0 rfl) ?_
          refine va_get (D := (dC, dI)) (ci := 5) (v := .ref aMB) (C := RX5) (T := TX5) (N := 21) hx hb hts k1 hown hK hP 0 rfl rfl 16 (by decide) k5 (fun _ h9 => h9) rfl dX5_measure_32 ?_
          refine lv_iload_n hx hb dX5_measure_35 rfl (lv_at hl 1 rfl) ?_
          refine lv_iconst (v := -1) hx hb dX5_measure_36 (by decide) ?_
          obtain ⟨mB_8, e9, g⟩ := bd g
          refine q_iast (ws2 := wX5 cyI mo aMF aMT aMW aMU aMP aML aMM aMO aMR aMD aMB aMK mTh mNo mAr mS mG mQ mWa mPa mLa mF mT mW mU mP mL mM mO mR mD_7 mB_8 mK) hx hb hK hP hD hS 11 0 rfl rfl e9 dX5_measure_37 rfl (fun H locs hP hD hS => ?_)
          refine lv_iinc (v := x1_1 + 1) (lv' := [(1, .int (x1_1 + 1)), (0, .ref mo)]) hx hb dX5_measure_38 hl (k := 1) rfl (by rfl) (by decide) rfl (fun ls hl => ?_)
          refine lv_goto (tgt := 2) hx hb dX5_measure_41 (by decide) ?_
          cases g
          exact ih0 _ _ _ h _ _ hP hD hS _ (lv_sub hl [1, 0] rfl)
  exact hL0 N _ _ _  e0 _ _ hP hD hS _ (lv_sub hl [1, 0] rfl)
set_option maxHeartbeats 4000000 in
set_option maxRecDepth 100000 in
theorem c_X5_send (l : Launch) (dC : Nat → ClassId) (dI : Nat → Nat → Nat) (cyI : ClassId) (mo aMF aMT aMW aMU aMP aML aMM aMO aMR aMD aMB aMK : Nat) (sz : Nat) (mTh mNo mAr mS mG mQ mWa mPa mLa : Int32) (mF mT mW mU mP mL mM mO mR mD mB mK : Nat → Int32) (p0 : Int32) (N : Nat) (res : (Nat → Int32) × (Nat → Int32)) (h : pX5_send N mF mT mO mR mB p0 = some res) : Met l yX5_send wsX5_send { frames := 0, cells := 0, slots := 0, locals := 0 } (va_Pc [.ref mo, .int p0] (zPre (dC, dI) (wX5 cyI mo aMF aMT aMW aMU aMP aML aMM aMO aMR aMD aMB aMK mTh mNo mAr mS mG mQ mWa mPa mLa mF mT mW mU mP mL mM mO mR mD mB mK) [(cyI, .int)] sz)) (zQv (dC, dI) (wX5 cyI mo aMF aMT aMW aMU aMP aML aMM aMO aMR aMD aMB aMK mTh mNo mAr mS mG mQ mWa mPa mLa mF mT mW mU mP mL mM res.1 res.2 mD mB mK) [(cyI, .int)] (va_A (wX5 cyI mo aMF aMT aMW aMU aMP aML aMM aMO aMR aMD aMB aMK mTh mNo mAr mS mG mQ mWa mPa mLa mF mT mW mU mP mL mM mO mR mD mB mK) sz)) 0 0 (va_A (wX5 cyI mo aMF aMT aMW aMU aMP aML aMM aMO aMR aMD aMB aMK mTh mNo mAr mS mG mQ mWa mPa mLa mF mT mW mU mP mL mM mO mR mD mB mK) sz) := by
  refine q_ofWv (cc := cX5_send) (maxL := 5) (rt := none) (by decide) rfl (Nat.le_of_ble_eq_true rfl) ?_
  intro p e s m args below meth c ls A Q H locs hQ hx hb hr hts hown hlocks hml hA hK hP hD hS hl
  have hl : lv_has ls 5 [(0, .ref mo), (1, .int p0)] := hl
  have k0 := hts (.fieldLink RX5 38 "ConvexConduitModel" "rest" "[I") (by decide +kernel)
  have k1 : ∀ w ∈ u_ws RX5 TX5 21, w ∈ wsX5_send := by decide +kernel
  have k2 := hts (.fieldLink RX5 44 "ConvexConduitModel" "over" "[I") (by decide +kernel)
  have k3 := hts (.fieldLink RX5 35 "ConvexConduitModel" "on" "[I") (by decide +kernel)
  have k4 := hts (.fieldLink RX5 7 "ConvexConduitModel" "froms" "[I") (by decide +kernel)
  have k5 := hts (.fieldLink RX5 13 "ConvexConduitModel" "tos" "[I") (by decide +kernel)
  unfold pX5_send at h
  refine lv_iload_n hx hb dX5_send_0 rfl (lv_at hl 1 rfl) ?_
  refine lv_istore_n (lv' := [(2, .int p0), (0, .ref mo), (1, .int p0)]) hx hb dX5_send_1 rfl hl (by decide) rfl (fun ls hl => ?_)
  refine lv_aload_n hx hb dX5_send_2 rfl (lv_at hl 1 rfl) ?_
  refine va_get (D := (dC, dI)) (ci := 5) (v := .ref aMR) (C := RX5) (T := TX5) (N := 21) hx hb hts k1 hown hK hP 0 rfl rfl 14 (by decide) k0 (fun _ h9 => h9) rfl dX5_send_3 ?_
  refine lv_iload_n hx hb dX5_send_6 rfl (lv_at hl 2 rfl) ?_
  refine lv_dup2_11 hx hb dX5_send_7 rfl rfl ?_
  obtain ⟨t1, e9, h⟩ := bd h
  refine q_iald hx hb hK hP 9 0 rfl rfl e9 dX5_send_8 ?_
  refine lv_iconst (v := 1) hx hb dX5_send_9 (by decide) ?_
  refine lv_iadd hx hb dX5_send_10 ?_
  obtain ⟨mR_2, e9, h⟩ := bd h
  refine q_iast (ws2 := wX5 cyI mo aMF aMT aMW aMU aMP aML aMM aMO aMR aMD aMB aMK mTh mNo mAr mS mG mQ mWa mPa mLa mF mT mW mU mP mL mM mO mR_2 mD mB mK) hx hb hK hP hD hS 9 0 rfl rfl e9 dX5_send_11 rfl (fun H locs hP hD hS => ?_)
  obtain ⟨x2_14, mO_15, e0, h⟩ := bd2 h
  have hT0 : ∀ (H : Heap) (locs : List Loc), va_P (dC, dI) vwCl (wX5 cyI mo aMF aMT aMW aMU aMP aML aMM aMO aMR aMD aMB aMK mTh mNo mAr mS mG mQ mWa mPa mLa mF mT mW mU mP mL mM mO_15 mR_2 mD mB mK) H → va_D A (wX5 cyI mo aMF aMT aMW aMU aMP aML aMM aMO aMR aMD aMB aMK mTh mNo mAr mS mG mQ mWa mPa mLa mF mT mW mU mP mL mM mO_15 mR_2 mD mB mK) → va_S A s.heap H locs → ∀ ls : Array Slot, lv_has ls 5 [(0, .ref mo), (1, .int p0), (2, .int x2_14)] → W p l e { frames := 0, cells := 0, slots := 0, locals := 0 } s m args below meth c H locs 0 0 Q (F0 m 93 ls []) := by
    intro H locs hP hD hS ls hl
    refine lv_aload_n hx hb dX5_send_93 rfl (lv_at hl 0 rfl) ?_
    refine va_get (D := (dC, dI)) (ci := 5) (v := .ref aMR) (C := RX5) (T := TX5) (N := 21) hx hb hts k1 hown hK hP 0 rfl rfl 14 (by decide) k0 (fun _ h9 => h9) rfl dX5_send_94 ?_
    refine lv_iload_n hx hb dX5_send_97 rfl (lv_at hl 2 rfl) ?_
    refine lv_dup2_11 hx hb dX5_send_98 rfl rfl ?_
    obtain ⟨t16, e9, h⟩ := bd h
    refine q_iald hx hb hK hP 9 0 rfl rfl e9 dX5_send_99 ?_
    refine lv_iconst (v := 1) hx hb dX5_send_100 (by decide) ?_
    refine lv_isub hx hb dX5_send_101 ?_
    obtain ⟨mR_17, e9, h⟩ := bd h
    refine q_iast (ws2 := wX5 cyI mo aMF aMT aMW aMU aMP aML aMM aMO aMR aMD aMB aMK mTh mNo mAr mS mG mQ mWa mPa mLa mF mT mW mU mP mL mM mO_15 mR_17 mD mB mK) hx hb hK hP hD hS 9 0 rfl rfl e9 dX5_send_102 rfl (fun H locs hP hD hS => ?_)
    cases h
    exact q_vret hQ hx hb hr hlocks hP hK hD hS dX5_send_103
  have hL0 : ∀ (n9 : Nat) (x2_3 : Int32) (mO_4 : Nat → Int32), lp (un2 (pX5_send_l12 mB mF mT)) n9 ((x2_3, mO_4)) = some ((x2_14, mO_15)) → ∀ (H : Heap) (locs : List Loc), va_P (dC, dI) vwCl (wX5 cyI mo aMF aMT aMW aMU aMP aML aMM aMO aMR aMD aMB aMK mTh mNo mAr mS mG mQ mWa mPa mLa mF mT mW mU mP mL mM mO_4 mR_2 mD mB mK) H → va_D A (wX5 cyI mo aMF aMT aMW aMU aMP aML aMM aMO aMR aMD aMB aMK mTh mNo mAr mS mG mQ mWa mPa mLa mF mT mW mU mP mL mM mO_4 mR_2 mD mB mK) → va_S A s.heap H locs → ∀ ls : Array Slot, lv_has ls 5 [(0, .ref mo), (1, .int p0), (2, .int x2_3)] → W p l e { frames := 0, cells := 0, slots := 0, locals := 0 } s m args below meth c H locs 0 0 Q (F0 m 12 ls []) := by
    intro n9
    induction n9 with
    | zero =>
      intro x2_3 mO_4 h
      exact lp0 h
    | succ n9 ih0 =>
      intro x2_3 mO_4 h H locs hP hD hS ls hl
      obtain ⟨o9, g, h⟩ := lps h
      replace g : pX5_send_l12 mB mF mT x2_3 mO_4 = some o9 := g
      unfold pX5_send_l12 at g
      refine lv_aload_n hx hb dX5_send_12 rfl (lv_at hl 0 rfl) ?_
      refine va_get (D := (dC, dI)) (ci := 5) (v := .ref aMB) (C := RX5) (T := TX5) (N := 21) hx hb hts k1 hown hK hP 0 rfl rfl 16 (by decide) k2 (fun _ h9 => h9) rfl dX5_send_13 ?_
      refine lv_iload_n hx hb dX5_send_16 rfl (lv_at hl 2 rfl) ?_
      obtain ⟨t5, e9, g⟩ := bd g
      refine q_iald hx hb hK hP 11 0 rfl rfl e9 dX5_send_17 ?_
      refine lv_iconst (v := -1) hx hb dX5_send_18 (by decide) ?_
      refine lv_icmp_eq (tgt := 93) hx hb dX5_send_19 (by decide) (fun c9 => ?_) (fun c9 => ?_)
      · have g := ipos c9 g
        cases g
        have h := lpx h
        cases h
        exact hT0 _ _ hP hD hS _ (lv_sub hl [0, 1, 2] rfl)
      · have g := ineg c9 g
        refine lv_aload_n hx hb dX5_send_22 rfl (lv_at hl 0 rfl) ?_
        refine va_get (D := (dC, dI)) (ci := 5) (v := .ref aMB) (C := RX5) (T := TX5) (N := 21) hx hb hts k1 hown hK hP 0 rfl rfl 16 (by decide) k2 (fun _ h9 => h9) rfl dX5_send_23 ?_
        refine lv_iload_n hx hb dX5_send_26 rfl (lv_at hl 2 rfl) ?_
        obtain ⟨t6, e9, g⟩ := bd g
        refine q_iald hx hb hK hP 11 0 rfl rfl e9 dX5_send_27 ?_
        refine lv_iconst (v := 2) hx hb dX5_send_28 (by decide) ?_
        refine lv_idiv hx hb dX5_send_29 (by decide) ?_
        refine lv_istore_n (lv' := [(3, .int (t6 / 2)), (0, .ref mo), (1, .int p0), (2, .int x2_3)]) hx hb dX5_send_30 rfl hl (by decide) rfl (fun ls hl => ?_)
        refine lv_aload_n hx hb dX5_send_31 rfl (lv_at hl 1 rfl) ?_
        refine va_get (D := (dC, dI)) (ci := 5) (v := .ref aMB) (C := RX5) (T := TX5) (N := 21) hx hb hts k1 hown hK hP 0 rfl rfl 16 (by decide) k2 (fun _ h9 => h9) rfl dX5_send_32 ?_
        refine lv_iload_n hx hb dX5_send_35 rfl (lv_at hl 3 rfl) ?_
        obtain ⟨t7, e9, g⟩ := bd g
        refine q_iald hx hb hK hP 11 0 rfl rfl e9 dX5_send_36 ?_
        refine lv_iconst (v := 2) hx hb dX5_send_37 (by decide) ?_
        refine lv_irem hx hb dX5_send_38 (by decide) ?_
        refine lv_iconst (v := 1) hx hb dX5_send_39 (by decide) ?_
        refine lv_icmp_ne (tgt := 47) hx hb dX5_send_40 (by decide) (fun c9 => ?_) (fun c9 => ?_)
        · have g := ineg c9 g
          refine lv_iconst (v := 0) hx hb dX5_send_47 (by decide) ?_
          refine lv_istore (lv' := [(4, .int 0), (3, .int (t6 / 2)), (0, .ref mo), (1, .int p0), (2, .int x2_3)]) hx hb dX5_send_48 hl (by decide) rfl (fun ls hl => ?_)
          refine lv_aload_n hx hb dX5_send_50 rfl (lv_at hl 2 rfl) ?_
          refine va_get (D := (dC, dI)) (ci := 5) (v := .ref aMO) (C := RX5) (T := TX5) (N := 21) hx hb hts k1 hown hK hP 0 rfl rfl 13 (by decide) k3 (fun _ h9 => h9) rfl dX5_send_51 ?_
          refine lv_iload_n hx hb dX5_send_54 rfl (lv_at hl 1 rfl) ?_
          refine lv_dup2_11 hx hb dX5_send_55 rfl rfl ?_
          obtain ⟨t8, e9, g⟩ := bd g
          refine q_iald hx hb hK hP 8 0 rfl rfl e9 dX5_send_56 ?_
          refine lv_iload hx hb dX5_send_57 (lv_at hl 0 rfl) ?_
          refine lv_if_eq (tgt := 66) hx hb dX5_send_59 (by decide) (fun _ => ?_) (fun c9 => absurd (by decide) c9)
          refine lv_iconst (v := 1) hx hb dX5_send_66 (by decide) ?_
          refine lv_iadd hx hb dX5_send_67 ?_
          obtain ⟨mO_9, e9, g⟩ := bd g
          refine q_iast (ws2 := wX5 cyI mo aMF aMT aMW aMU aMP aML aMM aMO aMR aMD aMB aMK mTh mNo mAr mS mG mQ mWa mPa mLa mF mT mW mU mP mL mM mO_9 mR_2 mD mB mK) hx hb hK hP hD hS 8 0 rfl rfl e9 dX5_send_68 rfl (fun H locs hP hD hS => ?_)
          refine lv_iload hx hb dX5_send_69 (lv_at hl 0 rfl) ?_
          refine lv_if_eq (tgt := 83) hx hb dX5_send_71 (by decide) (fun _ => ?_) (fun c9 => absurd (by decide) c9)
          refine lv_aload_n hx hb dX5_send_83 rfl (lv_at hl 2 rfl) ?_
          refine va_get (D := (dC, dI)) (ci := 5) (v := .ref aMF) (C := RX5) (T := TX5) (N := 21) hx hb hts k1 hown hK hP 0 rfl rfl 3 (by decide) k4 (fun _ h9 => h9) rfl dX5_send_84 ?_
          refine lv_iload_n hx hb dX5_send_87 rfl (lv_at hl 1 rfl) ?_
          obtain ⟨t10, e9, g⟩ := bd g
          refine q_iald hx hb hK hP 1 0 rfl rfl e9 dX5_send_88 ?_
          refine lv_istore_n (lv' := [(2, .int t10), (4, .int 0), (3, .int (t6 / 2)), (0, .ref mo), (1, .int p0)]) hx hb dX5_send_89 rfl hl (by decide) rfl (fun ls hl => ?_)
          refine lv_goto (tgt := 12) hx hb dX5_send_90 (by decide) ?_
          cases g
          exact ih0 _ _ h _ _ hP hD hS _ (lv_sub hl [3, 4, 0] rfl)
        · have g := ipos c9 g
          refine lv_iconst (v := 1) hx hb dX5_send_43 (by decide) ?_
          refine lv_goto (tgt := 48) hx hb dX5_send_44 (by decide) ?_
          refine lv_istore (lv' := [(4, .int 1), (3, .int (t6 / 2)), (0, .ref mo), (1, .int p0), (2, .int x2_3)]) hx hb dX5_send_48 hl (by decide) rfl (fun ls hl => ?_)
          refine lv_aload_n hx hb dX5_send_50 rfl (lv_at hl 2 rfl) ?_
          refine va_get (D := (dC, dI)) (ci := 5) (v := .ref aMO) (C := RX5) (T := TX5) (N := 21) hx hb hts k1 hown hK hP 0 rfl rfl 13 (by decide) k3 (fun _ h9 => h9) rfl dX5_send_51 ?_
          refine lv_iload_n hx hb dX5_send_54 rfl (lv_at hl 1 rfl) ?_
          refine lv_dup2_11 hx hb dX5_send_55 rfl rfl ?_
          obtain ⟨t11, e9, g⟩ := bd g
          refine q_iald hx hb hK hP 8 0 rfl rfl e9 dX5_send_56 ?_
          refine lv_iload hx hb dX5_send_57 (lv_at hl 0 rfl) ?_
          refine lv_if_eq (tgt := 66) hx hb dX5_send_59 (by decide) (fun c9 => absurd c9 (by decide)) (fun _ => ?_)
          refine lv_iconst (v := -1) hx hb dX5_send_62 (by decide) ?_
          refine lv_goto (tgt := 67) hx hb dX5_send_63 (by decide) ?_
          refine lv_iadd hx hb dX5_send_67 ?_
          obtain ⟨mO_12, e9, g⟩ := bd g
          refine q_iast (ws2 := wX5 cyI mo aMF aMT aMW aMU aMP aML aMM aMO aMR aMD aMB aMK mTh mNo mAr mS mG mQ mWa mPa mLa mF mT mW mU mP mL mM mO_12 mR_2 mD mB mK) hx hb hK hP hD hS 8 0 rfl rfl e9 dX5_send_68 rfl (fun H locs hP hD hS => ?_)
          refine lv_iload hx hb dX5_send_69 (lv_at hl 0 rfl) ?_
          refine lv_if_eq (tgt := 83) hx hb dX5_send_71 (by decide) (fun c9 => absurd c9 (by decide)) (fun _ => ?_)
          refine lv_aload_n hx hb dX5_send_74 rfl (lv_at hl 2 rfl) ?_
          refine va_get (D := (dC, dI)) (ci := 5) (v := .ref aMT) (C := RX5) (T := TX5) (N := 21) hx hb hts k1 hown hK hP 0 rfl rfl 4 (by decide) k5 (fun _ h9 => h9) rfl dX5_send_75 ?_
          refine lv_iload_n hx hb dX5_send_78 rfl (lv_at hl 1 rfl) ?_
          obtain ⟨t13, e9, g⟩ := bd g
          refine q_iald hx hb hK hP 2 0 rfl rfl e9 dX5_send_79 ?_
          refine lv_goto (tgt := 89) hx hb dX5_send_80 (by decide) ?_
          refine lv_istore_n (lv' := [(2, .int t13), (4, .int 1), (3, .int (t6 / 2)), (0, .ref mo), (1, .int p0)]) hx hb dX5_send_89 rfl hl (by decide) rfl (fun ls hl => ?_)
          refine lv_goto (tgt := 12) hx hb dX5_send_90 (by decide) ?_
          cases g
          exact ih0 _ _ h _ _ hP hD hS _ (lv_sub hl [3, 4, 0] rfl)
  exact hL0 N _ _  e0 _ _ hP hD hS _ (lv_sub hl [1, 2, 0] rfl)
set_option maxHeartbeats 4000000 in
set_option maxRecDepth 100000 in
theorem c_X5_cheapest (l : Launch) (dC : Nat → ClassId) (dI : Nat → Nat → Nat) (cyI : ClassId) (mo aMF aMT aMW aMU aMP aML aMM aMO aMR aMD aMB aMK : Nat) (sz : Nat) (mTh mNo mAr mS mG mQ mWa mPa mLa : Int32) (mF mT mW mU mP mL mM mO mR mD mB mK : Nat → Int32) (p0 p1 : Int32) (N : Nat) (res : Int32 × (Nat → Int32) × (Nat → Int32) × (Nat → Int32) × (Nat → Int32)) (h : pX5_cheapest N mNo mAr mS mG mF mT mW mU mL mM mO mR mD mB p0 p1 = some res) : Met l yX5_cheapest wsX5_cheapest { frames := 2, cells := 0, slots := 0, locals := 49 } (va_Pc [.ref mo, .int p0, .int p1] (zPre (dC, dI) (wX5 cyI mo aMF aMT aMW aMU aMP aML aMM aMO aMR aMD aMB aMK mTh mNo mAr mS mG mQ mWa mPa mLa mF mT mW mU mP mL mM mO mR mD mB mK) [(cyI, .int)] sz)) (zQi (dC, dI) (wX5 cyI mo aMF aMT aMW aMU aMP aML aMM aMO aMR aMD aMB aMK mTh mNo mAr mS mG mQ mWa mPa mLa mF mT mW mU mP mL mM res.2.1 res.2.2.1 res.2.2.2.1 res.2.2.2.2 mK) [(cyI, .int)] (res.1) (va_A (wX5 cyI mo aMF aMT aMW aMU aMP aML aMM aMO aMR aMD aMB aMK mTh mNo mAr mS mG mQ mWa mPa mLa mF mT mW mU mP mL mM mO mR mD mB mK) sz)) 0 0 (va_A (wX5 cyI mo aMF aMT aMW aMU aMP aML aMM aMO aMR aMD aMB aMK mTh mNo mAr mS mG mQ mWa mPa mLa mF mT mW mU mP mL mM mO mR mD mB mK) sz) := by
  refine q_ofWi (cc := cX5_cheapest) (maxL := 8) (rt := (some .int)) (by decide) rfl (Nat.le_of_ble_eq_true rfl) ?_
  intro p e s m args below meth c ls A Q H locs hQ hx hb hr hts hown hlocks hml hA hK hP hD hS hl
  have hl : lv_has ls 8 [(0, .ref mo), (1, .int p0), (2, .int p1)] := hl
  have k0 := hts (.fieldLink RX5 50 "ConvexConduitModel" "nodes" "I") (by decide +kernel)
  have k1 : ∀ w ∈ u_ws RX5 TX5 21, w ∈ wsX5_cheapest := by decide +kernel
  have k2 := hts (.fieldLink RX5 38 "ConvexConduitModel" "rest" "[I") (by decide +kernel)
  have k3 := hts (.fieldLink RX5 41 "ConvexConduitModel" "far" "[I") (by decide +kernel)
  have k4 := hts (.constant RX5 91 (1000000)) (by decide +kernel)
  unfold pX5_cheapest at h
  refine lv_aload_n hx hb dX5_cheapest_0 rfl (lv_at hl 0 rfl) ?_
  refine lv_iload_n hx hb dX5_cheapest_1 rfl (lv_at hl 1 rfl) ?_
  refine lv_iload_n hx hb dX5_cheapest_2 rfl (lv_at hl 2 rfl) ?_
  obtain ⟨r1, mO_2, mR_3, e9, h⟩ := bd3 h
  refine q_callVi (ret := r1) (As := [.int p0, .int p1]) (w1 := wX5 cyI mo aMF aMT aMW aMU aMP aML aMM aMO aMR aMD aMB aMK mTh mNo mAr mS mG mQ mWa mPa mLa mF mT mW mU mP mL mM mO_2 mR_3 mD mB mK) (ws2 := wX5 cyI mo aMF aMT aMW aMU aMP aML aMM aMO aMR aMD aMB aMK mTh mNo mAr mS mG mQ mWa mPa mLa mF mT mW mU mP mL mM mO_2 mR_3 mD mB mK) ⟨hx, hb, hml, hown, hts⟩ (c_X5_begin l dC dI cyI mo aMF aMT aMW aMU aMP aML aMM aMO aMR aMD aMB aMK H.size mTh mNo mAr mS mG mQ mWa mPa mLa mF mT mW mU mP mL mM mO mR mD mB mK p0 p1 N _ e9) (cwV 2 hts gX5_cheapest_X5_begin rfl rfl rfl (by decide +kernel) ⟨Nat.le_of_ble_eq_true rfl, Nat.le_of_ble_eq_true rfl⟩) hK hP hD hS hA [0, 1, 2, 3, 4, 5, 6, 7, 8, 9, 10, 11, 12] [] [0, 1, 2, 3, 4, 5, 6, 7, 8, 9, 10, 11, 12] [0] rfl rfl rfl rfl (by decide) rfl rfl rfl 5 0 rfl rfl rfl hl.1 (Nat.le_of_ble_eq_true rfl) (Nat.le_of_ble_eq_true rfl) (Nat.le_of_ble_eq_true rfl) rfl dX5_cheapest_3 (fun H locs hP hD hS => ?_)
  refine lv_istore_n (lv' := [(3, .int r1), (0, .ref mo), (1, .int p0), (2, .int p1)]) hx hb dX5_cheapest_6 rfl hl (by decide) rfl (fun ls hl => ?_)
  refine lv_iconst (v := 1) hx hb dX5_cheapest_7 (by decide) ?_
  refine lv_istore (lv' := [(4, .int 1), (3, .int r1), (0, .ref mo), (1, .int p0), (2, .int p1)]) hx hb dX5_cheapest_8 hl (by decide) rfl (fun ls hl => ?_)
  obtain ⟨o0, e0, h8⟩ := bd h
  have hT0 : ∀ (x3_37 : Int32) (x4_38 : Int32) (mO_39 : Nat → Int32) (mR_40 : Nat → Int32) (mD_41 : Nat → Int32) (mB_42 : Nat → Int32), o0 = .inl ((x3_37, x4_38, mO_39, mR_40, mD_41, mB_42)) → ∀ (H : Heap) (locs : List Loc), va_P (dC, dI) vwCl (wX5 cyI mo aMF aMT aMW aMU aMP aML aMM aMO aMR aMD aMB aMK mTh mNo mAr mS mG mQ mWa mPa mLa mF mT mW mU mP mL mM mO_39 mR_40 mD_41 mB_42 mK) H → va_D A (wX5 cyI mo aMF aMT aMW aMU aMP aML aMM aMO aMR aMD aMB aMK mTh mNo mAr mS mG mQ mWa mPa mLa mF mT mW mU mP mL mM mO_39 mR_40 mD_41 mB_42 mK) → va_S A s.heap H locs → ∀ ls : Array Slot, lv_has ls 8 [(0, .ref mo), (1, .int p0), (2, .int p1), (3, .int x3_37), (4, .int x4_38)] → W p l e { frames := 2, cells := 0, slots := 0, locals := 49 } s m args below meth c H locs 0 0 Q (F0 m 170 ls []) := by
    intro x3_37 x4_38 mO_39 mR_40 mD_41 mB_42 ho H locs hP hD hS ls hl
    rw [ho] at h8
    have h := h8
    refine lv_iload_n hx hb dX5_cheapest_170 rfl (lv_at hl 3 rfl) ?_
    cases h
    exact q_iret hQ hx hb hr hlocks hP hK hD hS dX5_cheapest_171
  have hL0 : ∀ (n9 : Nat) (x3_4 : Int32) (x4_5 : Int32) (mO_6 : Nat → Int32) (mR_7 : Nat → Int32) (mD_8 : Nat → Int32) (mB_9 : Nat → Int32), lp (un6 (pX5_cheapest_l10 N mAr mF mL mM mNo mT mU mW)) n9 ((x3_4, x4_5, mO_6, mR_7, mD_8, mB_9)) = some o0 → ∀ (H : Heap) (locs : List Loc), va_P (dC, dI) vwCl (wX5 cyI mo aMF aMT aMW aMU aMP aML aMM aMO aMR aMD aMB aMK mTh mNo mAr mS mG mQ mWa mPa mLa mF mT mW mU mP mL mM mO_6 mR_7 mD_8 mB_9 mK) H → va_D A (wX5 cyI mo aMF aMT aMW aMU aMP aML aMM aMO aMR aMD aMB aMK mTh mNo mAr mS mG mQ mWa mPa mLa mF mT mW mU mP mL mM mO_6 mR_7 mD_8 mB_9 mK) → va_S A s.heap H locs → ∀ ls : Array Slot, lv_has ls 8 [(0, .ref mo), (1, .int p0), (2, .int p1), (3, .int x3_4), (4, .int x4_5)] → W p l e { frames := 2, cells := 0, slots := 0, locals := 49 } s m args below meth c H locs 0 0 Q (F0 m 10 ls []) := by
    intro n9
    induction n9 with
    | zero =>
      intro x3_4 x4_5 mO_6 mR_7 mD_8 mB_9 h
      exact lp0 h
    | succ n9 ih0 =>
      intro x3_4 x4_5 mO_6 mR_7 mD_8 mB_9 h H locs hP hD hS ls hl
      obtain ⟨o9, g, h⟩ := lps h
      replace g : pX5_cheapest_l10 N mAr mF mL mM mNo mT mU mW x3_4 x4_5 mO_6 mR_7 mD_8 mB_9 = some o9 := g
      unfold pX5_cheapest_l10 at g
      refine lv_iload hx hb dX5_cheapest_10 (lv_at hl 4 rfl) ?_
      refine lv_if_eq (tgt := 170) hx hb dX5_cheapest_12 (by decide) (fun c9 => ?_) (fun c9 => ?_)
      · have g := ipos c9 g
        cases g
        have h := lpx h
        subst h
        exact hT0 _ _ _ _ _ _ rfl _ _ hP hD hS _ (lv_sub hl [0, 1, 2, 3, 4] rfl)
      · have g := ineg c9 g
        refine lv_aload_n hx hb dX5_cheapest_15 rfl (lv_at hl 0 rfl) ?_
        obtain ⟨mD_10, mB_11, e9, g⟩ := bd2 g
        refine q_callVv (As := []) (w1 := wX5 cyI mo aMF aMT aMW aMU aMP aML aMM aMO aMR aMD aMB aMK mTh mNo mAr mS mG mQ mWa mPa mLa mF mT mW mU mP mL mM mO_6 mR_7 mD_10 mB_11 mK) (ws2 := wX5 cyI mo aMF aMT aMW aMU aMP aML aMM aMO aMR aMD aMB aMK mTh mNo mAr mS mG mQ mWa mPa mLa mF mT mW mU mP mL mM mO_6 mR_7 mD_10 mB_11 mK) ⟨hx, hb, hml, hown, hts⟩ (c_X5_measure l dC dI cyI mo aMF aMT aMW aMU aMP aML aMM aMO aMR aMD aMB aMK H.size mTh mNo mAr mS mG mQ mWa mPa mLa mF mT mW mU mP mL mM mO_6 mR_7 mD_8 mB_9 mK N _ e9) (cwV 0 hts gX5_cheapest_X5_measure rfl rfl rfl (by decide +kernel) ⟨Nat.le_of_ble_eq_true rfl, Nat.le_of_ble_eq_true rfl⟩) hK hP hD hS hA [0, 1, 2, 3, 4, 5, 6, 7, 8, 9, 10, 11, 12] [] [0, 1, 2, 3, 4, 5, 6, 7, 8, 9, 10, 11, 12] [0] rfl rfl rfl rfl (by decide) rfl rfl rfl 5 0 rfl rfl rfl hl.1 (Nat.le_of_ble_eq_true rfl) (Nat.le_of_ble_eq_true rfl) (Nat.le_of_ble_eq_true rfl) rfl dX5_cheapest_16 (fun H locs hP hD hS => ?_)
        refine lv_iconst (v := -1) hx hb dX5_cheapest_19 (by decide) ?_
        refine lv_istore (lv' := [(5, .int ((-1))), (0, .ref mo), (1, .int p0), (2, .int p1), (3, .int x3_4), (4, .int x4_5)]) hx hb dX5_cheapest_20 hl (by decide) rfl (fun ls hl => ?_)
        refine lv_iconst (v := 0) hx hb dX5_cheapest_22 (by decide) ?_
        refine lv_istore (lv' := [(6, .int 0), (5, .int ((-1))), (0, .ref mo), (1, .int p0), (2, .int p1), (3, .int x3_4), (4, .int x4_5)]) hx hb dX5_cheapest_23 hl (by decide) rfl (fun ls hl => ?_)
        refine lv_iconst (v := 0) hx hb dX5_cheapest_25 (by decide) ?_
        refine lv_istore (lv' := [(7, .int 0), (6, .int 0), (5, .int ((-1))), (0, .ref mo), (1, .int p0), (2, .int p1), (3, .int x3_4), (4, .int x4_5)]) hx hb dX5_cheapest_26 hl (by decide) rfl (fun ls hl => ?_)
        obtain ⟨x5_28, x6_29, x7_30, e1, g⟩ := bd3 g
        have hT1 : ∀ (H : Heap) (locs : List Loc), va_P (dC, dI) vwCl (wX5 cyI mo aMF aMT aMW aMU aMP aML aMM aMO aMR aMD aMB aMK mTh mNo mAr mS mG mQ mWa mPa mLa mF mT mW mU mP mL mM mO_6 mR_7 mD_10 mB_11 mK) H → va_D A (wX5 cyI mo aMF aMT aMW aMU aMP aML aMM aMO aMR aMD aMB aMK mTh mNo mAr mS mG mQ mWa mPa mLa mF mT mW mU mP mL mM mO_6 mR_7 mD_10 mB_11 mK) → va_S A s.heap H locs → ∀ ls : Array Slot, lv_has ls 8 [(0, .ref mo), (1, .int p0), (2, .int p1), (3, .int x3_4), (4, .int x4_5), (5, .int x5_28), (6, .int x6_29), (7, .int x7_30)] → W p l e { frames := 2, cells := 0, slots := 0, locals := 49 } s m args below meth c H locs 0 0 Q (F0 m 119 ls []) := by
          intro H locs hP hD hS ls hl
          refine lv_iload hx hb dX5_cheapest_119 (lv_at hl 6 rfl) ?_
          refine lv_if_eq (tgt := 133) hx hb dX5_cheapest_121 (by decide) (fun c9 => ?_) (fun c9 => ?_)
          · have g := ipos c9 g
            refine lv_iload hx hb dX5_cheapest_133 (lv_at hl 5 rfl) ?_
            refine lv_iconst (v := -1) hx hb dX5_cheapest_135 (by decide) ?_
            refine lv_icmp_eq (tgt := 143) hx hb dX5_cheapest_136 (by decide) (fun c9 => ?_) (fun c9 => ?_)
            · have g := ipos c9 g
              refine lv_iconst (v := 0) hx hb dX5_cheapest_143 (by decide) ?_
              refine lv_istore (lv' := [(4, .int 0), (0, .ref mo), (1, .int p0), (2, .int p1), (3, .int x3_4), (5, .int x5_28), (6, .int x6_29), (7, .int x7_30)]) hx hb dX5_cheapest_144 hl (by decide) rfl (fun ls hl => ?_)
              refine lv_iload hx hb dX5_cheapest_146 (lv_at hl 0 rfl) ?_
              refine lv_if_eq (tgt := 167) hx hb dX5_cheapest_148 (by decide) (fun _ => ?_) (fun c9 => absurd (by decide) c9)
              refine lv_goto (tgt := 10) hx hb dX5_cheapest_167 (by decide) ?_
              cases g
              exact ih0 _ _ _ _ _ _ h _ _ hP hD hS _ (lv_sub hl [1, 2, 3, 4, 0] rfl)
            · have g := ineg c9 g
              refine lv_iconst (v := 1) hx hb dX5_cheapest_139 (by decide) ?_
              refine lv_goto (tgt := 144) hx hb dX5_cheapest_140 (by decide) ?_
              refine lv_istore (lv' := [(4, .int 1), (0, .ref mo), (1, .int p0), (2, .int p1), (3, .int x3_4), (5, .int x5_28), (6, .int x6_29), (7, .int x7_30)]) hx hb dX5_cheapest_144 hl (by decide) rfl (fun ls hl => ?_)
              refine lv_iload hx hb dX5_cheapest_146 (lv_at hl 0 rfl) ?_
              refine lv_if_eq (tgt := 167) hx hb dX5_cheapest_148 (by decide) (fun c9 => absurd c9 (by decide)) (fun _ => ?_)
              refine lv_iload_n hx hb dX5_cheapest_151 rfl (lv_at hl 4 rfl) ?_
              refine lv_aload_n hx hb dX5_cheapest_152 rfl (lv_at hl 1 rfl) ?_
              refine va_get (D := (dC, dI)) (ci := 5) (v := .ref aMD) (C := RX5) (T := TX5) (N := 21) hx hb hts k1 hown hK hP 0 rfl rfl 15 (by decide) k3 (fun _ h9 => h9) rfl dX5_cheapest_153 ?_
              refine lv_iload hx hb dX5_cheapest_156 (lv_at hl 5 rfl) ?_
              obtain ⟨t31, e9, g⟩ := bd g
              refine q_iald hx hb hK hP 10 0 rfl rfl e9 dX5_cheapest_158 ?_
              refine lv_iadd hx hb dX5_cheapest_159 ?_
              refine lv_istore_n (lv' := [(3, .int (x3_4 + t31)), (4, .int 1), (0, .ref mo), (1, .int p0), (2, .int p1), (5, .int x5_28), (6, .int x6_29), (7, .int x7_30)]) hx hb dX5_cheapest_160 rfl hl (by decide) rfl (fun ls hl => ?_)
              refine lv_aload_n hx hb dX5_cheapest_161 rfl (lv_at hl 2 rfl) ?_
              refine lv_iload hx hb dX5_cheapest_162 (lv_at hl 5 rfl) ?_
              obtain ⟨mO_32, mR_33, e9, g⟩ := bd2 g
              refine q_callVv (As := [.int x5_28]) (w1 := wX5 cyI mo aMF aMT aMW aMU aMP aML aMM aMO aMR aMD aMB aMK mTh mNo mAr mS mG mQ mWa mPa mLa mF mT mW mU mP mL mM mO_32 mR_33 mD_10 mB_11 mK) (ws2 := wX5 cyI mo aMF aMT aMW aMU aMP aML aMM aMO aMR aMD aMB aMK mTh mNo mAr mS mG mQ mWa mPa mLa mF mT mW mU mP mL mM mO_32 mR_33 mD_10 mB_11 mK) ⟨hx, hb, hml, hown, hts⟩ (c_X5_send l dC dI cyI mo aMF aMT aMW aMU aMP aML aMM aMO aMR aMD aMB aMK H.size mTh mNo mAr mS mG mQ mWa mPa mLa mF mT mW mU mP mL mM mO_6 mR_7 mD_10 mB_11 mK x5_28 N _ e9) (cwV 1 hts gX5_cheapest_X5_send rfl rfl rfl (by decide +kernel) ⟨Nat.le_of_ble_eq_true rfl, Nat.le_of_ble_eq_true rfl⟩) hK hP hD hS hA [0, 1, 2, 3, 4, 5, 6, 7, 8, 9, 10, 11, 12] [] [0, 1, 2, 3, 4, 5, 6, 7, 8, 9, 10, 11, 12] [0] rfl rfl rfl rfl (by decide) rfl rfl rfl 5 0 rfl rfl rfl hl.1 (Nat.le_of_ble_eq_true rfl) (Nat.le_of_ble_eq_true rfl) (Nat.le_of_ble_eq_true rfl) rfl dX5_cheapest_164 (fun H locs hP hD hS => ?_)
              refine lv_goto (tgt := 10) hx hb dX5_cheapest_167 (by decide) ?_
              cases g
              exact ih0 _ _ _ _ _ _ h _ _ hP hD hS _ (lv_sub hl [2, 3, 4, 0, 1] rfl)
          · have g := ineg c9 g
            refine lv_iload hx hb dX5_cheapest_124 (lv_at hl 5 rfl) ?_
            refine lv_iconst (v := -1) hx hb dX5_cheapest_126 (by decide) ?_
            refine lv_icmp_ne (tgt := 133) hx hb dX5_cheapest_127 (by decide) (fun c9 => ?_) (fun c9 => ?_)
            · have g := ineg c9 g
              refine lv_iload hx hb dX5_cheapest_133 (lv_at hl 5 rfl) ?_
              refine lv_iconst (v := -1) hx hb dX5_cheapest_135 (by decide) ?_
              refine lv_icmp_eq (tgt := 143) hx hb dX5_cheapest_136 (by decide) (fun c9 => ?_) (fun c9 => ?_)
              · have g := ipos c9 g
                refine lv_iconst (v := 0) hx hb dX5_cheapest_143 (by decide) ?_
                refine lv_istore (lv' := [(4, .int 0), (0, .ref mo), (1, .int p0), (2, .int p1), (3, .int x3_4), (5, .int x5_28), (6, .int x6_29), (7, .int x7_30)]) hx hb dX5_cheapest_144 hl (by decide) rfl (fun ls hl => ?_)
                refine lv_iload hx hb dX5_cheapest_146 (lv_at hl 0 rfl) ?_
                refine lv_if_eq (tgt := 167) hx hb dX5_cheapest_148 (by decide) (fun _ => ?_) (fun c9 => absurd (by decide) c9)
                refine lv_goto (tgt := 10) hx hb dX5_cheapest_167 (by decide) ?_
                cases g
                exact ih0 _ _ _ _ _ _ h _ _ hP hD hS _ (lv_sub hl [1, 2, 3, 4, 0] rfl)
              · have g := ineg c9 g
                refine lv_iconst (v := 1) hx hb dX5_cheapest_139 (by decide) ?_
                refine lv_goto (tgt := 144) hx hb dX5_cheapest_140 (by decide) ?_
                refine lv_istore (lv' := [(4, .int 1), (0, .ref mo), (1, .int p0), (2, .int p1), (3, .int x3_4), (5, .int x5_28), (6, .int x6_29), (7, .int x7_30)]) hx hb dX5_cheapest_144 hl (by decide) rfl (fun ls hl => ?_)
                refine lv_iload hx hb dX5_cheapest_146 (lv_at hl 0 rfl) ?_
                refine lv_if_eq (tgt := 167) hx hb dX5_cheapest_148 (by decide) (fun c9 => absurd c9 (by decide)) (fun _ => ?_)
                refine lv_iload_n hx hb dX5_cheapest_151 rfl (lv_at hl 4 rfl) ?_
                refine lv_aload_n hx hb dX5_cheapest_152 rfl (lv_at hl 1 rfl) ?_
                refine va_get (D := (dC, dI)) (ci := 5) (v := .ref aMD) (C := RX5) (T := TX5) (N := 21) hx hb hts k1 hown hK hP 0 rfl rfl 15 (by decide) k3 (fun _ h9 => h9) rfl dX5_cheapest_153 ?_
                refine lv_iload hx hb dX5_cheapest_156 (lv_at hl 5 rfl) ?_
                obtain ⟨t34, e9, g⟩ := bd g
                refine q_iald hx hb hK hP 10 0 rfl rfl e9 dX5_cheapest_158 ?_
                refine lv_iadd hx hb dX5_cheapest_159 ?_
                refine lv_istore_n (lv' := [(3, .int (x3_4 + t34)), (4, .int 1), (0, .ref mo), (1, .int p0), (2, .int p1), (5, .int x5_28), (6, .int x6_29), (7, .int x7_30)]) hx hb dX5_cheapest_160 rfl hl (by decide) rfl (fun ls hl => ?_)
                refine lv_aload_n hx hb dX5_cheapest_161 rfl (lv_at hl 2 rfl) ?_
                refine lv_iload hx hb dX5_cheapest_162 (lv_at hl 5 rfl) ?_
                obtain ⟨mO_35, mR_36, e9, g⟩ := bd2 g
                refine q_callVv (As := [.int x5_28]) (w1 := wX5 cyI mo aMF aMT aMW aMU aMP aML aMM aMO aMR aMD aMB aMK mTh mNo mAr mS mG mQ mWa mPa mLa mF mT mW mU mP mL mM mO_35 mR_36 mD_10 mB_11 mK) (ws2 := wX5 cyI mo aMF aMT aMW aMU aMP aML aMM aMO aMR aMD aMB aMK mTh mNo mAr mS mG mQ mWa mPa mLa mF mT mW mU mP mL mM mO_35 mR_36 mD_10 mB_11 mK) ⟨hx, hb, hml, hown, hts⟩ (c_X5_send l dC dI cyI mo aMF aMT aMW aMU aMP aML aMM aMO aMR aMD aMB aMK H.size mTh mNo mAr mS mG mQ mWa mPa mLa mF mT mW mU mP mL mM mO_6 mR_7 mD_10 mB_11 mK x5_28 N _ e9) (cwV 1 hts gX5_cheapest_X5_send rfl rfl rfl (by decide +kernel) ⟨Nat.le_of_ble_eq_true rfl, Nat.le_of_ble_eq_true rfl⟩) hK hP hD hS hA [0, 1, 2, 3, 4, 5, 6, 7, 8, 9, 10, 11, 12] [] [0, 1, 2, 3, 4, 5, 6, 7, 8, 9, 10, 11, 12] [0] rfl rfl rfl rfl (by decide) rfl rfl rfl 5 0 rfl rfl rfl hl.1 (Nat.le_of_ble_eq_true rfl) (Nat.le_of_ble_eq_true rfl) (Nat.le_of_ble_eq_true rfl) rfl dX5_cheapest_164 (fun H locs hP hD hS => ?_)
                refine lv_goto (tgt := 10) hx hb dX5_cheapest_167 (by decide) ?_
                cases g
                exact ih0 _ _ _ _ _ _ h _ _ hP hD hS _ (lv_sub hl [2, 3, 4, 0, 1] rfl)
            · have g := ipos c9 g
              refine lv_ldc (own := RX5) (v := 1000000) hx hb hown k4 dX5_cheapest_130 ?_
              cases g
              have h := lpx h
              subst h
              have h := selr h8
              cases h
              exact q_iret hQ hx hb hr hlocks hP hK hD hS dX5_cheapest_132
        have hL1 : ∀ (n9 : Nat) (x5_12 : Int32) (x6_13 : Int32) (x7_14 : Int32), lp (un3 (pX5_cheapest_l28 mD_10 mNo mR_7)) n9 ((x5_12, x6_13, x7_14)) = some ((x5_28, x6_29, x7_30)) → ∀ (H : Heap) (locs : List Loc), va_P (dC, dI) vwCl (wX5 cyI mo aMF aMT aMW aMU aMP aML aMM aMO aMR aMD aMB aMK mTh mNo mAr mS mG mQ mWa mPa mLa mF mT mW mU mP mL mM mO_6 mR_7 mD_10 mB_11 mK) H → va_D A (wX5 cyI mo aMF aMT aMW aMU aMP aML aMM aMO aMR aMD aMB aMK mTh mNo mAr mS mG mQ mWa mPa mLa mF mT mW mU mP mL mM mO_6 mR_7 mD_10 mB_11 mK) → va_S A s.heap H locs → ∀ ls : Array Slot, lv_has ls 8 [(0, .ref mo), (1, .int p0), (2, .int p1), (3, .int x3_4), (4, .int x4_5), (5, .int x5_12), (6, .int x6_13), (7, .int x7_14)] → W p l e { frames := 2, cells := 0, slots := 0, locals := 49 } s m args below meth c H locs 0 0 Q (F0 m 28 ls []) := by
          intro n9
          induction n9 with
          | zero =>
            intro x5_12 x6_13 x7_14 h
            exact lp0 h
          | succ n9 ih1 =>
            intro x5_12 x6_13 x7_14 h H locs hP hD hS ls hl
            obtain ⟨o9, g, h⟩ := lps h
            replace g : pX5_cheapest_l28 mD_10 mNo mR_7 x5_12 x6_13 x7_14 = some o9 := g
            unfold pX5_cheapest_l28 at g
            refine lv_iload hx hb dX5_cheapest_28 (lv_at hl 7 rfl) ?_
            refine lv_aload_n hx hb dX5_cheapest_30 rfl (lv_at hl 0 rfl) ?_
            refine va_get (D := (dC, dI)) (ci := 5) (v := .int mNo) (C := RX5) (T := TX5) (N := 21) hx hb hts k1 hown hK hP 0 rfl rfl 1 (by decide) k0 (fun _ h9 => h9) rfl dX5_cheapest_31 ?_
            refine lv_icmp_ge (tgt := 119) hx hb dX5_cheapest_34 (by decide) (fun c9 => ?_) (fun c9 => ?_)
            · have g := ipos c9 g
              cases g
              have h := lpx h
              cases h
              exact hT1 _ _ hP hD hS _ (lv_sub hl [0, 1, 2, 3, 4, 5, 6, 7] rfl)
            · have g := ineg c9 g
              refine lv_iload hx hb dX5_cheapest_37 (lv_at hl 6 rfl) ?_
              refine lv_if_ne (tgt := 52) hx hb dX5_cheapest_39 (by decide) (fun c9 => ?_) (fun c9 => ?_)
              · have g := ineg c9 g
                refine lv_iconst (v := 1) hx hb dX5_cheapest_52 (by decide) ?_
                refine lv_goto (tgt := 57) hx hb dX5_cheapest_53 (by decide) ?_
                refine lv_istore (lv' := [(6, .int 1), (0, .ref mo), (1, .int p0), (2, .int p1), (3, .int x3_4), (4, .int x4_5), (5, .int x5_12), (7, .int x7_14)]) hx hb dX5_cheapest_57 hl (by decide) rfl (fun ls hl => ?_)
                refine lv_aload_n hx hb dX5_cheapest_59 rfl (lv_at hl 1 rfl) ?_
                refine va_get (D := (dC, dI)) (ci := 5) (v := .ref aMR) (C := RX5) (T := TX5) (N := 21) hx hb hts k1 hown hK hP 0 rfl rfl 14 (by decide) k2 (fun _ h9 => h9) rfl dX5_cheapest_60 ?_
                refine lv_iload hx hb dX5_cheapest_63 (lv_at hl 7 rfl) ?_
                obtain ⟨t15, e9, g⟩ := bd g
                refine q_iald hx hb hK hP 9 0 rfl rfl e9 dX5_cheapest_65 ?_
                refine lv_if_ge (tgt := 109) hx hb dX5_cheapest_66 (by decide) (fun c9 => ?_) (fun c9 => ?_)
                · have g := ipos c9 g
                  refine lv_iload hx hb dX5_cheapest_109 (lv_at hl 6 rfl) ?_
                  refine lv_istore (lv' := [(5, .int x5_12), (6, .int 1), (0, .ref mo), (1, .int p0), (2, .int p1), (3, .int x3_4), (4, .int x4_5), (7, .int x7_14)]) hx hb dX5_cheapest_111 hl (by decide) rfl (fun ls hl => ?_)
                  refine lv_iinc (v := x7_14 + 1) (lv' := [(7, .int (x7_14 + 1)), (5, .int x5_12), (6, .int 1), (0, .ref mo), (1, .int p0), (2, .int p1), (3, .int x3_4), (4, .int x4_5)]) hx hb dX5_cheapest_113 hl (k := 7) rfl (by rfl) (by decide) rfl (fun ls hl => ?_)
                  refine lv_goto (tgt := 28) hx hb dX5_cheapest_116 (by decide) ?_
                  cases g
                  exact ih1 _ _ _ h _ _ hP hD hS _ (lv_sub hl [3, 4, 5, 6, 7, 1, 2, 0] rfl)
                · have g := ineg c9 g
                  refine lv_aload_n hx hb dX5_cheapest_69 rfl (lv_at hl 1 rfl) ?_
                  refine va_get (D := (dC, dI)) (ci := 5) (v := .ref aMD) (C := RX5) (T := TX5) (N := 21) hx hb hts k1 hown hK hP 0 rfl rfl 15 (by decide) k3 (fun _ h9 => h9) rfl dX5_cheapest_70 ?_
                  refine lv_iload hx hb dX5_cheapest_73 (lv_at hl 7 rfl) ?_
                  obtain ⟨t16, e9, g⟩ := bd g
                  refine q_iald hx hb hK hP 10 0 rfl rfl e9 dX5_cheapest_75 ?_
                  refine lv_ldc (own := RX5) (v := 1000000) hx hb hown k4 dX5_cheapest_76 ?_
                  refine lv_icmp_ge (tgt := 109) hx hb dX5_cheapest_78 (by decide) (fun c9 => ?_) (fun c9 => ?_)
                  · have g := ipos c9 g
                    refine lv_iload hx hb dX5_cheapest_109 (lv_at hl 6 rfl) ?_
                    refine lv_istore (lv' := [(5, .int x5_12), (6, .int 1), (0, .ref mo), (1, .int p0), (2, .int p1), (3, .int x3_4), (4, .int x4_5), (7, .int x7_14)]) hx hb dX5_cheapest_111 hl (by decide) rfl (fun ls hl => ?_)
                    refine lv_iinc (v := x7_14 + 1) (lv' := [(7, .int (x7_14 + 1)), (5, .int x5_12), (6, .int 1), (0, .ref mo), (1, .int p0), (2, .int p1), (3, .int x3_4), (4, .int x4_5)]) hx hb dX5_cheapest_113 hl (k := 7) rfl (by rfl) (by decide) rfl (fun ls hl => ?_)
                    refine lv_goto (tgt := 28) hx hb dX5_cheapest_116 (by decide) ?_
                    cases g
                    exact ih1 _ _ _ h _ _ hP hD hS _ (lv_sub hl [3, 4, 5, 6, 7, 1, 2, 0] rfl)
                  · have g := ineg c9 g
                    refine lv_iload hx hb dX5_cheapest_81 (lv_at hl 6 rfl) ?_
                    refine lv_iconst (v := -1) hx hb dX5_cheapest_83 (by decide) ?_
                    refine lv_icmp_eq (tgt := 104) hx hb dX5_cheapest_84 (by decide) (fun c9 => ?_) (fun c9 => ?_)
                    · have g := ipos c9 g
                      refine lv_iload hx hb dX5_cheapest_104 (lv_at hl 7 rfl) ?_
                      refine lv_goto (tgt := 111) hx hb dX5_cheapest_106 (by decide) ?_
                      refine lv_istore (lv' := [(5, .int x7_14), (6, .int 1), (0, .ref mo), (1, .int p0), (2, .int p1), (3, .int x3_4), (4, .int x4_5), (7, .int x7_14)]) hx hb dX5_cheapest_111 hl (by decide) rfl (fun ls hl => ?_)
                      refine lv_iinc (v := x7_14 + 1) (lv' := [(7, .int (x7_14 + 1)), (5, .int x7_14), (6, .int 1), (0, .ref mo), (1, .int p0), (2, .int p1), (3, .int x3_4), (4, .int x4_5)]) hx hb dX5_cheapest_113 hl (k := 7) rfl (by rfl) (by decide) rfl (fun ls hl => ?_)
                      refine lv_goto (tgt := 28) hx hb dX5_cheapest_116 (by decide) ?_
                      cases g
                      exact ih1 _ _ _ h _ _ hP hD hS _ (lv_sub hl [3, 4, 5, 6, 7, 1, 2, 0] rfl)
                    · have g := ineg c9 g
                      refine lv_aload_n hx hb dX5_cheapest_87 rfl (lv_at hl 1 rfl) ?_
                      refine va_get (D := (dC, dI)) (ci := 5) (v := .ref aMD) (C := RX5) (T := TX5) (N := 21) hx hb hts k1 hown hK hP 0 rfl rfl 15 (by decide) k3 (fun _ h9 => h9) rfl dX5_cheapest_88 ?_
                      refine lv_iload hx hb dX5_cheapest_91 (lv_at hl 7 rfl) ?_
                      obtain ⟨t17, e9, g⟩ := bd g
                      refine q_iald hx hb hK hP 10 0 rfl rfl e9 dX5_cheapest_93 ?_
                      refine lv_aload_n hx hb dX5_cheapest_94 rfl (lv_at hl 1 rfl) ?_
                      refine va_get (D := (dC, dI)) (ci := 5) (v := .ref aMD) (C := RX5) (T := TX5) (N := 21) hx hb hts k1 hown hK hP 0 rfl rfl 15 (by decide) k3 (fun _ h9 => h9) rfl dX5_cheapest_95 ?_
                      refine lv_iload hx hb dX5_cheapest_98 (lv_at hl 6 rfl) ?_
                      obtain ⟨t18, e9, g⟩ := bd g
                      refine q_iald hx hb hK hP 10 0 rfl rfl e9 dX5_cheapest_100 ?_
                      refine lv_icmp_ge (tgt := 109) hx hb dX5_cheapest_101 (by decide) (fun c9 => ?_) (fun c9 => ?_)
                      · have g := ipos c9 g
                        refine lv_iload hx hb dX5_cheapest_109 (lv_at hl 6 rfl) ?_
                        refine lv_istore (lv' := [(5, .int x5_12), (6, .int 1), (0, .ref mo), (1, .int p0), (2, .int p1), (3, .int x3_4), (4, .int x4_5), (7, .int x7_14)]) hx hb dX5_cheapest_111 hl (by decide) rfl (fun ls hl => ?_)
                        refine lv_iinc (v := x7_14 + 1) (lv' := [(7, .int (x7_14 + 1)), (5, .int x5_12), (6, .int 1), (0, .ref mo), (1, .int p0), (2, .int p1), (3, .int x3_4), (4, .int x4_5)]) hx hb dX5_cheapest_113 hl (k := 7) rfl (by rfl) (by decide) rfl (fun ls hl => ?_)
                        refine lv_goto (tgt := 28) hx hb dX5_cheapest_116 (by decide) ?_
                        cases g
                        exact ih1 _ _ _ h _ _ hP hD hS _ (lv_sub hl [3, 4, 5, 6, 7, 1, 2, 0] rfl)
                      · have g := ineg c9 g
                        refine lv_iload hx hb dX5_cheapest_104 (lv_at hl 7 rfl) ?_
                        refine lv_goto (tgt := 111) hx hb dX5_cheapest_106 (by decide) ?_
                        refine lv_istore (lv' := [(5, .int x7_14), (6, .int 1), (0, .ref mo), (1, .int p0), (2, .int p1), (3, .int x3_4), (4, .int x4_5), (7, .int x7_14)]) hx hb dX5_cheapest_111 hl (by decide) rfl (fun ls hl => ?_)
                        refine lv_iinc (v := x7_14 + 1) (lv' := [(7, .int (x7_14 + 1)), (5, .int x7_14), (6, .int 1), (0, .ref mo), (1, .int p0), (2, .int p1), (3, .int x3_4), (4, .int x4_5)]) hx hb dX5_cheapest_113 hl (k := 7) rfl (by rfl) (by decide) rfl (fun ls hl => ?_)
                        refine lv_goto (tgt := 28) hx hb dX5_cheapest_116 (by decide) ?_
                        cases g
                        exact ih1 _ _ _ h _ _ hP hD hS _ (lv_sub hl [3, 4, 5, 6, 7, 1, 2, 0] rfl)
              · have g := ipos c9 g
                refine lv_aload_n hx hb dX5_cheapest_42 rfl (lv_at hl 0 rfl) ?_
                refine va_get (D := (dC, dI)) (ci := 5) (v := .ref aMR) (C := RX5) (T := TX5) (N := 21) hx hb hts k1 hown hK hP 0 rfl rfl 14 (by decide) k2 (fun _ h9 => h9) rfl dX5_cheapest_43 ?_
                refine lv_iload hx hb dX5_cheapest_46 (lv_at hl 7 rfl) ?_
                obtain ⟨t19, e9, g⟩ := bd g
                refine q_iald hx hb hK hP 9 0 rfl rfl e9 dX5_cheapest_48 ?_
                refine lv_if_le (tgt := 56) hx hb dX5_cheapest_49 (by decide) (fun c9 => ?_) (fun c9 => ?_)
                · have g := ipos c9 g
                  refine lv_iconst (v := 0) hx hb dX5_cheapest_56 (by decide) ?_
                  refine lv_istore (lv' := [(6, .int 0), (0, .ref mo), (1, .int p0), (2, .int p1), (3, .int x3_4), (4, .int x4_5), (5, .int x5_12), (7, .int x7_14)]) hx hb dX5_cheapest_57 hl (by decide) rfl (fun ls hl => ?_)
                  refine lv_aload_n hx hb dX5_cheapest_59 rfl (lv_at hl 1 rfl) ?_
                  refine va_get (D := (dC, dI)) (ci := 5) (v := .ref aMR) (C := RX5) (T := TX5) (N := 21) hx hb hts k1 hown hK hP 0 rfl rfl 14 (by decide) k2 (fun _ h9 => h9) rfl dX5_cheapest_60 ?_
                  refine lv_iload hx hb dX5_cheapest_63 (lv_at hl 7 rfl) ?_
                  obtain ⟨t20, e9, g⟩ := bd g
                  refine q_iald hx hb hK hP 9 0 rfl rfl e9 dX5_cheapest_65 ?_
                  refine lv_if_ge (tgt := 109) hx hb dX5_cheapest_66 (by decide) (fun c9 => ?_) (fun c9 => ?_)
                  · have g := ipos c9 g
                    refine lv_iload hx hb dX5_cheapest_109 (lv_at hl 6 rfl) ?_
                    refine lv_istore (lv' := [(5, .int x5_12), (6, .int 0), (0, .ref mo), (1, .int p0), (2, .int p1), (3, .int x3_4), (4, .int x4_5), (7, .int x7_14)]) hx hb dX5_cheapest_111 hl (by decide) rfl (fun ls hl => ?_)
                    refine lv_iinc (v := x7_14 + 1) (lv' := [(7, .int (x7_14 + 1)), (5, .int x5_12), (6, .int 0), (0, .ref mo), (1, .int p0), (2, .int p1), (3, .int x3_4), (4, .int x4_5)]) hx hb dX5_cheapest_113 hl (k := 7) rfl (by rfl) (by decide) rfl (fun ls hl => ?_)
                    refine lv_goto (tgt := 28) hx hb dX5_cheapest_116 (by decide) ?_
                    cases g
                    exact ih1 _ _ _ h _ _ hP hD hS _ (lv_sub hl [3, 4, 5, 6, 7, 1, 2, 0] rfl)
                  · have g := ineg c9 g
                    refine lv_aload_n hx hb dX5_cheapest_69 rfl (lv_at hl 1 rfl) ?_
                    refine va_get (D := (dC, dI)) (ci := 5) (v := .ref aMD) (C := RX5) (T := TX5) (N := 21) hx hb hts k1 hown hK hP 0 rfl rfl 15 (by decide) k3 (fun _ h9 => h9) rfl dX5_cheapest_70 ?_
                    refine lv_iload hx hb dX5_cheapest_73 (lv_at hl 7 rfl) ?_
                    obtain ⟨t21, e9, g⟩ := bd g
                    refine q_iald hx hb hK hP 10 0 rfl rfl e9 dX5_cheapest_75 ?_
                    refine lv_ldc (own := RX5) (v := 1000000) hx hb hown k4 dX5_cheapest_76 ?_
                    refine lv_icmp_ge (tgt := 109) hx hb dX5_cheapest_78 (by decide) (fun c9 => ?_) (fun c9 => ?_)
                    · have g := ipos c9 g
                      refine lv_iload hx hb dX5_cheapest_109 (lv_at hl 6 rfl) ?_
                      refine lv_istore (lv' := [(5, .int x5_12), (6, .int 0), (0, .ref mo), (1, .int p0), (2, .int p1), (3, .int x3_4), (4, .int x4_5), (7, .int x7_14)]) hx hb dX5_cheapest_111 hl (by decide) rfl (fun ls hl => ?_)
                      refine lv_iinc (v := x7_14 + 1) (lv' := [(7, .int (x7_14 + 1)), (5, .int x5_12), (6, .int 0), (0, .ref mo), (1, .int p0), (2, .int p1), (3, .int x3_4), (4, .int x4_5)]) hx hb dX5_cheapest_113 hl (k := 7) rfl (by rfl) (by decide) rfl (fun ls hl => ?_)
                      refine lv_goto (tgt := 28) hx hb dX5_cheapest_116 (by decide) ?_
                      cases g
                      exact ih1 _ _ _ h _ _ hP hD hS _ (lv_sub hl [3, 4, 5, 6, 7, 1, 2, 0] rfl)
                    · have g := ineg c9 g
                      refine lv_iload hx hb dX5_cheapest_81 (lv_at hl 6 rfl) ?_
                      refine lv_iconst (v := -1) hx hb dX5_cheapest_83 (by decide) ?_
                      refine lv_icmp_eq (tgt := 104) hx hb dX5_cheapest_84 (by decide) (fun c9 => ?_) (fun c9 => ?_)
                      · have g := ipos c9 g
                        refine lv_iload hx hb dX5_cheapest_104 (lv_at hl 7 rfl) ?_
                        refine lv_goto (tgt := 111) hx hb dX5_cheapest_106 (by decide) ?_
                        refine lv_istore (lv' := [(5, .int x7_14), (6, .int 0), (0, .ref mo), (1, .int p0), (2, .int p1), (3, .int x3_4), (4, .int x4_5), (7, .int x7_14)]) hx hb dX5_cheapest_111 hl (by decide) rfl (fun ls hl => ?_)
                        refine lv_iinc (v := x7_14 + 1) (lv' := [(7, .int (x7_14 + 1)), (5, .int x7_14), (6, .int 0), (0, .ref mo), (1, .int p0), (2, .int p1), (3, .int x3_4), (4, .int x4_5)]) hx hb dX5_cheapest_113 hl (k := 7) rfl (by rfl) (by decide) rfl (fun ls hl => ?_)
                        refine lv_goto (tgt := 28) hx hb dX5_cheapest_116 (by decide) ?_
                        cases g
                        exact ih1 _ _ _ h _ _ hP hD hS _ (lv_sub hl [3, 4, 5, 6, 7, 1, 2, 0] rfl)
                      · have g := ineg c9 g
                        refine lv_aload_n hx hb dX5_cheapest_87 rfl (lv_at hl 1 rfl) ?_
                        refine va_get (D := (dC, dI)) (ci := 5) (v := .ref aMD) (C := RX5) (T := TX5) (N := 21) hx hb hts k1 hown hK hP 0 rfl rfl 15 (by decide) k3 (fun _ h9 => h9) rfl dX5_cheapest_88 ?_
                        refine lv_iload hx hb dX5_cheapest_91 (lv_at hl 7 rfl) ?_
                        obtain ⟨t22, e9, g⟩ := bd g
                        refine q_iald hx hb hK hP 10 0 rfl rfl e9 dX5_cheapest_93 ?_
                        refine lv_aload_n hx hb dX5_cheapest_94 rfl (lv_at hl 1 rfl) ?_
                        refine va_get (D := (dC, dI)) (ci := 5) (v := .ref aMD) (C := RX5) (T := TX5) (N := 21) hx hb hts k1 hown hK hP 0 rfl rfl 15 (by decide) k3 (fun _ h9 => h9) rfl dX5_cheapest_95 ?_
                        refine lv_iload hx hb dX5_cheapest_98 (lv_at hl 6 rfl) ?_
                        obtain ⟨t23, e9, g⟩ := bd g
                        refine q_iald hx hb hK hP 10 0 rfl rfl e9 dX5_cheapest_100 ?_
                        refine lv_icmp_ge (tgt := 109) hx hb dX5_cheapest_101 (by decide) (fun c9 => ?_) (fun c9 => ?_)
                        · have g := ipos c9 g
                          refine lv_iload hx hb dX5_cheapest_109 (lv_at hl 6 rfl) ?_
                          refine lv_istore (lv' := [(5, .int x5_12), (6, .int 0), (0, .ref mo), (1, .int p0), (2, .int p1), (3, .int x3_4), (4, .int x4_5), (7, .int x7_14)]) hx hb dX5_cheapest_111 hl (by decide) rfl (fun ls hl => ?_)
                          refine lv_iinc (v := x7_14 + 1) (lv' := [(7, .int (x7_14 + 1)), (5, .int x5_12), (6, .int 0), (0, .ref mo), (1, .int p0), (2, .int p1), (3, .int x3_4), (4, .int x4_5)]) hx hb dX5_cheapest_113 hl (k := 7) rfl (by rfl) (by decide) rfl (fun ls hl => ?_)
                          refine lv_goto (tgt := 28) hx hb dX5_cheapest_116 (by decide) ?_
                          cases g
                          exact ih1 _ _ _ h _ _ hP hD hS _ (lv_sub hl [3, 4, 5, 6, 7, 1, 2, 0] rfl)
                        · have g := ineg c9 g
                          refine lv_iload hx hb dX5_cheapest_104 (lv_at hl 7 rfl) ?_
                          refine lv_goto (tgt := 111) hx hb dX5_cheapest_106 (by decide) ?_
                          refine lv_istore (lv' := [(5, .int x7_14), (6, .int 0), (0, .ref mo), (1, .int p0), (2, .int p1), (3, .int x3_4), (4, .int x4_5), (7, .int x7_14)]) hx hb dX5_cheapest_111 hl (by decide) rfl (fun ls hl => ?_)
                          refine lv_iinc (v := x7_14 + 1) (lv' := [(7, .int (x7_14 + 1)), (5, .int x7_14), (6, .int 0), (0, .ref mo), (1, .int p0), (2, .int p1), (3, .int x3_4), (4, .int x4_5)]) hx hb dX5_cheapest_113 hl (k := 7) rfl (by rfl) (by decide) rfl (fun ls hl => ?_)
                          refine lv_goto (tgt := 28) hx hb dX5_cheapest_116 (by decide) ?_
                          cases g
                          exact ih1 _ _ _ h _ _ hP hD hS _ (lv_sub hl [3, 4, 5, 6, 7, 1, 2, 0] rfl)
                · have g := ineg c9 g
                  refine lv_iconst (v := 1) hx hb dX5_cheapest_52 (by decide) ?_
                  refine lv_goto (tgt := 57) hx hb dX5_cheapest_53 (by decide) ?_
                  refine lv_istore (lv' := [(6, .int 1), (0, .ref mo), (1, .int p0), (2, .int p1), (3, .int x3_4), (4, .int x4_5), (5, .int x5_12), (7, .int x7_14)]) hx hb dX5_cheapest_57 hl (by decide) rfl (fun ls hl => ?_)
                  refine lv_aload_n hx hb dX5_cheapest_59 rfl (lv_at hl 1 rfl) ?_
                  refine va_get (D := (dC, dI)) (ci := 5) (v := .ref aMR) (C := RX5) (T := TX5) (N := 21) hx hb hts k1 hown hK hP 0 rfl rfl 14 (by decide) k2 (fun _ h9 => h9) rfl dX5_cheapest_60 ?_
                  refine lv_iload hx hb dX5_cheapest_63 (lv_at hl 7 rfl) ?_
                  obtain ⟨t24, e9, g⟩ := bd g
                  refine q_iald hx hb hK hP 9 0 rfl rfl e9 dX5_cheapest_65 ?_
                  refine lv_if_ge (tgt := 109) hx hb dX5_cheapest_66 (by decide) (fun c9 => ?_) (fun c9 => ?_)
                  · have g := ipos c9 g
                    refine lv_iload hx hb dX5_cheapest_109 (lv_at hl 6 rfl) ?_
                    refine lv_istore (lv' := [(5, .int x5_12), (6, .int 1), (0, .ref mo), (1, .int p0), (2, .int p1), (3, .int x3_4), (4, .int x4_5), (7, .int x7_14)]) hx hb dX5_cheapest_111 hl (by decide) rfl (fun ls hl => ?_)
                    refine lv_iinc (v := x7_14 + 1) (lv' := [(7, .int (x7_14 + 1)), (5, .int x5_12), (6, .int 1), (0, .ref mo), (1, .int p0), (2, .int p1), (3, .int x3_4), (4, .int x4_5)]) hx hb dX5_cheapest_113 hl (k := 7) rfl (by rfl) (by decide) rfl (fun ls hl => ?_)
                    refine lv_goto (tgt := 28) hx hb dX5_cheapest_116 (by decide) ?_
                    cases g
                    exact ih1 _ _ _ h _ _ hP hD hS _ (lv_sub hl [3, 4, 5, 6, 7, 1, 2, 0] rfl)
                  · have g := ineg c9 g
                    refine lv_aload_n hx hb dX5_cheapest_69 rfl (lv_at hl 1 rfl) ?_
                    refine va_get (D := (dC, dI)) (ci := 5) (v := .ref aMD) (C := RX5) (T := TX5) (N := 21) hx hb hts k1 hown hK hP 0 rfl rfl 15 (by decide) k3 (fun _ h9 => h9) rfl dX5_cheapest_70 ?_
                    refine lv_iload hx hb dX5_cheapest_73 (lv_at hl 7 rfl) ?_
                    obtain ⟨t25, e9, g⟩ := bd g
                    refine q_iald hx hb hK hP 10 0 rfl rfl e9 dX5_cheapest_75 ?_
                    refine lv_ldc (own := RX5) (v := 1000000) hx hb hown k4 dX5_cheapest_76 ?_
                    refine lv_icmp_ge (tgt := 109) hx hb dX5_cheapest_78 (by decide) (fun c9 => ?_) (fun c9 => ?_)
                    · have g := ipos c9 g
                      refine lv_iload hx hb dX5_cheapest_109 (lv_at hl 6 rfl) ?_
                      refine lv_istore (lv' := [(5, .int x5_12), (6, .int 1), (0, .ref mo), (1, .int p0), (2, .int p1), (3, .int x3_4), (4, .int x4_5), (7, .int x7_14)]) hx hb dX5_cheapest_111 hl (by decide) rfl (fun ls hl => ?_)
                      refine lv_iinc (v := x7_14 + 1) (lv' := [(7, .int (x7_14 + 1)), (5, .int x5_12), (6, .int 1), (0, .ref mo), (1, .int p0), (2, .int p1), (3, .int x3_4), (4, .int x4_5)]) hx hb dX5_cheapest_113 hl (k := 7) rfl (by rfl) (by decide) rfl (fun ls hl => ?_)
                      refine lv_goto (tgt := 28) hx hb dX5_cheapest_116 (by decide) ?_
                      cases g
                      exact ih1 _ _ _ h _ _ hP hD hS _ (lv_sub hl [3, 4, 5, 6, 7, 1, 2, 0] rfl)
                    · have g := ineg c9 g
                      refine lv_iload hx hb dX5_cheapest_81 (lv_at hl 6 rfl) ?_
                      refine lv_iconst (v := -1) hx hb dX5_cheapest_83 (by decide) ?_
                      refine lv_icmp_eq (tgt := 104) hx hb dX5_cheapest_84 (by decide) (fun c9 => ?_) (fun c9 => ?_)
                      · have g := ipos c9 g
                        refine lv_iload hx hb dX5_cheapest_104 (lv_at hl 7 rfl) ?_
                        refine lv_goto (tgt := 111) hx hb dX5_cheapest_106 (by decide) ?_
                        refine lv_istore (lv' := [(5, .int x7_14), (6, .int 1), (0, .ref mo), (1, .int p0), (2, .int p1), (3, .int x3_4), (4, .int x4_5), (7, .int x7_14)]) hx hb dX5_cheapest_111 hl (by decide) rfl (fun ls hl => ?_)
                        refine lv_iinc (v := x7_14 + 1) (lv' := [(7, .int (x7_14 + 1)), (5, .int x7_14), (6, .int 1), (0, .ref mo), (1, .int p0), (2, .int p1), (3, .int x3_4), (4, .int x4_5)]) hx hb dX5_cheapest_113 hl (k := 7) rfl (by rfl) (by decide) rfl (fun ls hl => ?_)
                        refine lv_goto (tgt := 28) hx hb dX5_cheapest_116 (by decide) ?_
                        cases g
                        exact ih1 _ _ _ h _ _ hP hD hS _ (lv_sub hl [3, 4, 5, 6, 7, 1, 2, 0] rfl)
                      · have g := ineg c9 g
                        refine lv_aload_n hx hb dX5_cheapest_87 rfl (lv_at hl 1 rfl) ?_
                        refine va_get (D := (dC, dI)) (ci := 5) (v := .ref aMD) (C := RX5) (T := TX5) (N := 21) hx hb hts k1 hown hK hP 0 rfl rfl 15 (by decide) k3 (fun _ h9 => h9) rfl dX5_cheapest_88 ?_
                        refine lv_iload hx hb dX5_cheapest_91 (lv_at hl 7 rfl) ?_
                        obtain ⟨t26, e9, g⟩ := bd g
                        refine q_iald hx hb hK hP 10 0 rfl rfl e9 dX5_cheapest_93 ?_
                        refine lv_aload_n hx hb dX5_cheapest_94 rfl (lv_at hl 1 rfl) ?_
                        refine va_get (D := (dC, dI)) (ci := 5) (v := .ref aMD) (C := RX5) (T := TX5) (N := 21) hx hb hts k1 hown hK hP 0 rfl rfl 15 (by decide) k3 (fun _ h9 => h9) rfl dX5_cheapest_95 ?_
                        refine lv_iload hx hb dX5_cheapest_98 (lv_at hl 6 rfl) ?_
                        obtain ⟨t27, e9, g⟩ := bd g
                        refine q_iald hx hb hK hP 10 0 rfl rfl e9 dX5_cheapest_100 ?_
                        refine lv_icmp_ge (tgt := 109) hx hb dX5_cheapest_101 (by decide) (fun c9 => ?_) (fun c9 => ?_)
                        · have g := ipos c9 g
                          refine lv_iload hx hb dX5_cheapest_109 (lv_at hl 6 rfl) ?_
                          refine lv_istore (lv' := [(5, .int x5_12), (6, .int 1), (0, .ref mo), (1, .int p0), (2, .int p1), (3, .int x3_4), (4, .int x4_5), (7, .int x7_14)]) hx hb dX5_cheapest_111 hl (by decide) rfl (fun ls hl => ?_)
                          refine lv_iinc (v := x7_14 + 1) (lv' := [(7, .int (x7_14 + 1)), (5, .int x5_12), (6, .int 1), (0, .ref mo), (1, .int p0), (2, .int p1), (3, .int x3_4), (4, .int x4_5)]) hx hb dX5_cheapest_113 hl (k := 7) rfl (by rfl) (by decide) rfl (fun ls hl => ?_)
                          refine lv_goto (tgt := 28) hx hb dX5_cheapest_116 (by decide) ?_
                          cases g
                          exact ih1 _ _ _ h _ _ hP hD hS _ (lv_sub hl [3, 4, 5, 6, 7, 1, 2, 0] rfl)
                        · have g := ineg c9 g
                          refine lv_iload hx hb dX5_cheapest_104 (lv_at hl 7 rfl) ?_
                          refine lv_goto (tgt := 111) hx hb dX5_cheapest_106 (by decide) ?_
                          refine lv_istore (lv' := [(5, .int x7_14), (6, .int 1), (0, .ref mo), (1, .int p0), (2, .int p1), (3, .int x3_4), (4, .int x4_5), (7, .int x7_14)]) hx hb dX5_cheapest_111 hl (by decide) rfl (fun ls hl => ?_)
                          refine lv_iinc (v := x7_14 + 1) (lv' := [(7, .int (x7_14 + 1)), (5, .int x7_14), (6, .int 1), (0, .ref mo), (1, .int p0), (2, .int p1), (3, .int x3_4), (4, .int x4_5)]) hx hb dX5_cheapest_113 hl (k := 7) rfl (by rfl) (by decide) rfl (fun ls hl => ?_)
                          refine lv_goto (tgt := 28) hx hb dX5_cheapest_116 (by decide) ?_
                          cases g
                          exact ih1 _ _ _ h _ _ hP hD hS _ (lv_sub hl [3, 4, 5, 6, 7, 1, 2, 0] rfl)
        exact hL1 N _ _ _  e1 _ _ hP hD hS _ (lv_sub hl [3, 4, 5, 6, 7, 2, 1, 0] rfl)
  exact hL0 N _ _ _ _ _ _  e0 _ _ hP hD hS _ (lv_sub hl [2, 3, 4, 1, 0] rfl)
set_option maxHeartbeats 4000000 in
set_option maxRecDepth 100000 in
theorem c_X5_most (l : Launch) (dC : Nat → ClassId) (dI : Nat → Nat → Nat) (cyI : ClassId) (mo aMF aMT aMW aMU aMP aML aMM aMO aMR aMD aMB aMK : Nat) (sz : Nat) (mTh mNo mAr mS mG mQ mWa mPa mLa : Int32) (mF mT mW mU mP mL mM mO mR mD mB mK : Nat → Int32) (N : Nat) (res : Int32 × Int32 × (Nat → Int32) × (Nat → Int32) × (Nat → Int32) × (Nat → Int32) × (Nat → Int32) × (Nat → Int32)) (h : pX5_most N mNo mAr mS mG mF mT mW mU mP mL mM mO mR mD mB = some res) : Met l yX5_most wsX5_most { frames := 3, cells := 0, slots := 0, locals := 76 } (va_Pc [.ref mo] (zPre (dC, dI) (wX5 cyI mo aMF aMT aMW aMU aMP aML aMM aMO aMR aMD aMB aMK mTh mNo mAr mS mG mQ mWa mPa mLa mF mT mW mU mP mL mM mO mR mD mB mK) [(cyI, .int)] sz)) (zQi (dC, dI) (wX5 cyI mo aMF aMT aMW aMU aMP aML aMM aMO aMR aMD aMB aMK res.2.1 mNo mAr mS mG mQ mWa mPa mLa mF mT mW mU mP res.2.2.1 res.2.2.2.1 res.2.2.2.2.1 res.2.2.2.2.2.1 res.2.2.2.2.2.2.1 res.2.2.2.2.2.2.2 mK) [(cyI, .int)] (res.1) (va_A (wX5 cyI mo aMF aMT aMW aMU aMP aML aMM aMO aMR aMD aMB aMK mTh mNo mAr mS mG mQ mWa mPa mLa mF mT mW mU mP mL mM mO mR mD mB mK) sz)) 0 0 (va_A (wX5 cyI mo aMF aMT aMW aMU aMP aML aMM aMO aMR aMD aMB aMK mTh mNo mAr mS mG mQ mWa mPa mLa mF mT mW mU mP mL mM mO mR mD mB mK) sz) := by
  refine q_ofWi (cc := cX5_most) (maxL := 2) (rt := (some .int)) (by decide) rfl (Nat.le_of_ble_eq_true rfl) ?_
  intro p e s m args below meth c ls A Q H locs hQ hx hb hr hts hown hlocks hml hA hK hP hD hS hl
  have hl : lv_has ls 2 [(0, .ref mo)] := hl
  have k0 := hts (.fieldLink RX5 53 "ConvexConduitModel" "thrown" "I") (by decide +kernel)
  have k1 : ∀ w ∈ u_ws RX5 TX5 21, w ∈ wsX5_most := by decide +kernel
  have k2 := hts (.constant RX5 91 (1000000)) (by decide +kernel)
  unfold pX5_most at h
  refine lv_aload_n hx hb dX5_most_0 rfl (lv_at hl 0 rfl) ?_
  refine lv_iconst (v := 0) hx hb dX5_most_1 (by decide) ?_
  refine va_put (D := (dC, dI)) (ci := 5) (v := .int 0) (ty := .int) (C := RX5) (T := TX5) (N := 21) hx hb hts k1 tyX5 tyX5_ok nmX5 hown hK hP hD hS 0 rfl rfl 0 (by decide) k0 (fun _ h9 => h9) rfl (by decide +kernel) rfl rfl (Nat.le_of_ble_eq_true rfl) dX5_most_2 (fun H locs hP hD hS => ?_)
  have hP : va_P (dC, dI) vwCl (wX5 cyI mo aMF aMT aMW aMU aMP aML aMM aMO aMR aMD aMB aMK 0 mNo mAr mS mG mQ mWa mPa mLa mF mT mW mU mP mL mM mO mR mD mB mK) H := hP
  have hD : va_D A (wX5 cyI mo aMF aMT aMW aMU aMP aML aMM aMO aMR aMD aMB aMK 0 mNo mAr mS mG mQ mWa mPa mLa mF mT mW mU mP mL mM mO mR mD mB mK) := hD
  refine lv_aload_n hx hb dX5_most_5 rfl (lv_at hl 0 rfl) ?_
  obtain ⟨mL_1, mM_2, e9, h⟩ := bd2 h
  refine q_callVv (As := []) (w1 := wX5 cyI mo aMF aMT aMW aMU aMP aML aMM aMO aMR aMD aMB aMK 0 mNo mAr mS mG mQ mWa mPa mLa mF mT mW mU mP mL_1 mM_2 mO mR mD mB mK) (ws2 := wX5 cyI mo aMF aMT aMW aMU aMP aML aMM aMO aMR aMD aMB aMK 0 mNo mAr mS mG mQ mWa mPa mLa mF mT mW mU mP mL_1 mM_2 mO mR mD mB mK) ⟨hx, hb, hml, hown, hts⟩ (c_X5_open l dC dI cyI mo aMF aMT aMW aMU aMP aML aMM aMO aMR aMD aMB aMK H.size 0 mNo mAr mS mG mQ mWa mPa mLa mF mT mW mU mP mL mM mO mR mD mB mK N _ e9) (cwV 0 hts gX5_most_X5_open rfl rfl rfl (by decide +kernel) ⟨Nat.le_of_ble_eq_true rfl, Nat.le_of_ble_eq_true rfl⟩) hK hP hD hS hA [0, 1, 2, 3, 4, 5, 6, 7, 8, 9, 10, 11, 12] [] [0, 1, 2, 3, 4, 5, 6, 7, 8, 9, 10, 11, 12] [0] rfl rfl rfl rfl (by decide) rfl rfl rfl 5 0 rfl rfl rfl hl.1 (Nat.le_of_ble_eq_true rfl) (Nat.le_of_ble_eq_true rfl) (Nat.le_of_ble_eq_true rfl) rfl dX5_most_6 (fun H locs hP hD hS => ?_)
  refine lv_iconst (v := 0) hx hb dX5_most_9 (by decide) ?_
  refine lv_istore_n (lv' := [(1, .int 0), (0, .ref mo)]) hx hb dX5_most_10 rfl hl (by decide) rfl (fun ls hl => ?_)
  obtain ⟨x1_13, mO_14, mR_15, mD_16, mB_17, e0, h⟩ := bd5 h
  have hT0 : ∀ (H : Heap) (locs : List Loc), va_P (dC, dI) vwCl (wX5 cyI mo aMF aMT aMW aMU aMP aML aMM aMO aMR aMD aMB aMK 0 mNo mAr mS mG mQ mWa mPa mLa mF mT mW mU mP mL_1 mM_2 mO_14 mR_15 mD_16 mB_17 mK) H → va_D A (wX5 cyI mo aMF aMT aMW aMU aMP aML aMM aMO aMR aMD aMB aMK 0 mNo mAr mS mG mQ mWa mPa mLa mF mT mW mU mP mL_1 mM_2 mO_14 mR_15 mD_16 mB_17 mK) → va_S A s.heap H locs → ∀ ls : Array Slot, lv_has ls 2 [(0, .ref mo), (1, .int x1_13)] → W p l e { frames := 3, cells := 0, slots := 0, locals := 76 } s m args below meth c H locs 0 0 Q (F0 m 30 ls []) := by
    intro H locs hP hD hS ls hl
    refine lv_iload_n hx hb dX5_most_30 rfl (lv_at hl 1 rfl) ?_
    cases h
    exact q_iret hQ hx hb hr hlocks hP hK hD hS dX5_most_31
  have hL0 : ∀ (n9 : Nat) (x1_3 : Int32) (mO_4 : Nat → Int32) (mR_5 : Nat → Int32) (mD_6 : Nat → Int32) (mB_7 : Nat → Int32), lp (un5 (pX5_most_l11 N mAr mF mG mL_1 mM_2 mNo mS mT mU mW)) n9 ((x1_3, mO_4, mR_5, mD_6, mB_7)) = some ((x1_13, mO_14, mR_15, mD_16, mB_17)) → ∀ (H : Heap) (locs : List Loc), va_P (dC, dI) vwCl (wX5 cyI mo aMF aMT aMW aMU aMP aML aMM aMO aMR aMD aMB aMK 0 mNo mAr mS mG mQ mWa mPa mLa mF mT mW mU mP mL_1 mM_2 mO_4 mR_5 mD_6 mB_7 mK) H → va_D A (wX5 cyI mo aMF aMT aMW aMU aMP aML aMM aMO aMR aMD aMB aMK 0 mNo mAr mS mG mQ mWa mPa mLa mF mT mW mU mP mL_1 mM_2 mO_4 mR_5 mD_6 mB_7 mK) → va_S A s.heap H locs → ∀ ls : Array Slot, lv_has ls 2 [(0, .ref mo), (1, .int x1_3)] → W p l e { frames := 3, cells := 0, slots := 0, locals := 76 } s m args below meth c H locs 0 0 Q (F0 m 11 ls []) := by
    intro n9
    induction n9 with
    | zero =>
      intro x1_3 mO_4 mR_5 mD_6 mB_7 h
      exact lp0 h
    | succ n9 ih0 =>
      intro x1_3 mO_4 mR_5 mD_6 mB_7 h H locs hP hD hS ls hl
      obtain ⟨o9, g, h⟩ := lps h
      replace g : pX5_most_l11 N mAr mF mG mL_1 mM_2 mNo mS mT mU mW x1_3 mO_4 mR_5 mD_6 mB_7 = some o9 := g
      unfold pX5_most_l11 at g
      refine lv_aload_n hx hb dX5_most_11 rfl (lv_at hl 0 rfl) ?_
      refine lv_iload_n hx hb dX5_most_12 rfl (lv_at hl 1 rfl) ?_
      refine lv_iconst (v := 1) hx hb dX5_most_13 (by decide) ?_
      refine lv_iadd hx hb dX5_most_14 ?_
      refine lv_iconst (v := -1) hx hb dX5_most_15 (by decide) ?_
      obtain ⟨r8, mO_9, mR_10, mD_11, mB_12, e9, g⟩ := bd5 g
      refine q_callVi (ret := r8) (As := [.int (x1_3 + 1), .int ((-1))]) (w1 := wX5 cyI mo aMF aMT aMW aMU aMP aML aMM aMO aMR aMD aMB aMK 0 mNo mAr mS mG mQ mWa mPa mLa mF mT mW mU mP mL_1 mM_2 mO_9 mR_10 mD_11 mB_12 mK) (ws2 := wX5 cyI mo aMF aMT aMW aMU aMP aML aMM aMO aMR aMD aMB aMK 0 mNo mAr mS mG mQ mWa mPa mLa mF mT mW mU mP mL_1 mM_2 mO_9 mR_10 mD_11 mB_12 mK) ⟨hx, hb, hml, hown, hts⟩ (c_X5_cheapest l dC dI cyI mo aMF aMT aMW aMU aMP aML aMM aMO aMR aMD aMB aMK H.size 0 mNo mAr mS mG mQ mWa mPa mLa mF mT mW mU mP mL_1 mM_2 mO_4 mR_5 mD_6 mB_7 mK (x1_3 + 1) ((-1)) N _ e9) (cwV 2 hts gX5_most_X5_cheapest rfl rfl rfl (by decide +kernel) ⟨Nat.le_of_ble_eq_true rfl, Nat.le_of_ble_eq_true rfl⟩) hK hP hD hS hA [0, 1, 2, 3, 4, 5, 6, 7, 8, 9, 10, 11, 12] [] [0, 1, 2, 3, 4, 5, 6, 7, 8, 9, 10, 11, 12] [0] rfl rfl rfl rfl (by decide) rfl rfl rfl 5 0 rfl rfl rfl hl.1 (Nat.le_of_ble_eq_true rfl) (Nat.le_of_ble_eq_true rfl) (Nat.le_of_ble_eq_true rfl) rfl dX5_most_16 (fun H locs hP hD hS => ?_)
      refine lv_ldc (own := RX5) (v := 1000000) hx hb hown k2 dX5_most_19 ?_
      refine lv_icmp_ge (tgt := 30) hx hb dX5_most_21 (by decide) (fun c9 => ?_) (fun c9 => ?_)
      · have g := ipos c9 g
        cases g
        have h := lpx h
        cases h
        exact hT0 _ _ hP hD hS _ (lv_sub hl [0, 1] rfl)
      · have g := ineg c9 g
        refine lv_iinc (v := x1_3 + 1) (lv' := [(1, .int (x1_3 + 1)), (0, .ref mo)]) hx hb dX5_most_24 hl (k := 1) rfl (by rfl) (by decide) rfl (fun ls hl => ?_)
        refine lv_goto (tgt := 11) hx hb dX5_most_27 (by decide) ?_
        cases g
        exact ih0 _ _ _ _ _ h _ _ hP hD hS _ (lv_sub hl [1, 0] rfl)
  exact hL0 N _ _ _ _ _  e0 _ _ hP hD hS _ (lv_sub hl [1, 0] rfl)
set_option maxHeartbeats 4000000 in
set_option maxRecDepth 100000 in
theorem c_X5_costOpen (l : Launch) (dC : Nat → ClassId) (dI : Nat → Nat → Nat) (cyI : ClassId) (mo aMF aMT aMW aMU aMP aML aMM aMO aMR aMD aMB aMK : Nat) (sz : Nat) (mTh mNo mAr mS mG mQ mWa mPa mLa : Int32) (mF mT mW mU mP mL mM mO mR mD mB mK : Nat → Int32) (N : Nat) (res : Int32 × (Nat → Int32) × (Nat → Int32) × (Nat → Int32) × (Nat → Int32) × (Nat → Int32) × (Nat → Int32)) (h : pX5_costOpen N mNo mAr mS mG mQ mF mT mW mU mP mL mM mO mR mD mB = some res) : Met l yX5_costOpen wsX5_costOpen { frames := 3, cells := 0, slots := 0, locals := 76 } (va_Pc [.ref mo] (zPre (dC, dI) (wX5 cyI mo aMF aMT aMW aMU aMP aML aMM aMO aMR aMD aMB aMK mTh mNo mAr mS mG mQ mWa mPa mLa mF mT mW mU mP mL mM mO mR mD mB mK) [(cyI, .int)] sz)) (zQi (dC, dI) (wX5 cyI mo aMF aMT aMW aMU aMP aML aMM aMO aMR aMD aMB aMK mTh mNo mAr mS mG mQ mWa mPa mLa mF mT mW mU mP res.2.1 res.2.2.1 res.2.2.2.1 res.2.2.2.2.1 res.2.2.2.2.2.1 res.2.2.2.2.2.2 mK) [(cyI, .int)] (res.1) (va_A (wX5 cyI mo aMF aMT aMW aMU aMP aML aMM aMO aMR aMD aMB aMK mTh mNo mAr mS mG mQ mWa mPa mLa mF mT mW mU mP mL mM mO mR mD mB mK) sz)) 0 0 (va_A (wX5 cyI mo aMF aMT aMW aMU aMP aML aMM aMO aMR aMD aMB aMK mTh mNo mAr mS mG mQ mWa mPa mLa mF mT mW mU mP mL mM mO mR mD mB mK) sz) := by
  refine q_ofWi (cc := cX5_costOpen) (maxL := 2) (rt := (some .int)) (by decide) rfl (Nat.le_of_ble_eq_true rfl) ?_
  intro p e s m args below meth c ls A Q H locs hQ hx hb hr hts hown hlocks hml hA hK hP hD hS hl
  have hl : lv_has ls 2 [(0, .ref mo)] := hl
  have k0 := hts (.fieldLink RX5 84 "ConvexConduitModel" "amount" "I") (by decide +kernel)
  have k1 : ∀ w ∈ u_ws RX5 TX5 21, w ∈ wsX5_costOpen := by decide +kernel
  have k2 := hts (.constant RX5 91 (1000000)) (by decide +kernel)
  unfold pX5_costOpen at h
  refine lv_aload_n hx hb dX5_costOpen_0 rfl (lv_at hl 0 rfl) ?_
  obtain ⟨mL_1, mM_2, e9, h⟩ := bd2 h
  refine q_callVv (As := []) (w1 := wX5 cyI mo aMF aMT aMW aMU aMP aML aMM aMO aMR aMD aMB aMK mTh mNo mAr mS mG mQ mWa mPa mLa mF mT mW mU mP mL_1 mM_2 mO mR mD mB mK) (ws2 := wX5 cyI mo aMF aMT aMW aMU aMP aML aMM aMO aMR aMD aMB aMK mTh mNo mAr mS mG mQ mWa mPa mLa mF mT mW mU mP mL_1 mM_2 mO mR mD mB mK) ⟨hx, hb, hml, hown, hts⟩ (c_X5_open l dC dI cyI mo aMF aMT aMW aMU aMP aML aMM aMO aMR aMD aMB aMK H.size mTh mNo mAr mS mG mQ mWa mPa mLa mF mT mW mU mP mL mM mO mR mD mB mK N _ e9) (cwV 0 hts gX5_costOpen_X5_open rfl rfl rfl (by decide +kernel) ⟨Nat.le_of_ble_eq_true rfl, Nat.le_of_ble_eq_true rfl⟩) hK hP hD hS hA [0, 1, 2, 3, 4, 5, 6, 7, 8, 9, 10, 11, 12] [] [0, 1, 2, 3, 4, 5, 6, 7, 8, 9, 10, 11, 12] [0] rfl rfl rfl rfl (by decide) rfl rfl rfl 5 0 rfl rfl rfl hl.1 (Nat.le_of_ble_eq_true rfl) (Nat.le_of_ble_eq_true rfl) (Nat.le_of_ble_eq_true rfl) rfl dX5_costOpen_1 (fun H locs hP hD hS => ?_)
  refine lv_aload_n hx hb dX5_costOpen_4 rfl (lv_at hl 0 rfl) ?_
  refine lv_aload_n hx hb dX5_costOpen_5 rfl (lv_at hl 0 rfl) ?_
  refine va_get (D := (dC, dI)) (ci := 5) (v := .int mQ) (C := RX5) (T := TX5) (N := 21) hx hb hts k1 hown hK hP 0 rfl rfl 10 (by decide) k0 (fun _ h9 => h9) rfl dX5_costOpen_6 ?_
  refine lv_iconst (v := -1) hx hb dX5_costOpen_9 (by decide) ?_
  obtain ⟨r3, mO_4, mR_5, mD_6, mB_7, e9, h⟩ := bd5 h
  refine q_callVi (ret := r3) (As := [.int mQ, .int ((-1))]) (w1 := wX5 cyI mo aMF aMT aMW aMU aMP aML aMM aMO aMR aMD aMB aMK mTh mNo mAr mS mG mQ mWa mPa mLa mF mT mW mU mP mL_1 mM_2 mO_4 mR_5 mD_6 mB_7 mK) (ws2 := wX5 cyI mo aMF aMT aMW aMU aMP aML aMM aMO aMR aMD aMB aMK mTh mNo mAr mS mG mQ mWa mPa mLa mF mT mW mU mP mL_1 mM_2 mO_4 mR_5 mD_6 mB_7 mK) ⟨hx, hb, hml, hown, hts⟩ (c_X5_cheapest l dC dI cyI mo aMF aMT aMW aMU aMP aML aMM aMO aMR aMD aMB aMK H.size mTh mNo mAr mS mG mQ mWa mPa mLa mF mT mW mU mP mL_1 mM_2 mO mR mD mB mK mQ ((-1)) N _ e9) (cwV 2 hts gX5_costOpen_X5_cheapest rfl rfl rfl (by decide +kernel) ⟨Nat.le_of_ble_eq_true rfl, Nat.le_of_ble_eq_true rfl⟩) hK hP hD hS hA [0, 1, 2, 3, 4, 5, 6, 7, 8, 9, 10, 11, 12] [] [0, 1, 2, 3, 4, 5, 6, 7, 8, 9, 10, 11, 12] [0] rfl rfl rfl rfl (by decide) rfl rfl rfl 5 0 rfl rfl rfl hl.1 (Nat.le_of_ble_eq_true rfl) (Nat.le_of_ble_eq_true rfl) (Nat.le_of_ble_eq_true rfl) rfl dX5_costOpen_10 (fun H locs hP hD hS => ?_)
  refine lv_istore_n (lv' := [(1, .int r3), (0, .ref mo)]) hx hb dX5_costOpen_13 rfl hl (by decide) rfl (fun ls hl => ?_)
  refine lv_iload_n hx hb dX5_costOpen_14 rfl (lv_at hl 0 rfl) ?_
  refine lv_ldc (own := RX5) (v := 1000000) hx hb hown k2 dX5_costOpen_15 ?_
  refine lv_icmp_ge (tgt := 24) hx hb dX5_costOpen_17 (by decide) (fun c9 => ?_) (fun c9 => ?_)
  · have h := ipos c9 h
    refine lv_iconst (v := -1) hx hb dX5_costOpen_24 (by decide) ?_
    cases h
    exact q_iret hQ hx hb hr hlocks hP hK hD hS dX5_costOpen_25
  · have h := ineg c9 h
    refine lv_iload_n hx hb dX5_costOpen_20 rfl (lv_at hl 0 rfl) ?_
    refine lv_goto (tgt := 25) hx hb dX5_costOpen_21 (by decide) ?_
    cases h
    exact q_iret hQ hx hb hr hlocks hP hK hD hS dX5_costOpen_25
set_option maxHeartbeats 4000000 in
set_option maxRecDepth 100000 in
theorem c_X5_cost (l : Launch) (dC : Nat → ClassId) (dI : Nat → Nat → Nat) (cyI : ClassId) (mo aMF aMT aMW aMU aMP aML aMM aMO aMR aMD aMB aMK : Nat) (sz : Nat) (mTh mNo mAr mS mG mQ mWa mPa mLa : Int32) (mF mT mW mU mP mL mM mO mR mD mB mK : Nat → Int32) (N : Nat) (res : Int32 × Int32 × (Nat → Int32) × (Nat → Int32) × (Nat → Int32) × (Nat → Int32) × (Nat → Int32) × (Nat → Int32)) (h : pX5_cost N mNo mAr mS mG mQ mF mT mW mU mP mL mM mO mR mD mB = some res) : Met l yX5_cost wsX5_cost { frames := 4, cells := 0, slots := 0, locals := 97 } (va_Pc [.ref mo] (zPre (dC, dI) (wX5 cyI mo aMF aMT aMW aMU aMP aML aMM aMO aMR aMD aMB aMK mTh mNo mAr mS mG mQ mWa mPa mLa mF mT mW mU mP mL mM mO mR mD mB mK) [(cyI, .int)] sz)) (zQi (dC, dI) (wX5 cyI mo aMF aMT aMW aMU aMP aML aMM aMO aMR aMD aMB aMK res.2.1 mNo mAr mS mG mQ mWa mPa mLa mF mT mW mU mP res.2.2.1 res.2.2.2.1 res.2.2.2.2.1 res.2.2.2.2.2.1 res.2.2.2.2.2.2.1 res.2.2.2.2.2.2.2 mK) [(cyI, .int)] (res.1) (va_A (wX5 cyI mo aMF aMT aMW aMU aMP aML aMM aMO aMR aMD aMB aMK mTh mNo mAr mS mG mQ mWa mPa mLa mF mT mW mU mP mL mM mO mR mD mB mK) sz)) 0 0 (va_A (wX5 cyI mo aMF aMT aMW aMU aMP aML aMM aMO aMR aMD aMB aMK mTh mNo mAr mS mG mQ mWa mPa mLa mF mT mW mU mP mL mM mO mR mD mB mK) sz) := by
  refine q_ofWi (cc := cX5_cost) (maxL := 1) (rt := (some .int)) (by decide) rfl (Nat.le_of_ble_eq_true rfl) ?_
  intro p e s m args below meth c ls A Q H locs hQ hx hb hr hts hown hlocks hml hA hK hP hD hS hl
  have hl : lv_has ls 1 [(0, .ref mo)] := hl
  have k0 := hts (.fieldLink RX5 53 "ConvexConduitModel" "thrown" "I") (by decide +kernel)
  have k1 : ∀ w ∈ u_ws RX5 TX5 21, w ∈ wsX5_cost := by decide +kernel
  unfold pX5_cost at h
  refine lv_aload_n hx hb dX5_cost_0 rfl (lv_at hl 0 rfl) ?_
  refine lv_iconst (v := 0) hx hb dX5_cost_1 (by decide) ?_
  refine va_put (D := (dC, dI)) (ci := 5) (v := .int 0) (ty := .int) (C := RX5) (T := TX5) (N := 21) hx hb hts k1 tyX5 tyX5_ok nmX5 hown hK hP hD hS 0 rfl rfl 0 (by decide) k0 (fun _ h9 => h9) rfl (by decide +kernel) rfl rfl (Nat.le_of_ble_eq_true rfl) dX5_cost_2 (fun H locs hP hD hS => ?_)
  have hP : va_P (dC, dI) vwCl (wX5 cyI mo aMF aMT aMW aMU aMP aML aMM aMO aMR aMD aMB aMK 0 mNo mAr mS mG mQ mWa mPa mLa mF mT mW mU mP mL mM mO mR mD mB mK) H := hP
  have hD : va_D A (wX5 cyI mo aMF aMT aMW aMU aMP aML aMM aMO aMR aMD aMB aMK 0 mNo mAr mS mG mQ mWa mPa mLa mF mT mW mU mP mL mM mO mR mD mB mK) := hD
  refine lv_aload_n hx hb dX5_cost_5 rfl (lv_at hl 0 rfl) ?_
  obtain ⟨r1, mL_2, mM_3, mO_4, mR_5, mD_6, mB_7, e9, h⟩ := bd7 h
  refine q_callVi (ret := r1) (As := []) (w1 := wX5 cyI mo aMF aMT aMW aMU aMP aML aMM aMO aMR aMD aMB aMK 0 mNo mAr mS mG mQ mWa mPa mLa mF mT mW mU mP mL_2 mM_3 mO_4 mR_5 mD_6 mB_7 mK) (ws2 := wX5 cyI mo aMF aMT aMW aMU aMP aML aMM aMO aMR aMD aMB aMK 0 mNo mAr mS mG mQ mWa mPa mLa mF mT mW mU mP mL_2 mM_3 mO_4 mR_5 mD_6 mB_7 mK) ⟨hx, hb, hml, hown, hts⟩ (c_X5_costOpen l dC dI cyI mo aMF aMT aMW aMU aMP aML aMM aMO aMR aMD aMB aMK H.size 0 mNo mAr mS mG mQ mWa mPa mLa mF mT mW mU mP mL mM mO mR mD mB mK N _ e9) (cwV 0 hts gX5_cost_X5_costOpen rfl rfl rfl (by decide +kernel) ⟨Nat.le_of_ble_eq_true rfl, Nat.le_of_ble_eq_true rfl⟩) hK hP hD hS hA [0, 1, 2, 3, 4, 5, 6, 7, 8, 9, 10, 11, 12] [] [0, 1, 2, 3, 4, 5, 6, 7, 8, 9, 10, 11, 12] [0] rfl rfl rfl rfl (by decide) rfl rfl rfl 5 0 rfl rfl rfl hl.1 (Nat.le_of_ble_eq_true rfl) (Nat.le_of_ble_eq_true rfl) (Nat.le_of_ble_eq_true rfl) rfl dX5_cost_6 (fun H locs hP hD hS => ?_)
  cases h
  exact q_iret hQ hx hb hr hlocks hP hK hD hS dX5_cost_9
set_option maxHeartbeats 4000000 in
set_option maxRecDepth 100000 in
theorem c_X5_costByCircles (l : Launch) (dC : Nat → ClassId) (dI : Nat → Nat → Nat) (cyI : ClassId) (mo aMF aMT aMW aMU aMP aML aMM aMO aMR aMD aMB aMK : Nat) (sz : Nat) (mTh mNo mAr mS mG mQ mWa mPa mLa : Int32) (mF mT mW mU mP mL mM mO mR mD mB mK : Nat → Int32) (N : Nat) (res : Int32 × Int32 × (Nat → Int32) × (Nat → Int32) × (Nat → Int32) × (Nat → Int32) × (Nat → Int32) × (Nat → Int32)) (h : pX5_costByCircles N mNo mAr mS mG mQ mF mT mW mU mP mL mM mO mR mD mB = some res) : Met l yX5_costByCircles wsX5_costByCircles { frames := 4, cells := 0, slots := 0, locals := 97 } (va_Pc [.ref mo] (zPre (dC, dI) (wX5 cyI mo aMF aMT aMW aMU aMP aML aMM aMO aMR aMD aMB aMK mTh mNo mAr mS mG mQ mWa mPa mLa mF mT mW mU mP mL mM mO mR mD mB mK) [(cyI, .int)] sz)) (zQi (dC, dI) (wX5 cyI mo aMF aMT aMW aMU aMP aML aMM aMO aMR aMD aMB aMK res.2.1 mNo mAr mS mG mQ mWa mPa mLa mF mT mW mU mP res.2.2.1 res.2.2.2.1 res.2.2.2.2.1 res.2.2.2.2.2.1 res.2.2.2.2.2.2.1 res.2.2.2.2.2.2.2 mK) [(cyI, .int)] (res.1) (va_A (wX5 cyI mo aMF aMT aMW aMU aMP aML aMM aMO aMR aMD aMB aMK mTh mNo mAr mS mG mQ mWa mPa mLa mF mT mW mU mP mL mM mO mR mD mB mK) sz)) 0 0 (va_A (wX5 cyI mo aMF aMT aMW aMU aMP aML aMM aMO aMR aMD aMB aMK mTh mNo mAr mS mG mQ mWa mPa mLa mF mT mW mU mP mL mM mO mR mD mB mK) sz) := by
  refine q_ofWi (cc := cX5_costByCircles) (maxL := 1) (rt := (some .int)) (by decide) rfl (Nat.le_of_ble_eq_true rfl) ?_
  intro p e s m args below meth c ls A Q H locs hQ hx hb hr hts hown hlocks hml hA hK hP hD hS hl
  have hl : lv_has ls 1 [(0, .ref mo)] := hl
  have k0 := hts (.fieldLink RX5 53 "ConvexConduitModel" "thrown" "I") (by decide +kernel)
  have k1 : ∀ w ∈ u_ws RX5 TX5 21, w ∈ wsX5_costByCircles := by decide +kernel
  unfold pX5_costByCircles at h
  refine lv_aload_n hx hb dX5_costByCircles_0 rfl (lv_at hl 0 rfl) ?_
  refine lv_iconst (v := 0) hx hb dX5_costByCircles_1 (by decide) ?_
  refine va_put (D := (dC, dI)) (ci := 5) (v := .int 0) (ty := .int) (C := RX5) (T := TX5) (N := 21) hx hb hts k1 tyX5 tyX5_ok nmX5 hown hK hP hD hS 0 rfl rfl 0 (by decide) k0 (fun _ h9 => h9) rfl (by decide +kernel) rfl rfl (Nat.le_of_ble_eq_true rfl) dX5_costByCircles_2 (fun H locs hP hD hS => ?_)
  have hP : va_P (dC, dI) vwCl (wX5 cyI mo aMF aMT aMW aMU aMP aML aMM aMO aMR aMD aMB aMK 0 mNo mAr mS mG mQ mWa mPa mLa mF mT mW mU mP mL mM mO mR mD mB mK) H := hP
  have hD : va_D A (wX5 cyI mo aMF aMT aMW aMU aMP aML aMM aMO aMR aMD aMB aMK 0 mNo mAr mS mG mQ mWa mPa mLa mF mT mW mU mP mL mM mO mR mD mB mK) := hD
  refine lv_aload_n hx hb dX5_costByCircles_5 rfl (lv_at hl 0 rfl) ?_
  obtain ⟨r1, mL_2, mM_3, mO_4, mR_5, mD_6, mB_7, e9, h⟩ := bd7 h
  refine q_callVi (ret := r1) (As := []) (w1 := wX5 cyI mo aMF aMT aMW aMU aMP aML aMM aMO aMR aMD aMB aMK 0 mNo mAr mS mG mQ mWa mPa mLa mF mT mW mU mP mL_2 mM_3 mO_4 mR_5 mD_6 mB_7 mK) (ws2 := wX5 cyI mo aMF aMT aMW aMU aMP aML aMM aMO aMR aMD aMB aMK 0 mNo mAr mS mG mQ mWa mPa mLa mF mT mW mU mP mL_2 mM_3 mO_4 mR_5 mD_6 mB_7 mK) ⟨hx, hb, hml, hown, hts⟩ (c_X5_costOpen l dC dI cyI mo aMF aMT aMW aMU aMP aML aMM aMO aMR aMD aMB aMK H.size 0 mNo mAr mS mG mQ mWa mPa mLa mF mT mW mU mP mL mM mO mR mD mB mK N _ e9) (cwV 0 hts gX5_costByCircles_X5_costOpen rfl rfl rfl (by decide +kernel) ⟨Nat.le_of_ble_eq_true rfl, Nat.le_of_ble_eq_true rfl⟩) hK hP hD hS hA [0, 1, 2, 3, 4, 5, 6, 7, 8, 9, 10, 11, 12] [] [0, 1, 2, 3, 4, 5, 6, 7, 8, 9, 10, 11, 12] [0] rfl rfl rfl rfl (by decide) rfl rfl rfl 5 0 rfl rfl rfl hl.1 (Nat.le_of_ble_eq_true rfl) (Nat.le_of_ble_eq_true rfl) (Nat.le_of_ble_eq_true rfl) rfl dX5_costByCircles_6 (fun H locs hP hD hS => ?_)
  cases h
  exact q_iret hQ hx hb hr hlocks hP hK hD hS dX5_costByCircles_9
set_option maxHeartbeats 4000000 in
set_option maxRecDepth 100000 in
theorem c_X5_more (l : Launch) (dC : Nat → ClassId) (dI : Nat → Nat → Nat) (cyI : ClassId) (mo aMF aMT aMW aMU aMP aML aMM aMO aMR aMD aMB aMK : Nat) (sz : Nat) (mTh mNo mAr mS mG mQ mWa mPa mLa : Int32) (mF mT mW mU mP mL mM mO mR mD mB mK : Nat → Int32) (p0 : Int32) (N : Nat) (res : Int32 × Int32 × (Nat → Int32) × (Nat → Int32) × (Nat → Int32) × (Nat → Int32) × (Nat → Int32) × (Nat → Int32)) (h : pX5_more N mNo mAr mS mG mQ mF mT mW mU mP mL mM mO mR mD mB p0 = some res) : Met l yX5_more wsX5_more { frames := 4, cells := 0, slots := 0, locals := 97 } (va_Pc [.ref mo, .int p0] (zPre (dC, dI) (wX5 cyI mo aMF aMT aMW aMU aMP aML aMM aMO aMR aMD aMB aMK mTh mNo mAr mS mG mQ mWa mPa mLa mF mT mW mU mP mL mM mO mR mD mB mK) [(cyI, .int)] sz)) (zQi (dC, dI) (wX5 cyI mo aMF aMT aMW aMU aMP aML aMM aMO aMR aMD aMB aMK res.2.1 mNo mAr mS mG mQ mWa mPa mLa mF mT mW mU mP res.2.2.1 res.2.2.2.1 res.2.2.2.2.1 res.2.2.2.2.2.1 res.2.2.2.2.2.2.1 res.2.2.2.2.2.2.2 mK) [(cyI, .int)] (res.1) (va_A (wX5 cyI mo aMF aMT aMW aMU aMP aML aMM aMO aMR aMD aMB aMK mTh mNo mAr mS mG mQ mWa mPa mLa mF mT mW mU mP mL mM mO mR mD mB mK) sz)) 0 0 (va_A (wX5 cyI mo aMF aMT aMW aMU aMP aML aMM aMO aMR aMD aMB aMK mTh mNo mAr mS mG mQ mWa mPa mLa mF mT mW mU mP mL mM mO mR mD mB mK) sz) := by
  refine q_ofWi (cc := cX5_more) (maxL := 4) (rt := (some .int)) (by decide) rfl (Nat.le_of_ble_eq_true rfl) ?_
  intro p e s m args below meth c ls A Q H locs hQ hx hb hr hts hown hlocks hml hA hK hP hD hS hl
  have hl : lv_has ls 4 [(0, .ref mo), (1, .int p0)] := hl
  have k0 := hts (.fieldLink RX5 81 "ConvexConduitModel" "source" "I") (by decide +kernel)
  have k1 : ∀ w ∈ u_ws RX5 TX5 21, w ∈ wsX5_more := by decide +kernel
  have k2 := hts (.fieldLink RX5 84 "ConvexConduitModel" "amount" "I") (by decide +kernel)
  have k3 := hts (.constant RX5 91 (1000000)) (by decide +kernel)
  unfold pX5_more at h
  refine lv_aload_n hx hb dX5_more_0 rfl (lv_at hl 0 rfl) ?_
  refine lv_aload_n hx hb dX5_more_1 rfl (lv_at hl 0 rfl) ?_
  refine lv_iload_n hx hb dX5_more_2 rfl (lv_at hl 1 rfl) ?_
  obtain ⟨b1, e9, h⟩ := bd h
  refine q_callVi (ret := b2i b1) (As := [.int p0]) (w1 := wX5 cyI mo aMF aMT aMW aMU aMP aML aMM aMO aMR aMD aMB aMK mTh mNo mAr mS mG mQ mWa mPa mLa mF mT mW mU mP mL mM mO mR mD mB mK) (ws2 := wX5 cyI mo aMF aMT aMW aMU aMP aML aMM aMO aMR aMD aMB aMK mTh mNo mAr mS mG mQ mWa mPa mLa mF mT mW mU mP mL mM mO mR mD mB mK) ⟨hx, hb, hml, hown, hts⟩ (c_X5_isNode l dC dI cyI mo aMF aMT aMW aMU aMP aML aMM aMO aMR aMD aMB aMK H.size mTh mNo mAr mS mG mQ mWa mPa mLa mF mT mW mU mP mL mM mO mR mD mB mK p0 _ e9) (cwV 1 hts gX5_more_X5_isNode rfl rfl rfl (by decide +kernel) ⟨Nat.le_of_ble_eq_true rfl, Nat.le_of_ble_eq_true rfl⟩) hK hP hD hS hA [0, 1, 2, 3, 4, 5, 6, 7, 8, 9, 10, 11, 12] [] [0, 1, 2, 3, 4, 5, 6, 7, 8, 9, 10, 11, 12] [0] rfl rfl rfl rfl (by decide) rfl rfl rfl 5 0 rfl rfl rfl hl.1 (Nat.le_of_ble_eq_true rfl) (Nat.le_of_ble_eq_true rfl) (Nat.le_of_ble_eq_true rfl) rfl dX5_more_3 (fun H locs hP hD hS => ?_)
  refine lv_if_eq (tgt := 13) hx hb dX5_more_6 (by decide) (fun c9 => ?_) (fun c9 => ?_)
  · have h := ipos c9 h
    refine lv_iconst (v := 1) hx hb dX5_more_13 (by decide) ?_
    obtain ⟨b2, mTh_3, e9, h⟩ := bd2 h
    refine q_callVi (ret := b2i b2) (As := [.int 1]) (w1 := wX5 cyI mo aMF aMT aMW aMU aMP aML aMM aMO aMR aMD aMB aMK mTh_3 mNo mAr mS mG mQ mWa mPa mLa mF mT mW mU mP mL mM mO mR mD mB mK) (ws2 := wX5 cyI mo aMF aMT aMW aMU aMP aML aMM aMO aMR aMD aMB aMK mTh_3 mNo mAr mS mG mQ mWa mPa mLa mF mT mW mU mP mL mM mO mR mD mB mK) ⟨hx, hb, hml, hown, hts⟩ (c_X5_goesWell l dC dI cyI mo aMF aMT aMW aMU aMP aML aMM aMO aMR aMD aMB aMK H.size mTh mNo mAr mS mG mQ mWa mPa mLa mF mT mW mU mP mL mM mO mR mD mB mK 1 _ e9) (cwV 1 hts gX5_more_X5_goesWell rfl rfl rfl (by decide +kernel) ⟨Nat.le_of_ble_eq_true rfl, Nat.le_of_ble_eq_true rfl⟩) hK hP hD hS hA [0, 1, 2, 3, 4, 5, 6, 7, 8, 9, 10, 11, 12] [] [0, 1, 2, 3, 4, 5, 6, 7, 8, 9, 10, 11, 12] [0] rfl rfl rfl rfl (by decide) rfl rfl rfl 5 0 rfl rfl rfl hl.1 (Nat.le_of_ble_eq_true rfl) (Nat.le_of_ble_eq_true rfl) (Nat.le_of_ble_eq_true rfl) rfl dX5_more_14 (fun H locs hP hD hS => ?_)
    refine lv_if_ne (tgt := 22) hx hb dX5_more_17 (by decide) (fun c9 => ?_) (fun c9 => ?_)
    · have h := ineg c9 h
      refine lv_aload_n hx hb dX5_more_22 rfl (lv_at hl 0 rfl) ?_
      obtain ⟨r4, mL_5, mM_6, mO_7, mR_8, mD_9, mB_10, e9, h⟩ := bd7 h
      refine q_callVi (ret := r4) (As := []) (w1 := wX5 cyI mo aMF aMT aMW aMU aMP aML aMM aMO aMR aMD aMB aMK mTh_3 mNo mAr mS mG mQ mWa mPa mLa mF mT mW mU mP mL_5 mM_6 mO_7 mR_8 mD_9 mB_10 mK) (ws2 := wX5 cyI mo aMF aMT aMW aMU aMP aML aMM aMO aMR aMD aMB aMK mTh_3 mNo mAr mS mG mQ mWa mPa mLa mF mT mW mU mP mL_5 mM_6 mO_7 mR_8 mD_9 mB_10 mK) ⟨hx, hb, hml, hown, hts⟩ (c_X5_costOpen l dC dI cyI mo aMF aMT aMW aMU aMP aML aMM aMO aMR aMD aMB aMK H.size mTh_3 mNo mAr mS mG mQ mWa mPa mLa mF mT mW mU mP mL mM mO mR mD mB mK N _ e9) (cwV 0 hts gX5_more_X5_costOpen rfl rfl rfl (by decide +kernel) ⟨Nat.le_of_ble_eq_true rfl, Nat.le_of_ble_eq_true rfl⟩) hK hP hD hS hA [0, 1, 2, 3, 4, 5, 6, 7, 8, 9, 10, 11, 12] [] [0, 1, 2, 3, 4, 5, 6, 7, 8, 9, 10, 11, 12] [0] rfl rfl rfl rfl (by decide) rfl rfl rfl 5 0 rfl rfl rfl hl.1 (Nat.le_of_ble_eq_true rfl) (Nat.le_of_ble_eq_true rfl) (Nat.le_of_ble_eq_true rfl) rfl dX5_more_23 (fun H locs hP hD hS => ?_)
      refine lv_istore_n (lv' := [(2, .int r4), (0, .ref mo), (1, .int p0)]) hx hb dX5_more_26 rfl hl (by decide) rfl (fun ls hl => ?_)
      refine lv_iload_n hx hb dX5_more_27 rfl (lv_at hl 2 rfl) ?_
      refine lv_aload_n hx hb dX5_more_28 rfl (lv_at hl 1 rfl) ?_
      refine va_get (D := (dC, dI)) (ci := 5) (v := .int mS) (C := RX5) (T := TX5) (N := 21) hx hb hts k1 hown hK hP 0 rfl rfl 8 (by decide) k0 (fun _ h9 => h9) rfl dX5_more_29 ?_
      refine lv_icmp_ne (tgt := 39) hx hb dX5_more_32 (by decide) (fun c9 => ?_) (fun c9 => ?_)
      · have h := ineg c9 h
        refine lv_aload_n hx hb dX5_more_39 rfl (lv_at hl 1 rfl) ?_
        refine lv_aload_n hx hb dX5_more_40 rfl (lv_at hl 1 rfl) ?_
        refine va_get (D := (dC, dI)) (ci := 5) (v := .int mQ) (C := RX5) (T := TX5) (N := 21) hx hb hts k1 hown hK hP 0 rfl rfl 10 (by decide) k2 (fun _ h9 => h9) rfl dX5_more_41 ?_
        refine lv_iload_n hx hb dX5_more_44 rfl (lv_at hl 2 rfl) ?_
        obtain ⟨r11, mO_12, mR_13, mD_14, mB_15, e9, h⟩ := bd5 h
        refine q_callVi (ret := r11) (As := [.int mQ, .int p0]) (w1 := wX5 cyI mo aMF aMT aMW aMU aMP aML aMM aMO aMR aMD aMB aMK mTh_3 mNo mAr mS mG mQ mWa mPa mLa mF mT mW mU mP mL_5 mM_6 mO_12 mR_13 mD_14 mB_15 mK) (ws2 := wX5 cyI mo aMF aMT aMW aMU aMP aML aMM aMO aMR aMD aMB aMK mTh_3 mNo mAr mS mG mQ mWa mPa mLa mF mT mW mU mP mL_5 mM_6 mO_12 mR_13 mD_14 mB_15 mK) ⟨hx, hb, hml, hown, hts⟩ (c_X5_cheapest l dC dI cyI mo aMF aMT aMW aMU aMP aML aMM aMO aMR aMD aMB aMK H.size mTh_3 mNo mAr mS mG mQ mWa mPa mLa mF mT mW mU mP mL_5 mM_6 mO_7 mR_8 mD_9 mB_10 mK mQ p0 N _ e9) (cwV 2 hts gX5_more_X5_cheapest rfl rfl rfl (by decide +kernel) ⟨Nat.le_of_ble_eq_true rfl, Nat.le_of_ble_eq_true rfl⟩) hK hP hD hS hA [0, 1, 2, 3, 4, 5, 6, 7, 8, 9, 10, 11, 12] [] [0, 1, 2, 3, 4, 5, 6, 7, 8, 9, 10, 11, 12] [0] rfl rfl rfl rfl (by decide) rfl rfl rfl 5 0 rfl rfl rfl hl.1 (Nat.le_of_ble_eq_true rfl) (Nat.le_of_ble_eq_true rfl) (Nat.le_of_ble_eq_true rfl) rfl dX5_more_45 (fun H locs hP hD hS => ?_)
        refine lv_istore_n (lv' := [(3, .int r11), (2, .int r4), (0, .ref mo), (1, .int p0)]) hx hb dX5_more_48 rfl hl (by decide) rfl (fun ls hl => ?_)
        refine lv_iload_n hx hb dX5_more_49 rfl (lv_at hl 1 rfl) ?_
        refine lv_iconst (v := -1) hx hb dX5_more_50 (by decide) ?_
        refine lv_icmp_eq (tgt := 60) hx hb dX5_more_51 (by decide) (fun c9 => ?_) (fun c9 => ?_)
        · have h := ipos c9 h
          refine lv_iconst (v := -1) hx hb dX5_more_60 (by decide) ?_
          refine lv_goto (tgt := 67) hx hb dX5_more_61 (by decide) ?_
          cases h
          exact q_iret hQ hx hb hr hlocks hP hK hD hS dX5_more_67
        · have h := ineg c9 h
          refine lv_iload_n hx hb dX5_more_54 rfl (lv_at hl 0 rfl) ?_
          refine lv_ldc (own := RX5) (v := 1000000) hx hb hown k3 dX5_more_55 ?_
          refine lv_icmp_lt (tgt := 64) hx hb dX5_more_57 (by decide) (fun c9 => ?_) (fun c9 => ?_)
          · have h := ipos c9 h
            refine lv_iload_n hx hb dX5_more_64 rfl (lv_at hl 0 rfl) ?_
            refine lv_iload_n hx hb dX5_more_65 rfl (lv_at hl 1 rfl) ?_
            refine lv_isub hx hb dX5_more_66 ?_
            cases h
            exact q_iret hQ hx hb hr hlocks hP hK hD hS dX5_more_67
          · have h := ineg c9 h
            refine lv_iconst (v := -1) hx hb dX5_more_60 (by decide) ?_
            refine lv_goto (tgt := 67) hx hb dX5_more_61 (by decide) ?_
            cases h
            exact q_iret hQ hx hb hr hlocks hP hK hD hS dX5_more_67
      · have h := ipos c9 h
        refine lv_iload_n hx hb dX5_more_35 rfl (lv_at hl 0 rfl) ?_
        refine lv_goto (tgt := 48) hx hb dX5_more_36 (by decide) ?_
        refine lv_istore_n (lv' := [(3, .int r4), (2, .int r4), (0, .ref mo), (1, .int p0)]) hx hb dX5_more_48 rfl hl (by decide) rfl (fun ls hl => ?_)
        refine lv_iload_n hx hb dX5_more_49 rfl (lv_at hl 1 rfl) ?_
        refine lv_iconst (v := -1) hx hb dX5_more_50 (by decide) ?_
        refine lv_icmp_eq (tgt := 60) hx hb dX5_more_51 (by decide) (fun c9 => ?_) (fun c9 => ?_)
        · have h := ipos c9 h
          refine lv_iconst (v := -1) hx hb dX5_more_60 (by decide) ?_
          refine lv_goto (tgt := 67) hx hb dX5_more_61 (by decide) ?_
          cases h
          exact q_iret hQ hx hb hr hlocks hP hK hD hS dX5_more_67
        · have h := ineg c9 h
          refine lv_iload_n hx hb dX5_more_54 rfl (lv_at hl 0 rfl) ?_
          refine lv_ldc (own := RX5) (v := 1000000) hx hb hown k3 dX5_more_55 ?_
          refine lv_icmp_lt (tgt := 64) hx hb dX5_more_57 (by decide) (fun c9 => ?_) (fun c9 => ?_)
          · have h := ipos c9 h
            refine lv_iload_n hx hb dX5_more_64 rfl (lv_at hl 0 rfl) ?_
            refine lv_iload_n hx hb dX5_more_65 rfl (lv_at hl 1 rfl) ?_
            refine lv_isub hx hb dX5_more_66 ?_
            cases h
            exact q_iret hQ hx hb hr hlocks hP hK hD hS dX5_more_67
          · have h := ineg c9 h
            refine lv_iconst (v := -1) hx hb dX5_more_60 (by decide) ?_
            refine lv_goto (tgt := 67) hx hb dX5_more_61 (by decide) ?_
            cases h
            exact q_iret hQ hx hb hr hlocks hP hK hD hS dX5_more_67
    · have h := ipos c9 h
      refine lv_iconst (v := 0) hx hb dX5_more_20 (by decide) ?_
      cases h
      exact q_iret hQ hx hb hr hlocks hP hK hD hS dX5_more_21
  · have h := ineg c9 h
    refine lv_iconst (v := 0) hx hb dX5_more_9 (by decide) ?_
    refine lv_goto (tgt := 14) hx hb dX5_more_10 (by decide) ?_
    obtain ⟨b16, mTh_17, e9, h⟩ := bd2 h
    refine q_callVi (ret := b2i b16) (As := [.int 0]) (w1 := wX5 cyI mo aMF aMT aMW aMU aMP aML aMM aMO aMR aMD aMB aMK mTh_17 mNo mAr mS mG mQ mWa mPa mLa mF mT mW mU mP mL mM mO mR mD mB mK) (ws2 := wX5 cyI mo aMF aMT aMW aMU aMP aML aMM aMO aMR aMD aMB aMK mTh_17 mNo mAr mS mG mQ mWa mPa mLa mF mT mW mU mP mL mM mO mR mD mB mK) ⟨hx, hb, hml, hown, hts⟩ (c_X5_goesWell l dC dI cyI mo aMF aMT aMW aMU aMP aML aMM aMO aMR aMD aMB aMK H.size mTh mNo mAr mS mG mQ mWa mPa mLa mF mT mW mU mP mL mM mO mR mD mB mK 0 _ e9) (cwV 1 hts gX5_more_X5_goesWell rfl rfl rfl (by decide +kernel) ⟨Nat.le_of_ble_eq_true rfl, Nat.le_of_ble_eq_true rfl⟩) hK hP hD hS hA [0, 1, 2, 3, 4, 5, 6, 7, 8, 9, 10, 11, 12] [] [0, 1, 2, 3, 4, 5, 6, 7, 8, 9, 10, 11, 12] [0] rfl rfl rfl rfl (by decide) rfl rfl rfl 5 0 rfl rfl rfl hl.1 (Nat.le_of_ble_eq_true rfl) (Nat.le_of_ble_eq_true rfl) (Nat.le_of_ble_eq_true rfl) rfl dX5_more_14 (fun H locs hP hD hS => ?_)
    refine lv_if_ne (tgt := 22) hx hb dX5_more_17 (by decide) (fun c9 => ?_) (fun c9 => ?_)
    · have h := ineg c9 h
      refine lv_aload_n hx hb dX5_more_22 rfl (lv_at hl 0 rfl) ?_
      obtain ⟨r18, mL_19, mM_20, mO_21, mR_22, mD_23, mB_24, e9, h⟩ := bd7 h
      refine q_callVi (ret := r18) (As := []) (w1 := wX5 cyI mo aMF aMT aMW aMU aMP aML aMM aMO aMR aMD aMB aMK mTh_17 mNo mAr mS mG mQ mWa mPa mLa mF mT mW mU mP mL_19 mM_20 mO_21 mR_22 mD_23 mB_24 mK) (ws2 := wX5 cyI mo aMF aMT aMW aMU aMP aML aMM aMO aMR aMD aMB aMK mTh_17 mNo mAr mS mG mQ mWa mPa mLa mF mT mW mU mP mL_19 mM_20 mO_21 mR_22 mD_23 mB_24 mK) ⟨hx, hb, hml, hown, hts⟩ (c_X5_costOpen l dC dI cyI mo aMF aMT aMW aMU aMP aML aMM aMO aMR aMD aMB aMK H.size mTh_17 mNo mAr mS mG mQ mWa mPa mLa mF mT mW mU mP mL mM mO mR mD mB mK N _ e9) (cwV 0 hts gX5_more_X5_costOpen rfl rfl rfl (by decide +kernel) ⟨Nat.le_of_ble_eq_true rfl, Nat.le_of_ble_eq_true rfl⟩) hK hP hD hS hA [0, 1, 2, 3, 4, 5, 6, 7, 8, 9, 10, 11, 12] [] [0, 1, 2, 3, 4, 5, 6, 7, 8, 9, 10, 11, 12] [0] rfl rfl rfl rfl (by decide) rfl rfl rfl 5 0 rfl rfl rfl hl.1 (Nat.le_of_ble_eq_true rfl) (Nat.le_of_ble_eq_true rfl) (Nat.le_of_ble_eq_true rfl) rfl dX5_more_23 (fun H locs hP hD hS => ?_)
      refine lv_istore_n (lv' := [(2, .int r18), (0, .ref mo), (1, .int p0)]) hx hb dX5_more_26 rfl hl (by decide) rfl (fun ls hl => ?_)
      refine lv_iload_n hx hb dX5_more_27 rfl (lv_at hl 2 rfl) ?_
      refine lv_aload_n hx hb dX5_more_28 rfl (lv_at hl 1 rfl) ?_
      refine va_get (D := (dC, dI)) (ci := 5) (v := .int mS) (C := RX5) (T := TX5) (N := 21) hx hb hts k1 hown hK hP 0 rfl rfl 8 (by decide) k0 (fun _ h9 => h9) rfl dX5_more_29 ?_
      refine lv_icmp_ne (tgt := 39) hx hb dX5_more_32 (by decide) (fun c9 => ?_) (fun c9 => ?_)
      · have h := ineg c9 h
        refine lv_aload_n hx hb dX5_more_39 rfl (lv_at hl 1 rfl) ?_
        refine lv_aload_n hx hb dX5_more_40 rfl (lv_at hl 1 rfl) ?_
        refine va_get (D := (dC, dI)) (ci := 5) (v := .int mQ) (C := RX5) (T := TX5) (N := 21) hx hb hts k1 hown hK hP 0 rfl rfl 10 (by decide) k2 (fun _ h9 => h9) rfl dX5_more_41 ?_
        refine lv_iload_n hx hb dX5_more_44 rfl (lv_at hl 2 rfl) ?_
        obtain ⟨r25, mO_26, mR_27, mD_28, mB_29, e9, h⟩ := bd5 h
        refine q_callVi (ret := r25) (As := [.int mQ, .int p0]) (w1 := wX5 cyI mo aMF aMT aMW aMU aMP aML aMM aMO aMR aMD aMB aMK mTh_17 mNo mAr mS mG mQ mWa mPa mLa mF mT mW mU mP mL_19 mM_20 mO_26 mR_27 mD_28 mB_29 mK) (ws2 := wX5 cyI mo aMF aMT aMW aMU aMP aML aMM aMO aMR aMD aMB aMK mTh_17 mNo mAr mS mG mQ mWa mPa mLa mF mT mW mU mP mL_19 mM_20 mO_26 mR_27 mD_28 mB_29 mK) ⟨hx, hb, hml, hown, hts⟩ (c_X5_cheapest l dC dI cyI mo aMF aMT aMW aMU aMP aML aMM aMO aMR aMD aMB aMK H.size mTh_17 mNo mAr mS mG mQ mWa mPa mLa mF mT mW mU mP mL_19 mM_20 mO_21 mR_22 mD_23 mB_24 mK mQ p0 N _ e9) (cwV 2 hts gX5_more_X5_cheapest rfl rfl rfl (by decide +kernel) ⟨Nat.le_of_ble_eq_true rfl, Nat.le_of_ble_eq_true rfl⟩) hK hP hD hS hA [0, 1, 2, 3, 4, 5, 6, 7, 8, 9, 10, 11, 12] [] [0, 1, 2, 3, 4, 5, 6, 7, 8, 9, 10, 11, 12] [0] rfl rfl rfl rfl (by decide) rfl rfl rfl 5 0 rfl rfl rfl hl.1 (Nat.le_of_ble_eq_true rfl) (Nat.le_of_ble_eq_true rfl) (Nat.le_of_ble_eq_true rfl) rfl dX5_more_45 (fun H locs hP hD hS => ?_)
        refine lv_istore_n (lv' := [(3, .int r25), (2, .int r18), (0, .ref mo), (1, .int p0)]) hx hb dX5_more_48 rfl hl (by decide) rfl (fun ls hl => ?_)
        refine lv_iload_n hx hb dX5_more_49 rfl (lv_at hl 1 rfl) ?_
        refine lv_iconst (v := -1) hx hb dX5_more_50 (by decide) ?_
        refine lv_icmp_eq (tgt := 60) hx hb dX5_more_51 (by decide) (fun c9 => ?_) (fun c9 => ?_)
        · have h := ipos c9 h
          refine lv_iconst (v := -1) hx hb dX5_more_60 (by decide) ?_
          refine lv_goto (tgt := 67) hx hb dX5_more_61 (by decide) ?_
          cases h
          exact q_iret hQ hx hb hr hlocks hP hK hD hS dX5_more_67
        · have h := ineg c9 h
          refine lv_iload_n hx hb dX5_more_54 rfl (lv_at hl 0 rfl) ?_
          refine lv_ldc (own := RX5) (v := 1000000) hx hb hown k3 dX5_more_55 ?_
          refine lv_icmp_lt (tgt := 64) hx hb dX5_more_57 (by decide) (fun c9 => ?_) (fun c9 => ?_)
          · have h := ipos c9 h
            refine lv_iload_n hx hb dX5_more_64 rfl (lv_at hl 0 rfl) ?_
            refine lv_iload_n hx hb dX5_more_65 rfl (lv_at hl 1 rfl) ?_
            refine lv_isub hx hb dX5_more_66 ?_
            cases h
            exact q_iret hQ hx hb hr hlocks hP hK hD hS dX5_more_67
          · have h := ineg c9 h
            refine lv_iconst (v := -1) hx hb dX5_more_60 (by decide) ?_
            refine lv_goto (tgt := 67) hx hb dX5_more_61 (by decide) ?_
            cases h
            exact q_iret hQ hx hb hr hlocks hP hK hD hS dX5_more_67
      · have h := ipos c9 h
        refine lv_iload_n hx hb dX5_more_35 rfl (lv_at hl 0 rfl) ?_
        refine lv_goto (tgt := 48) hx hb dX5_more_36 (by decide) ?_
        refine lv_istore_n (lv' := [(3, .int r18), (2, .int r18), (0, .ref mo), (1, .int p0)]) hx hb dX5_more_48 rfl hl (by decide) rfl (fun ls hl => ?_)
        refine lv_iload_n hx hb dX5_more_49 rfl (lv_at hl 1 rfl) ?_
        refine lv_iconst (v := -1) hx hb dX5_more_50 (by decide) ?_
        refine lv_icmp_eq (tgt := 60) hx hb dX5_more_51 (by decide) (fun c9 => ?_) (fun c9 => ?_)
        · have h := ipos c9 h
          refine lv_iconst (v := -1) hx hb dX5_more_60 (by decide) ?_
          refine lv_goto (tgt := 67) hx hb dX5_more_61 (by decide) ?_
          cases h
          exact q_iret hQ hx hb hr hlocks hP hK hD hS dX5_more_67
        · have h := ineg c9 h
          refine lv_iload_n hx hb dX5_more_54 rfl (lv_at hl 0 rfl) ?_
          refine lv_ldc (own := RX5) (v := 1000000) hx hb hown k3 dX5_more_55 ?_
          refine lv_icmp_lt (tgt := 64) hx hb dX5_more_57 (by decide) (fun c9 => ?_) (fun c9 => ?_)
          · have h := ipos c9 h
            refine lv_iload_n hx hb dX5_more_64 rfl (lv_at hl 0 rfl) ?_
            refine lv_iload_n hx hb dX5_more_65 rfl (lv_at hl 1 rfl) ?_
            refine lv_isub hx hb dX5_more_66 ?_
            cases h
            exact q_iret hQ hx hb hr hlocks hP hK hD hS dX5_more_67
          · have h := ineg c9 h
            refine lv_iconst (v := -1) hx hb dX5_more_60 (by decide) ?_
            refine lv_goto (tgt := 67) hx hb dX5_more_61 (by decide) ?_
            cases h
            exact q_iret hQ hx hb hr hlocks hP hK hD hS dX5_more_67
    · have h := ipos c9 h
      refine lv_iconst (v := 0) hx hb dX5_more_20 (by decide) ?_
      cases h
      exact q_iret hQ hx hb hr hlocks hP hK hD hS dX5_more_21
set_option maxHeartbeats 4000000 in
set_option maxRecDepth 100000 in
theorem c_X5_fit (l : Launch) (dC : Nat → ClassId) (dI : Nat → Nat → Nat) (cyI : ClassId) (mo aMF aMT aMW aMU aMP aML aMM aMO aMR aMD aMB aMK : Nat) (sz : Nat) (mTh mNo mAr mS mG mQ mWa mPa mLa : Int32) (mF mT mW mU mP mL mM mO mR mD mB mK : Nat → Int32) (p0 p1 p2 p3 : Int32) (N : Nat) (res : Int32 × (Nat → Int32) × (Nat → Int32) × (Nat → Int32) × (Nat → Int32) × (Nat → Int32) × (Nat → Int32)) (h : pX5_fit N mNo mAr mS mG mQ mF mT mW mU mL mM mO mR mD mB p0 p1 p2 p3 = some res) : Met l yX5_fit wsX5_fit { frames := 3, cells := 0, slots := 0, locals := 76 } (va_Pc [.ref mo, .int p0, .int p1, .int p2, .int p3] (zPre (dC, dI) (wX5 cyI mo aMF aMT aMW aMU aMP aML aMM aMO aMR aMD aMB aMK mTh mNo mAr mS mG mQ mWa mPa mLa mF mT mW mU mP mL mM mO mR mD mB mK) [(cyI, .int)] sz)) (zQi (dC, dI) (wX5 cyI mo aMF aMT aMW aMU aMP aML aMM aMO aMR aMD aMB aMK mTh mNo mAr mS mG mQ mWa mPa mLa mF mT mW mU mP res.2.1 res.2.2.1 res.2.2.2.1 res.2.2.2.2.1 res.2.2.2.2.2.1 res.2.2.2.2.2.2 mK) [(cyI, .int)] (res.1) (va_A (wX5 cyI mo aMF aMT aMW aMU aMP aML aMM aMO aMR aMD aMB aMK mTh mNo mAr mS mG mQ mWa mPa mLa mF mT mW mU mP mL mM mO mR mD mB mK) sz)) 0 0 (va_A (wX5 cyI mo aMF aMT aMW aMU aMP aML aMM aMO aMR aMD aMB aMK mTh mNo mAr mS mG mQ mWa mPa mLa mF mT mW mU mP mL mM mO mR mD mB mK) sz) := by
  refine q_ofWi (cc := cX5_fit) (maxL := 9) (rt := (some .int)) (by decide) rfl (Nat.le_of_ble_eq_true rfl) ?_
  intro p e s m args below meth c ls A Q H locs hQ hx hb hr hts hown hlocks hml hA hK hP hD hS hl
  have hl : lv_has ls 9 [(0, .ref mo), (1, .int p0), (2, .int p1), (3, .int p2), (4, .int p3)] := hl
  have k0 := hts (.fieldLink RX5 29 "ConvexConduitModel" "least" "[I") (by decide +kernel)
  have k1 : ∀ w ∈ u_ws RX5 TX5 21, w ∈ wsX5_fit := by decide +kernel
  have k2 := hts (.fieldLink RX5 32 "ConvexConduitModel" "most" "[I") (by decide +kernel)
  have k3 := hts (.fieldLink RX5 84 "ConvexConduitModel" "amount" "I") (by decide +kernel)
  unfold pX5_fit at h
  refine lv_iload_n hx hb dX5_fit_0 rfl (lv_at hl 3 rfl) ?_
  refine lv_istore (lv' := [(5, .int p2), (0, .ref mo), (1, .int p0), (2, .int p1), (3, .int p2), (4, .int p3)]) hx hb dX5_fit_1 hl (by decide) rfl (fun ls hl => ?_)
  refine lv_iconst (v := 0) hx hb dX5_fit_3 (by decide) ?_
  refine lv_istore (lv' := [(6, .int 0), (5, .int p2), (0, .ref mo), (1, .int p0), (2, .int p1), (3, .int p2), (4, .int p3)]) hx hb dX5_fit_4 hl (by decide) rfl (fun ls hl => ?_)
  obtain ⟨x5_22, x6_23, mL_24, mM_25, mO_26, mR_27, mD_28, mB_29, e0, h⟩ := bd8 h
  have hT0 : ∀ (H : Heap) (locs : List Loc), va_P (dC, dI) vwCl (wX5 cyI mo aMF aMT aMW aMU aMP aML aMM aMO aMR aMD aMB aMK mTh mNo mAr mS mG mQ mWa mPa mLa mF mT mW mU mP mL_24 mM_25 mO_26 mR_27 mD_28 mB_29 mK) H → va_D A (wX5 cyI mo aMF aMT aMW aMU aMP aML aMM aMO aMR aMD aMB aMK mTh mNo mAr mS mG mQ mWa mPa mLa mF mT mW mU mP mL_24 mM_25 mO_26 mR_27 mD_28 mB_29 mK) → va_S A s.heap H locs → ∀ ls : Array Slot, lv_has ls 9 [(0, .ref mo), (1, .int p0), (2, .int p1), (3, .int p2), (4, .int p3), (5, .int x5_22), (6, .int x6_23)] → W p l e { frames := 3, cells := 0, slots := 0, locals := 76 } s m args below meth c H locs 0 0 Q (F0 m 89 ls []) := by
    intro H locs hP hD hS ls hl
    refine lv_iload hx hb dX5_fit_89 (lv_at hl 5 rfl) ?_
    refine lv_iload hx hb dX5_fit_91 (lv_at hl 4 rfl) ?_
    refine lv_isub hx hb dX5_fit_93 ?_
    cases h
    exact q_iret hQ hx hb hr hlocks hP hK hD hS dX5_fit_94
  have hL0 : ∀ (n9 : Nat) (x5_1 : Int32) (x6_2 : Int32) (mL_3 : Nat → Int32) (mM_4 : Nat → Int32) (mO_5 : Nat → Int32) (mR_6 : Nat → Int32) (mD_7 : Nat → Int32) (mB_8 : Nat → Int32), lp (un8 (pX5_fit_l6 N mAr mF mG mNo mQ mS mT mU mW p0 p1 p3)) n9 ((x5_1, x6_2, mL_3, mM_4, mO_5, mR_6, mD_7, mB_8)) = some ((x5_22, x6_23, mL_24, mM_25, mO_26, mR_27, mD_28, mB_29)) → ∀ (H : Heap) (locs : List Loc), va_P (dC, dI) vwCl (wX5 cyI mo aMF aMT aMW aMU aMP aML aMM aMO aMR aMD aMB aMK mTh mNo mAr mS mG mQ mWa mPa mLa mF mT mW mU mP mL_3 mM_4 mO_5 mR_6 mD_7 mB_8 mK) H → va_D A (wX5 cyI mo aMF aMT aMW aMU aMP aML aMM aMO aMR aMD aMB aMK mTh mNo mAr mS mG mQ mWa mPa mLa mF mT mW mU mP mL_3 mM_4 mO_5 mR_6 mD_7 mB_8 mK) → va_S A s.heap H locs → ∀ ls : Array Slot, lv_has ls 9 [(0, .ref mo), (1, .int p0), (2, .int p1), (3, .int p2), (4, .int p3), (5, .int x5_1), (6, .int x6_2)] → W p l e { frames := 3, cells := 0, slots := 0, locals := 76 } s m args below meth c H locs 0 0 Q (F0 m 6 ls []) := by
    intro n9
    induction n9 with
    | zero =>
      intro x5_1 x6_2 mL_3 mM_4 mO_5 mR_6 mD_7 mB_8 h
      exact lp0 h
    | succ n9 ih0 =>
      intro x5_1 x6_2 mL_3 mM_4 mO_5 mR_6 mD_7 mB_8 h H locs hP hD hS ls hl
      obtain ⟨o9, g, h⟩ := lps h
      replace g : pX5_fit_l6 N mAr mF mG mNo mQ mS mT mU mW p0 p1 p3 x5_1 x6_2 mL_3 mM_4 mO_5 mR_6 mD_7 mB_8 = some o9 := g
      unfold pX5_fit_l6 at g
      refine lv_iload hx hb dX5_fit_6 (lv_at hl 6 rfl) ?_
      refine lv_if_ne (tgt := 89) hx hb dX5_fit_8 (by decide) (fun c9 => ?_) (fun c9 => ?_)
      · have g := ineg c9 g
        cases g
        have h := lpx h
        cases h
        exact hT0 _ _ hP hD hS _ (lv_sub hl [0, 1, 2, 3, 4, 5, 6] rfl)
      · have g := ipos c9 g
        refine lv_aload_n hx hb dX5_fit_11 rfl (lv_at hl 0 rfl) ?_
        refine va_get (D := (dC, dI)) (ci := 5) (v := .ref aML) (C := RX5) (T := TX5) (N := 21) hx hb hts k1 hown hK hP 0 rfl rfl 11 (by decide) k0 (fun _ h9 => h9) rfl dX5_fit_12 ?_
        refine lv_iload_n hx hb dX5_fit_15 rfl (lv_at hl 1 rfl) ?_
        obtain ⟨t9, e9, g⟩ := bd g
        refine q_iald hx hb hK hP 6 0 rfl rfl e9 dX5_fit_16 ?_
        refine lv_istore (lv' := [(7, .int t9), (0, .ref mo), (1, .int p0), (2, .int p1), (3, .int p2), (4, .int p3), (5, .int x5_1), (6, .int x6_2)]) hx hb dX5_fit_17 hl (by decide) rfl (fun ls hl => ?_)
        refine lv_aload_n hx hb dX5_fit_19 rfl (lv_at hl 1 rfl) ?_
        refine va_get (D := (dC, dI)) (ci := 5) (v := .ref aMM) (C := RX5) (T := TX5) (N := 21) hx hb hts k1 hown hK hP 0 rfl rfl 12 (by decide) k2 (fun _ h9 => h9) rfl dX5_fit_20 ?_
        refine lv_iload_n hx hb dX5_fit_23 rfl (lv_at hl 2 rfl) ?_
        obtain ⟨t10, e9, g⟩ := bd g
        refine q_iald hx hb hK hP 7 0 rfl rfl e9 dX5_fit_24 ?_
        refine lv_istore (lv' := [(8, .int t10), (7, .int t9), (0, .ref mo), (1, .int p0), (2, .int p1), (3, .int p2), (4, .int p3), (5, .int x5_1), (6, .int x6_2)]) hx hb dX5_fit_25 hl (by decide) rfl (fun ls hl => ?_)
        refine lv_aload_n hx hb dX5_fit_27 rfl (lv_at hl 2 rfl) ?_
        refine va_get (D := (dC, dI)) (ci := 5) (v := .ref aML) (C := RX5) (T := TX5) (N := 21) hx hb hts k1 hown hK hP 0 rfl rfl 11 (by decide) k0 (fun _ h9 => h9) rfl dX5_fit_28 ?_
        refine lv_iload_n hx hb dX5_fit_31 rfl (lv_at hl 3 rfl) ?_
        refine lv_iload hx hb dX5_fit_32 (lv_at hl 7 rfl) ?_
        obtain ⟨mL_11, e9, g⟩ := bd g
        refine q_iast (ws2 := wX5 cyI mo aMF aMT aMW aMU aMP aML aMM aMO aMR aMD aMB aMK mTh mNo mAr mS mG mQ mWa mPa mLa mF mT mW mU mP mL_11 mM_4 mO_5 mR_6 mD_7 mB_8 mK) hx hb hK hP hD hS 6 0 rfl rfl e9 dX5_fit_34 rfl (fun H locs hP hD hS => ?_)
        refine lv_aload_n hx hb dX5_fit_35 rfl (lv_at hl 2 rfl) ?_
        refine va_get (D := (dC, dI)) (ci := 5) (v := .ref aMM) (C := RX5) (T := TX5) (N := 21) hx hb hts k1 hown hK hP 0 rfl rfl 12 (by decide) k2 (fun _ h9 => h9) rfl dX5_fit_36 ?_
        refine lv_iload_n hx hb dX5_fit_39 rfl (lv_at hl 3 rfl) ?_
        refine lv_iload hx hb dX5_fit_40 (lv_at hl 7 rfl) ?_
        obtain ⟨mM_12, e9, g⟩ := bd g
        refine q_iast (ws2 := wX5 cyI mo aMF aMT aMW aMU aMP aML aMM aMO aMR aMD aMB aMK mTh mNo mAr mS mG mQ mWa mPa mLa mF mT mW mU mP mL_11 mM_12 mO_5 mR_6 mD_7 mB_8 mK) hx hb hK hP hD hS 7 0 rfl rfl e9 dX5_fit_42 rfl (fun H locs hP hD hS => ?_)
        refine lv_aload_n hx hb dX5_fit_43 rfl (lv_at hl 2 rfl) ?_
        refine lv_aload_n hx hb dX5_fit_44 rfl (lv_at hl 2 rfl) ?_
        refine va_get (D := (dC, dI)) (ci := 5) (v := .int mQ) (C := RX5) (T := TX5) (N := 21) hx hb hts k1 hown hK hP 0 rfl rfl 10 (by decide) k3 (fun _ h9 => h9) rfl dX5_fit_45 ?_
        refine lv_iconst (v := -1) hx hb dX5_fit_48 (by decide) ?_
        obtain ⟨r13, mO_14, mR_15, mD_16, mB_17, e9, g⟩ := bd5 g
        refine q_callVi (ret := r13) (As := [.int mQ, .int ((-1))]) (w1 := wX5 cyI mo aMF aMT aMW aMU aMP aML aMM aMO aMR aMD aMB aMK mTh mNo mAr mS mG mQ mWa mPa mLa mF mT mW mU mP mL_11 mM_12 mO_14 mR_15 mD_16 mB_17 mK) (ws2 := wX5 cyI mo aMF aMT aMW aMU aMP aML aMM aMO aMR aMD aMB aMK mTh mNo mAr mS mG mQ mWa mPa mLa mF mT mW mU mP mL_11 mM_12 mO_14 mR_15 mD_16 mB_17 mK) ⟨hx, hb, hml, hown, hts⟩ (c_X5_cheapest l dC dI cyI mo aMF aMT aMW aMU aMP aML aMM aMO aMR aMD aMB aMK H.size mTh mNo mAr mS mG mQ mWa mPa mLa mF mT mW mU mP mL_11 mM_12 mO_5 mR_6 mD_7 mB_8 mK mQ ((-1)) N _ e9) (cwV 2 hts gX5_fit_X5_cheapest rfl rfl rfl (by decide +kernel) ⟨Nat.le_of_ble_eq_true rfl, Nat.le_of_ble_eq_true rfl⟩) hK hP hD hS hA [0, 1, 2, 3, 4, 5, 6, 7, 8, 9, 10, 11, 12] [] [0, 1, 2, 3, 4, 5, 6, 7, 8, 9, 10, 11, 12] [0] rfl rfl rfl rfl (by decide) rfl rfl rfl 5 0 rfl rfl rfl hl.1 (Nat.le_of_ble_eq_true rfl) (Nat.le_of_ble_eq_true rfl) (Nat.le_of_ble_eq_true rfl) rfl dX5_fit_49 (fun H locs hP hD hS => ?_)
        refine lv_iload_n hx hb dX5_fit_52 rfl (lv_at hl 4 rfl) ?_
        refine lv_icmp_ne (tgt := 60) hx hb dX5_fit_53 (by decide) (fun c9 => ?_) (fun c9 => ?_)
        · have g := ineg c9 g
          refine lv_iconst (v := 0) hx hb dX5_fit_60 (by decide) ?_
          refine lv_istore (lv' := [(6, .int 0), (8, .int t10), (7, .int t9), (0, .ref mo), (1, .int p0), (2, .int p1), (3, .int p2), (4, .int p3), (5, .int x5_1)]) hx hb dX5_fit_61 hl (by decide) rfl (fun ls hl => ?_)
          refine lv_aload_n hx hb dX5_fit_63 rfl (lv_at hl 3 rfl) ?_
          refine va_get (D := (dC, dI)) (ci := 5) (v := .ref aML) (C := RX5) (T := TX5) (N := 21) hx hb hts k1 hown hK hP 0 rfl rfl 11 (by decide) k0 (fun _ h9 => h9) rfl dX5_fit_64 ?_
          refine lv_iload_n hx hb dX5_fit_67 rfl (lv_at hl 4 rfl) ?_
          refine lv_iload hx hb dX5_fit_68 (lv_at hl 2 rfl) ?_
          obtain ⟨mL_18, e9, g⟩ := bd g
          refine q_iast (ws2 := wX5 cyI mo aMF aMT aMW aMU aMP aML aMM aMO aMR aMD aMB aMK mTh mNo mAr mS mG mQ mWa mPa mLa mF mT mW mU mP mL_18 mM_12 mO_14 mR_15 mD_16 mB_17 mK) hx hb hK hP hD hS 6 0 rfl rfl e9 dX5_fit_70 rfl (fun H locs hP hD hS => ?_)
          refine lv_aload_n hx hb dX5_fit_71 rfl (lv_at hl 3 rfl) ?_
          refine va_get (D := (dC, dI)) (ci := 5) (v := .ref aMM) (C := RX5) (T := TX5) (N := 21) hx hb hts k1 hown hK hP 0 rfl rfl 12 (by decide) k2 (fun _ h9 => h9) rfl dX5_fit_72 ?_
          refine lv_iload_n hx hb dX5_fit_75 rfl (lv_at hl 4 rfl) ?_
          refine lv_iload hx hb dX5_fit_76 (lv_at hl 1 rfl) ?_
          obtain ⟨mM_19, e9, g⟩ := bd g
          refine q_iast (ws2 := wX5 cyI mo aMF aMT aMW aMU aMP aML aMM aMO aMR aMD aMB aMK mTh mNo mAr mS mG mQ mWa mPa mLa mF mT mW mU mP mL_18 mM_19 mO_14 mR_15 mD_16 mB_17 mK) hx hb hK hP hD hS 7 0 rfl rfl e9 dX5_fit_78 rfl (fun H locs hP hD hS => ?_)
          refine lv_iload hx hb dX5_fit_79 (lv_at hl 8 rfl) ?_
          refine lv_iload hx hb dX5_fit_81 (lv_at hl 7 rfl) ?_
          refine lv_iadd hx hb dX5_fit_83 ?_
          refine lv_istore (lv' := [(5, .int (x5_1 + p3)), (6, .int 0), (8, .int t10), (7, .int t9), (0, .ref mo), (1, .int p0), (2, .int p1), (3, .int p2), (4, .int p3)]) hx hb dX5_fit_84 hl (by decide) rfl (fun ls hl => ?_)
          refine lv_goto (tgt := 6) hx hb dX5_fit_86 (by decide) ?_
          cases g
          exact ih0 _ _ _ _ _ _ _ _ h _ _ hP hD hS _ (lv_sub hl [4, 5, 6, 7, 8, 0, 1] rfl)
        · have g := ipos c9 g
          refine lv_iconst (v := 1) hx hb dX5_fit_56 (by decide) ?_
          refine lv_goto (tgt := 61) hx hb dX5_fit_57 (by decide) ?_
          refine lv_istore (lv' := [(6, .int 1), (8, .int t10), (7, .int t9), (0, .ref mo), (1, .int p0), (2, .int p1), (3, .int p2), (4, .int p3), (5, .int x5_1)]) hx hb dX5_fit_61 hl (by decide) rfl (fun ls hl => ?_)
          refine lv_aload_n hx hb dX5_fit_63 rfl (lv_at hl 3 rfl) ?_
          refine va_get (D := (dC, dI)) (ci := 5) (v := .ref aML) (C := RX5) (T := TX5) (N := 21) hx hb hts k1 hown hK hP 0 rfl rfl 11 (by decide) k0 (fun _ h9 => h9) rfl dX5_fit_64 ?_
          refine lv_iload_n hx hb dX5_fit_67 rfl (lv_at hl 4 rfl) ?_
          refine lv_iload hx hb dX5_fit_68 (lv_at hl 2 rfl) ?_
          obtain ⟨mL_20, e9, g⟩ := bd g
          refine q_iast (ws2 := wX5 cyI mo aMF aMT aMW aMU aMP aML aMM aMO aMR aMD aMB aMK mTh mNo mAr mS mG mQ mWa mPa mLa mF mT mW mU mP mL_20 mM_12 mO_14 mR_15 mD_16 mB_17 mK) hx hb hK hP hD hS 6 0 rfl rfl e9 dX5_fit_70 rfl (fun H locs hP hD hS => ?_)
          refine lv_aload_n hx hb dX5_fit_71 rfl (lv_at hl 3 rfl) ?_
          refine va_get (D := (dC, dI)) (ci := 5) (v := .ref aMM) (C := RX5) (T := TX5) (N := 21) hx hb hts k1 hown hK hP 0 rfl rfl 12 (by decide) k2 (fun _ h9 => h9) rfl dX5_fit_72 ?_
          refine lv_iload_n hx hb dX5_fit_75 rfl (lv_at hl 4 rfl) ?_
          refine lv_iload hx hb dX5_fit_76 (lv_at hl 1 rfl) ?_
          obtain ⟨mM_21, e9, g⟩ := bd g
          refine q_iast (ws2 := wX5 cyI mo aMF aMT aMW aMU aMP aML aMM aMO aMR aMD aMB aMK mTh mNo mAr mS mG mQ mWa mPa mLa mF mT mW mU mP mL_20 mM_21 mO_14 mR_15 mD_16 mB_17 mK) hx hb hK hP hD hS 7 0 rfl rfl e9 dX5_fit_78 rfl (fun H locs hP hD hS => ?_)
          refine lv_iload hx hb dX5_fit_79 (lv_at hl 8 rfl) ?_
          refine lv_iload hx hb dX5_fit_81 (lv_at hl 7 rfl) ?_
          refine lv_iadd hx hb dX5_fit_83 ?_
          refine lv_istore (lv' := [(5, .int (x5_1 + p3)), (6, .int 1), (8, .int t10), (7, .int t9), (0, .ref mo), (1, .int p0), (2, .int p1), (3, .int p2), (4, .int p3)]) hx hb dX5_fit_84 hl (by decide) rfl (fun ls hl => ?_)
          refine lv_goto (tgt := 6) hx hb dX5_fit_86 (by decide) ?_
          cases g
          exact ih0 _ _ _ _ _ _ _ _ h _ _ hP hD hS _ (lv_sub hl [4, 5, 6, 7, 8, 0, 1] rfl)
  exact hL0 N _ _ _ _ _ _ _ _  e0 _ _ hP hD hS _ (lv_sub hl [2, 3, 4, 5, 6, 1, 0] rfl)
set_option maxHeartbeats 4000000 in
set_option maxRecDepth 100000 in
theorem c_X5_flow (l : Launch) (dC : Nat → ClassId) (dI : Nat → Nat → Nat) (cyI : ClassId) (mo aMF aMT aMW aMU aMP aML aMM aMO aMR aMD aMB aMK : Nat) (sz : Nat) (mTh mNo mAr mS mG mQ mWa mPa mLa : Int32) (mF mT mW mU mP mL mM mO mR mD mB mK : Nat → Int32) (p0 : Int32) (N : Nat) (res : Int32 × Int32 × (Nat → Int32) × (Nat → Int32) × (Nat → Int32) × (Nat → Int32) × (Nat → Int32) × (Nat → Int32)) (h : pX5_flow N mNo mAr mS mG mQ mF mT mW mU mP mL mM mO mR mD mB p0 = some res) : Met l yX5_flow wsX5_flow { frames := 4, cells := 0, slots := 0, locals := 104 } (va_Pc [.ref mo, .int p0] (zPre (dC, dI) (wX5 cyI mo aMF aMT aMW aMU aMP aML aMM aMO aMR aMD aMB aMK mTh mNo mAr mS mG mQ mWa mPa mLa mF mT mW mU mP mL mM mO mR mD mB mK) [(cyI, .int)] sz)) (zQi (dC, dI) (wX5 cyI mo aMF aMT aMW aMU aMP aML aMM aMO aMR aMD aMB aMK res.2.1 mNo mAr mS mG mQ mWa mPa mLa mF mT mW mU mP res.2.2.1 res.2.2.2.1 res.2.2.2.2.1 res.2.2.2.2.2.1 res.2.2.2.2.2.2.1 res.2.2.2.2.2.2.2 mK) [(cyI, .int)] (res.1) (va_A (wX5 cyI mo aMF aMT aMW aMU aMP aML aMM aMO aMR aMD aMB aMK mTh mNo mAr mS mG mQ mWa mPa mLa mF mT mW mU mP mL mM mO mR mD mB mK) sz)) 0 0 (va_A (wX5 cyI mo aMF aMT aMW aMU aMP aML aMM aMO aMR aMD aMB aMK mTh mNo mAr mS mG mQ mWa mPa mLa mF mT mW mU mP mL mM mO mR mD mB mK) sz) := by
  refine q_ofWi (cc := cX5_flow) (maxL := 5) (rt := (some .int)) (by decide) rfl (Nat.le_of_ble_eq_true rfl) ?_
  intro p e s m args below meth c ls A Q H locs hQ hx hb hr hts hown hlocks hml hA hK hP hD hS hl
  have hl : lv_has ls 5 [(0, .ref mo), (1, .int p0)] := hl
  have k0 := hts (.fieldLink RX5 29 "ConvexConduitModel" "least" "[I") (by decide +kernel)
  have k1 : ∀ w ∈ u_ws RX5 TX5 21, w ∈ wsX5_flow := by decide +kernel
  have k2 := hts (.fieldLink RX5 32 "ConvexConduitModel" "most" "[I") (by decide +kernel)
  unfold pX5_flow at h
  refine lv_aload_n hx hb dX5_flow_0 rfl (lv_at hl 0 rfl) ?_
  refine lv_aload_n hx hb dX5_flow_1 rfl (lv_at hl 0 rfl) ?_
  refine lv_iload_n hx hb dX5_flow_2 rfl (lv_at hl 1 rfl) ?_
  obtain ⟨b1, e9, h⟩ := bd h
  refine q_callVi (ret := b2i b1) (As := [.int p0]) (w1 := wX5 cyI mo aMF aMT aMW aMU aMP aML aMM aMO aMR aMD aMB aMK mTh mNo mAr mS mG mQ mWa mPa mLa mF mT mW mU mP mL mM mO mR mD mB mK) (ws2 := wX5 cyI mo aMF aMT aMW aMU aMP aML aMM aMO aMR aMD aMB aMK mTh mNo mAr mS mG mQ mWa mPa mLa mF mT mW mU mP mL mM mO mR mD mB mK) ⟨hx, hb, hml, hown, hts⟩ (c_X5_isArc l dC dI cyI mo aMF aMT aMW aMU aMP aML aMM aMO aMR aMD aMB aMK H.size mTh mNo mAr mS mG mQ mWa mPa mLa mF mT mW mU mP mL mM mO mR mD mB mK p0 _ e9) (cwV 1 hts gX5_flow_X5_isArc rfl rfl rfl (by decide +kernel) ⟨Nat.le_of_ble_eq_true rfl, Nat.le_of_ble_eq_true rfl⟩) hK hP hD hS hA [0, 1, 2, 3, 4, 5, 6, 7, 8, 9, 10, 11, 12] [] [0, 1, 2, 3, 4, 5, 6, 7, 8, 9, 10, 11, 12] [0] rfl rfl rfl rfl (by decide) rfl rfl rfl 5 0 rfl rfl rfl hl.1 (Nat.le_of_ble_eq_true rfl) (Nat.le_of_ble_eq_true rfl) (Nat.le_of_ble_eq_true rfl) rfl dX5_flow_3 (fun H locs hP hD hS => ?_)
  refine lv_if_eq (tgt := 13) hx hb dX5_flow_6 (by decide) (fun c9 => ?_) (fun c9 => ?_)
  · have h := ipos c9 h
    refine lv_iconst (v := 1) hx hb dX5_flow_13 (by decide) ?_
    obtain ⟨b2, mTh_3, e9, h⟩ := bd2 h
    refine q_callVi (ret := b2i b2) (As := [.int 1]) (w1 := wX5 cyI mo aMF aMT aMW aMU aMP aML aMM aMO aMR aMD aMB aMK mTh_3 mNo mAr mS mG mQ mWa mPa mLa mF mT mW mU mP mL mM mO mR mD mB mK) (ws2 := wX5 cyI mo aMF aMT aMW aMU aMP aML aMM aMO aMR aMD aMB aMK mTh_3 mNo mAr mS mG mQ mWa mPa mLa mF mT mW mU mP mL mM mO mR mD mB mK) ⟨hx, hb, hml, hown, hts⟩ (c_X5_goesWell l dC dI cyI mo aMF aMT aMW aMU aMP aML aMM aMO aMR aMD aMB aMK H.size mTh mNo mAr mS mG mQ mWa mPa mLa mF mT mW mU mP mL mM mO mR mD mB mK 1 _ e9) (cwV 1 hts gX5_flow_X5_goesWell rfl rfl rfl (by decide +kernel) ⟨Nat.le_of_ble_eq_true rfl, Nat.le_of_ble_eq_true rfl⟩) hK hP hD hS hA [0, 1, 2, 3, 4, 5, 6, 7, 8, 9, 10, 11, 12] [] [0, 1, 2, 3, 4, 5, 6, 7, 8, 9, 10, 11, 12] [0] rfl rfl rfl rfl (by decide) rfl rfl rfl 5 0 rfl rfl rfl hl.1 (Nat.le_of_ble_eq_true rfl) (Nat.le_of_ble_eq_true rfl) (Nat.le_of_ble_eq_true rfl) rfl dX5_flow_14 (fun H locs hP hD hS => ?_)
    refine lv_if_ne (tgt := 22) hx hb dX5_flow_17 (by decide) (fun c9 => ?_) (fun c9 => ?_)
    · have h := ineg c9 h
      refine lv_aload_n hx hb dX5_flow_22 rfl (lv_at hl 0 rfl) ?_
      obtain ⟨r4, mL_5, mM_6, mO_7, mR_8, mD_9, mB_10, e9, h⟩ := bd7 h
      refine q_callVi (ret := r4) (As := []) (w1 := wX5 cyI mo aMF aMT aMW aMU aMP aML aMM aMO aMR aMD aMB aMK mTh_3 mNo mAr mS mG mQ mWa mPa mLa mF mT mW mU mP mL_5 mM_6 mO_7 mR_8 mD_9 mB_10 mK) (ws2 := wX5 cyI mo aMF aMT aMW aMU aMP aML aMM aMO aMR aMD aMB aMK mTh_3 mNo mAr mS mG mQ mWa mPa mLa mF mT mW mU mP mL_5 mM_6 mO_7 mR_8 mD_9 mB_10 mK) ⟨hx, hb, hml, hown, hts⟩ (c_X5_costOpen l dC dI cyI mo aMF aMT aMW aMU aMP aML aMM aMO aMR aMD aMB aMK H.size mTh_3 mNo mAr mS mG mQ mWa mPa mLa mF mT mW mU mP mL mM mO mR mD mB mK N _ e9) (cwV 0 hts gX5_flow_X5_costOpen rfl rfl rfl (by decide +kernel) ⟨Nat.le_of_ble_eq_true rfl, Nat.le_of_ble_eq_true rfl⟩) hK hP hD hS hA [0, 1, 2, 3, 4, 5, 6, 7, 8, 9, 10, 11, 12] [] [0, 1, 2, 3, 4, 5, 6, 7, 8, 9, 10, 11, 12] [0] rfl rfl rfl rfl (by decide) rfl rfl rfl 5 0 rfl rfl rfl hl.1 (Nat.le_of_ble_eq_true rfl) (Nat.le_of_ble_eq_true rfl) (Nat.le_of_ble_eq_true rfl) rfl dX5_flow_23 (fun H locs hP hD hS => ?_)
      refine lv_istore_n (lv' := [(2, .int r4), (0, .ref mo), (1, .int p0)]) hx hb dX5_flow_26 rfl hl (by decide) rfl (fun ls hl => ?_)
      refine lv_iload_n hx hb dX5_flow_27 rfl (lv_at hl 0 rfl) ?_
      refine lv_iconst (v := -1) hx hb dX5_flow_28 (by decide) ?_
      refine lv_icmp_ne (tgt := 34) hx hb dX5_flow_29 (by decide) (fun c9 => ?_) (fun c9 => ?_)
      · have h := ineg c9 h
        refine lv_iconst (v := 0) hx hb dX5_flow_34 (by decide) ?_
        refine lv_istore_n (lv' := [(3, .int 0), (2, .int r4), (0, .ref mo), (1, .int p0)]) hx hb dX5_flow_35 rfl hl (by decide) rfl (fun ls hl => ?_)
        obtain ⟨x3_27, mL_28, mM_29, mO_30, mR_31, mD_32, mB_33, e0, h⟩ := bd7 h
        have hT0 : ∀ (H : Heap) (locs : List Loc), va_P (dC, dI) vwCl (wX5 cyI mo aMF aMT aMW aMU aMP aML aMM aMO aMR aMD aMB aMK mTh_3 mNo mAr mS mG mQ mWa mPa mLa mF mT mW mU mP mL_28 mM_29 mO_30 mR_31 mD_32 mB_33 mK) H → va_D A (wX5 cyI mo aMF aMT aMW aMU aMP aML aMM aMO aMR aMD aMB aMK mTh_3 mNo mAr mS mG mQ mWa mPa mLa mF mT mW mU mP mL_28 mM_29 mO_30 mR_31 mD_32 mB_33 mK) → va_S A s.heap H locs → ∀ ls : Array Slot, lv_has ls 5 [(0, .ref mo), (1, .int p0), (2, .int r4), (3, .int x3_27)] → W p l e { frames := 4, cells := 0, slots := 0, locals := 104 } s m args below meth c H locs 0 0 Q (F0 m 73 ls []) := by
          intro H locs hP hD hS ls hl
          refine lv_aload_n hx hb dX5_flow_73 rfl (lv_at hl 0 rfl) ?_
          refine lv_iload_n hx hb dX5_flow_74 rfl (lv_at hl 1 rfl) ?_
          refine lv_iload_n hx hb dX5_flow_75 rfl (lv_at hl 2 rfl) ?_
          refine lv_iconst (v := 0) hx hb dX5_flow_76 (by decide) ?_
          refine lv_iconst (v := 1) hx hb dX5_flow_77 (by decide) ?_
          obtain ⟨r34, mL_35, mM_36, mO_37, mR_38, mD_39, mB_40, e9, h⟩ := bd7 h
          refine q_callVi (ret := r34) (As := [.int p0, .int r4, .int 0, .int 1]) (w1 := wX5 cyI mo aMF aMT aMW aMU aMP aML aMM aMO aMR aMD aMB aMK mTh_3 mNo mAr mS mG mQ mWa mPa mLa mF mT mW mU mP mL_35 mM_36 mO_37 mR_38 mD_39 mB_40 mK) (ws2 := wX5 cyI mo aMF aMT aMW aMU aMP aML aMM aMO aMR aMD aMB aMK mTh_3 mNo mAr mS mG mQ mWa mPa mLa mF mT mW mU mP mL_35 mM_36 mO_37 mR_38 mD_39 mB_40 mK) ⟨hx, hb, hml, hown, hts⟩ (c_X5_fit l dC dI cyI mo aMF aMT aMW aMU aMP aML aMM aMO aMR aMD aMB aMK H.size mTh_3 mNo mAr mS mG mQ mWa mPa mLa mF mT mW mU mP mL_28 mM_29 mO_30 mR_31 mD_32 mB_33 mK p0 r4 0 1 N _ e9) (cwV 4 hts gX5_flow_X5_fit rfl rfl rfl (by decide +kernel) ⟨Nat.le_of_ble_eq_true rfl, Nat.le_of_ble_eq_true rfl⟩) hK hP hD hS hA [0, 1, 2, 3, 4, 5, 6, 7, 8, 9, 10, 11, 12] [] [0, 1, 2, 3, 4, 5, 6, 7, 8, 9, 10, 11, 12] [0] rfl rfl rfl rfl (by decide) rfl rfl rfl 5 0 rfl rfl rfl hl.1 (Nat.le_of_ble_eq_true rfl) (Nat.le_of_ble_eq_true rfl) (Nat.le_of_ble_eq_true rfl) rfl dX5_flow_78 (fun H locs hP hD hS => ?_)
          cases h
          exact q_iret hQ hx hb hr hlocks hP hK hD hS dX5_flow_81
        have hL0 : ∀ (n9 : Nat) (x3_11 : Int32) (mL_12 : Nat → Int32) (mM_13 : Nat → Int32) (mO_14 : Nat → Int32) (mR_15 : Nat → Int32) (mD_16 : Nat → Int32) (mB_17 : Nat → Int32), lp (un7 (pX5_flow_l36 N mAr mF mG mNo mQ mS mT mU mW p0 r4)) n9 ((x3_11, mL_12, mM_13, mO_14, mR_15, mD_16, mB_17)) = some ((x3_27, mL_28, mM_29, mO_30, mR_31, mD_32, mB_33)) → ∀ (H : Heap) (locs : List Loc), va_P (dC, dI) vwCl (wX5 cyI mo aMF aMT aMW aMU aMP aML aMM aMO aMR aMD aMB aMK mTh_3 mNo mAr mS mG mQ mWa mPa mLa mF mT mW mU mP mL_12 mM_13 mO_14 mR_15 mD_16 mB_17 mK) H → va_D A (wX5 cyI mo aMF aMT aMW aMU aMP aML aMM aMO aMR aMD aMB aMK mTh_3 mNo mAr mS mG mQ mWa mPa mLa mF mT mW mU mP mL_12 mM_13 mO_14 mR_15 mD_16 mB_17 mK) → va_S A s.heap H locs → ∀ ls : Array Slot, lv_has ls 5 [(0, .ref mo), (1, .int p0), (2, .int r4), (3, .int x3_11)] → W p l e { frames := 4, cells := 0, slots := 0, locals := 104 } s m args below meth c H locs 0 0 Q (F0 m 36 ls []) := by
          intro n9
          induction n9 with
          | zero =>
            intro x3_11 mL_12 mM_13 mO_14 mR_15 mD_16 mB_17 h
            exact lp0 h
          | succ n9 ih0 =>
            intro x3_11 mL_12 mM_13 mO_14 mR_15 mD_16 mB_17 h H locs hP hD hS ls hl
            obtain ⟨o9, g, h⟩ := lps h
            replace g : pX5_flow_l36 N mAr mF mG mNo mQ mS mT mU mW p0 r4 x3_11 mL_12 mM_13 mO_14 mR_15 mD_16 mB_17 = some o9 := g
            unfold pX5_flow_l36 at g
            refine lv_iload_n hx hb dX5_flow_36 rfl (lv_at hl 3 rfl) ?_
            refine lv_iload_n hx hb dX5_flow_37 rfl (lv_at hl 1 rfl) ?_
            refine lv_icmp_ge (tgt := 73) hx hb dX5_flow_38 (by decide) (fun c9 => ?_) (fun c9 => ?_)
            · have g := ipos c9 g
              cases g
              have h := lpx h
              cases h
              exact hT0 _ _ hP hD hS _ (lv_sub hl [0, 1, 2, 3] rfl)
            · have g := ineg c9 g
              refine lv_aload_n hx hb dX5_flow_41 rfl (lv_at hl 0 rfl) ?_
              refine lv_iload_n hx hb dX5_flow_42 rfl (lv_at hl 3 rfl) ?_
              refine lv_iload_n hx hb dX5_flow_43 rfl (lv_at hl 2 rfl) ?_
              refine lv_iconst (v := 0) hx hb dX5_flow_44 (by decide) ?_
              refine lv_iconst (v := 1) hx hb dX5_flow_45 (by decide) ?_
              obtain ⟨r18, mL_19, mM_20, mO_21, mR_22, mD_23, mB_24, e9, g⟩ := bd7 g
              refine q_callVi (ret := r18) (As := [.int x3_11, .int r4, .int 0, .int 1]) (w1 := wX5 cyI mo aMF aMT aMW aMU aMP aML aMM aMO aMR aMD aMB aMK mTh_3 mNo mAr mS mG mQ mWa mPa mLa mF mT mW mU mP mL_19 mM_20 mO_21 mR_22 mD_23 mB_24 mK) (ws2 := wX5 cyI mo aMF aMT aMW aMU aMP aML aMM aMO aMR aMD aMB aMK mTh_3 mNo mAr mS mG mQ mWa mPa mLa mF mT mW mU mP mL_19 mM_20 mO_21 mR_22 mD_23 mB_24 mK) ⟨hx, hb, hml, hown, hts⟩ (c_X5_fit l dC dI cyI mo aMF aMT aMW aMU aMP aML aMM aMO aMR aMD aMB aMK H.size mTh_3 mNo mAr mS mG mQ mWa mPa mLa mF mT mW mU mP mL_12 mM_13 mO_14 mR_15 mD_16 mB_17 mK x3_11 r4 0 1 N _ e9) (cwV 4 hts gX5_flow_X5_fit rfl rfl rfl (by decide +kernel) ⟨Nat.le_of_ble_eq_true rfl, Nat.le_of_ble_eq_true rfl⟩) hK hP hD hS hA [0, 1, 2, 3, 4, 5, 6, 7, 8, 9, 10, 11, 12] [] [0, 1, 2, 3, 4, 5, 6, 7, 8, 9, 10, 11, 12] [0] rfl rfl rfl rfl (by decide) rfl rfl rfl 5 0 rfl rfl rfl hl.1 (Nat.le_of_ble_eq_true rfl) (Nat.le_of_ble_eq_true rfl) (Nat.le_of_ble_eq_true rfl) rfl dX5_flow_46 (fun H locs hP hD hS => ?_)
              refine lv_istore (lv' := [(4, .int r18), (0, .ref mo), (1, .int p0), (2, .int r4), (3, .int x3_11)]) hx hb dX5_flow_49 hl (by decide) rfl (fun ls hl => ?_)
              refine lv_aload_n hx hb dX5_flow_51 rfl (lv_at hl 1 rfl) ?_
              refine va_get (D := (dC, dI)) (ci := 5) (v := .ref aML) (C := RX5) (T := TX5) (N := 21) hx hb hts k1 hown hK hP 0 rfl rfl 11 (by decide) k0 (fun _ h9 => h9) rfl dX5_flow_52 ?_
              refine lv_iload_n hx hb dX5_flow_55 rfl (lv_at hl 4 rfl) ?_
              refine lv_iload hx hb dX5_flow_56 (lv_at hl 0 rfl) ?_
              obtain ⟨mL_25, e9, g⟩ := bd g
              refine q_iast (ws2 := wX5 cyI mo aMF aMT aMW aMU aMP aML aMM aMO aMR aMD aMB aMK mTh_3 mNo mAr mS mG mQ mWa mPa mLa mF mT mW mU mP mL_25 mM_20 mO_21 mR_22 mD_23 mB_24 mK) hx hb hK hP hD hS 6 0 rfl rfl e9 dX5_flow_58 rfl (fun H locs hP hD hS => ?_)
              refine lv_aload_n hx hb dX5_flow_59 rfl (lv_at hl 1 rfl) ?_
              refine va_get (D := (dC, dI)) (ci := 5) (v := .ref aMM) (C := RX5) (T := TX5) (N := 21) hx hb hts k1 hown hK hP 0 rfl rfl 12 (by decide) k2 (fun _ h9 => h9) rfl dX5_flow_60 ?_
              refine lv_iload_n hx hb dX5_flow_63 rfl (lv_at hl 4 rfl) ?_
              refine lv_iload hx hb dX5_flow_64 (lv_at hl 0 rfl) ?_
              obtain ⟨mM_26, e9, g⟩ := bd g
              refine q_iast (ws2 := wX5 cyI mo aMF aMT aMW aMU aMP aML aMM aMO aMR aMD aMB aMK mTh_3 mNo mAr mS mG mQ mWa mPa mLa mF mT mW mU mP mL_25 mM_26 mO_21 mR_22 mD_23 mB_24 mK) hx hb hK hP hD hS 7 0 rfl rfl e9 dX5_flow_66 rfl (fun H locs hP hD hS => ?_)
              refine lv_iinc (v := x3_11 + 1) (lv' := [(3, .int (x3_11 + 1)), (4, .int r18), (0, .ref mo), (1, .int p0), (2, .int r4)]) hx hb dX5_flow_67 hl (k := 4) rfl (by rfl) (by decide) rfl (fun ls hl => ?_)
              refine lv_goto (tgt := 36) hx hb dX5_flow_70 (by decide) ?_
              cases g
              exact ih0 _ _ _ _ _ _ _ h _ _ hP hD hS _ (lv_sub hl [2, 3, 4, 0] rfl)
        exact hL0 N _ _ _ _ _ _ _  e0 _ _ hP hD hS _ (lv_sub hl [2, 3, 1, 0] rfl)
      · have h := ipos c9 h
        refine lv_iconst (v := -1) hx hb dX5_flow_32 (by decide) ?_
        cases h
        exact q_iret hQ hx hb hr hlocks hP hK hD hS dX5_flow_33
    · have h := ipos c9 h
      refine lv_iconst (v := 0) hx hb dX5_flow_20 (by decide) ?_
      cases h
      exact q_iret hQ hx hb hr hlocks hP hK hD hS dX5_flow_21
  · have h := ineg c9 h
    refine lv_iconst (v := 0) hx hb dX5_flow_9 (by decide) ?_
    refine lv_goto (tgt := 14) hx hb dX5_flow_10 (by decide) ?_
    obtain ⟨b41, mTh_42, e9, h⟩ := bd2 h
    refine q_callVi (ret := b2i b41) (As := [.int 0]) (w1 := wX5 cyI mo aMF aMT aMW aMU aMP aML aMM aMO aMR aMD aMB aMK mTh_42 mNo mAr mS mG mQ mWa mPa mLa mF mT mW mU mP mL mM mO mR mD mB mK) (ws2 := wX5 cyI mo aMF aMT aMW aMU aMP aML aMM aMO aMR aMD aMB aMK mTh_42 mNo mAr mS mG mQ mWa mPa mLa mF mT mW mU mP mL mM mO mR mD mB mK) ⟨hx, hb, hml, hown, hts⟩ (c_X5_goesWell l dC dI cyI mo aMF aMT aMW aMU aMP aML aMM aMO aMR aMD aMB aMK H.size mTh mNo mAr mS mG mQ mWa mPa mLa mF mT mW mU mP mL mM mO mR mD mB mK 0 _ e9) (cwV 1 hts gX5_flow_X5_goesWell rfl rfl rfl (by decide +kernel) ⟨Nat.le_of_ble_eq_true rfl, Nat.le_of_ble_eq_true rfl⟩) hK hP hD hS hA [0, 1, 2, 3, 4, 5, 6, 7, 8, 9, 10, 11, 12] [] [0, 1, 2, 3, 4, 5, 6, 7, 8, 9, 10, 11, 12] [0] rfl rfl rfl rfl (by decide) rfl rfl rfl 5 0 rfl rfl rfl hl.1 (Nat.le_of_ble_eq_true rfl) (Nat.le_of_ble_eq_true rfl) (Nat.le_of_ble_eq_true rfl) rfl dX5_flow_14 (fun H locs hP hD hS => ?_)
    refine lv_if_ne (tgt := 22) hx hb dX5_flow_17 (by decide) (fun c9 => ?_) (fun c9 => ?_)
    · have h := ineg c9 h
      refine lv_aload_n hx hb dX5_flow_22 rfl (lv_at hl 0 rfl) ?_
      obtain ⟨r43, mL_44, mM_45, mO_46, mR_47, mD_48, mB_49, e9, h⟩ := bd7 h
      refine q_callVi (ret := r43) (As := []) (w1 := wX5 cyI mo aMF aMT aMW aMU aMP aML aMM aMO aMR aMD aMB aMK mTh_42 mNo mAr mS mG mQ mWa mPa mLa mF mT mW mU mP mL_44 mM_45 mO_46 mR_47 mD_48 mB_49 mK) (ws2 := wX5 cyI mo aMF aMT aMW aMU aMP aML aMM aMO aMR aMD aMB aMK mTh_42 mNo mAr mS mG mQ mWa mPa mLa mF mT mW mU mP mL_44 mM_45 mO_46 mR_47 mD_48 mB_49 mK) ⟨hx, hb, hml, hown, hts⟩ (c_X5_costOpen l dC dI cyI mo aMF aMT aMW aMU aMP aML aMM aMO aMR aMD aMB aMK H.size mTh_42 mNo mAr mS mG mQ mWa mPa mLa mF mT mW mU mP mL mM mO mR mD mB mK N _ e9) (cwV 0 hts gX5_flow_X5_costOpen rfl rfl rfl (by decide +kernel) ⟨Nat.le_of_ble_eq_true rfl, Nat.le_of_ble_eq_true rfl⟩) hK hP hD hS hA [0, 1, 2, 3, 4, 5, 6, 7, 8, 9, 10, 11, 12] [] [0, 1, 2, 3, 4, 5, 6, 7, 8, 9, 10, 11, 12] [0] rfl rfl rfl rfl (by decide) rfl rfl rfl 5 0 rfl rfl rfl hl.1 (Nat.le_of_ble_eq_true rfl) (Nat.le_of_ble_eq_true rfl) (Nat.le_of_ble_eq_true rfl) rfl dX5_flow_23 (fun H locs hP hD hS => ?_)
      refine lv_istore_n (lv' := [(2, .int r43), (0, .ref mo), (1, .int p0)]) hx hb dX5_flow_26 rfl hl (by decide) rfl (fun ls hl => ?_)
      refine lv_iload_n hx hb dX5_flow_27 rfl (lv_at hl 0 rfl) ?_
      refine lv_iconst (v := -1) hx hb dX5_flow_28 (by decide) ?_
      refine lv_icmp_ne (tgt := 34) hx hb dX5_flow_29 (by decide) (fun c9 => ?_) (fun c9 => ?_)
      · have h := ineg c9 h
        refine lv_iconst (v := 0) hx hb dX5_flow_34 (by decide) ?_
        refine lv_istore_n (lv' := [(3, .int 0), (2, .int r43), (0, .ref mo), (1, .int p0)]) hx hb dX5_flow_35 rfl hl (by decide) rfl (fun ls hl => ?_)
        obtain ⟨x3_66, mL_67, mM_68, mO_69, mR_70, mD_71, mB_72, e1, h⟩ := bd7 h
        have hT1 : ∀ (H : Heap) (locs : List Loc), va_P (dC, dI) vwCl (wX5 cyI mo aMF aMT aMW aMU aMP aML aMM aMO aMR aMD aMB aMK mTh_42 mNo mAr mS mG mQ mWa mPa mLa mF mT mW mU mP mL_67 mM_68 mO_69 mR_70 mD_71 mB_72 mK) H → va_D A (wX5 cyI mo aMF aMT aMW aMU aMP aML aMM aMO aMR aMD aMB aMK mTh_42 mNo mAr mS mG mQ mWa mPa mLa mF mT mW mU mP mL_67 mM_68 mO_69 mR_70 mD_71 mB_72 mK) → va_S A s.heap H locs → ∀ ls : Array Slot, lv_has ls 5 [(0, .ref mo), (1, .int p0), (2, .int r43), (3, .int x3_66)] → W p l e { frames := 4, cells := 0, slots := 0, locals := 104 } s m args below meth c H locs 0 0 Q (F0 m 73 ls []) := by
          intro H locs hP hD hS ls hl
          refine lv_aload_n hx hb dX5_flow_73 rfl (lv_at hl 0 rfl) ?_
          refine lv_iload_n hx hb dX5_flow_74 rfl (lv_at hl 1 rfl) ?_
          refine lv_iload_n hx hb dX5_flow_75 rfl (lv_at hl 2 rfl) ?_
          refine lv_iconst (v := 0) hx hb dX5_flow_76 (by decide) ?_
          refine lv_iconst (v := 1) hx hb dX5_flow_77 (by decide) ?_
          obtain ⟨r73, mL_74, mM_75, mO_76, mR_77, mD_78, mB_79, e9, h⟩ := bd7 h
          refine q_callVi (ret := r73) (As := [.int p0, .int r43, .int 0, .int 1]) (w1 := wX5 cyI mo aMF aMT aMW aMU aMP aML aMM aMO aMR aMD aMB aMK mTh_42 mNo mAr mS mG mQ mWa mPa mLa mF mT mW mU mP mL_74 mM_75 mO_76 mR_77 mD_78 mB_79 mK) (ws2 := wX5 cyI mo aMF aMT aMW aMU aMP aML aMM aMO aMR aMD aMB aMK mTh_42 mNo mAr mS mG mQ mWa mPa mLa mF mT mW mU mP mL_74 mM_75 mO_76 mR_77 mD_78 mB_79 mK) ⟨hx, hb, hml, hown, hts⟩ (c_X5_fit l dC dI cyI mo aMF aMT aMW aMU aMP aML aMM aMO aMR aMD aMB aMK H.size mTh_42 mNo mAr mS mG mQ mWa mPa mLa mF mT mW mU mP mL_67 mM_68 mO_69 mR_70 mD_71 mB_72 mK p0 r43 0 1 N _ e9) (cwV 4 hts gX5_flow_X5_fit rfl rfl rfl (by decide +kernel) ⟨Nat.le_of_ble_eq_true rfl, Nat.le_of_ble_eq_true rfl⟩) hK hP hD hS hA [0, 1, 2, 3, 4, 5, 6, 7, 8, 9, 10, 11, 12] [] [0, 1, 2, 3, 4, 5, 6, 7, 8, 9, 10, 11, 12] [0] rfl rfl rfl rfl (by decide) rfl rfl rfl 5 0 rfl rfl rfl hl.1 (Nat.le_of_ble_eq_true rfl) (Nat.le_of_ble_eq_true rfl) (Nat.le_of_ble_eq_true rfl) rfl dX5_flow_78 (fun H locs hP hD hS => ?_)
          cases h
          exact q_iret hQ hx hb hr hlocks hP hK hD hS dX5_flow_81
        have hL1 : ∀ (n9 : Nat) (x3_50 : Int32) (mL_51 : Nat → Int32) (mM_52 : Nat → Int32) (mO_53 : Nat → Int32) (mR_54 : Nat → Int32) (mD_55 : Nat → Int32) (mB_56 : Nat → Int32), lp (un7 (pX5_flow_l36' N mAr mF mG mNo mQ mS mT mU mW p0 r43)) n9 ((x3_50, mL_51, mM_52, mO_53, mR_54, mD_55, mB_56)) = some ((x3_66, mL_67, mM_68, mO_69, mR_70, mD_71, mB_72)) → ∀ (H : Heap) (locs : List Loc), va_P (dC, dI) vwCl (wX5 cyI mo aMF aMT aMW aMU aMP aML aMM aMO aMR aMD aMB aMK mTh_42 mNo mAr mS mG mQ mWa mPa mLa mF mT mW mU mP mL_51 mM_52 mO_53 mR_54 mD_55 mB_56 mK) H → va_D A (wX5 cyI mo aMF aMT aMW aMU aMP aML aMM aMO aMR aMD aMB aMK mTh_42 mNo mAr mS mG mQ mWa mPa mLa mF mT mW mU mP mL_51 mM_52 mO_53 mR_54 mD_55 mB_56 mK) → va_S A s.heap H locs → ∀ ls : Array Slot, lv_has ls 5 [(0, .ref mo), (1, .int p0), (2, .int r43), (3, .int x3_50)] → W p l e { frames := 4, cells := 0, slots := 0, locals := 104 } s m args below meth c H locs 0 0 Q (F0 m 36 ls []) := by
          intro n9
          induction n9 with
          | zero =>
            intro x3_50 mL_51 mM_52 mO_53 mR_54 mD_55 mB_56 h
            exact lp0 h
          | succ n9 ih1 =>
            intro x3_50 mL_51 mM_52 mO_53 mR_54 mD_55 mB_56 h H locs hP hD hS ls hl
            obtain ⟨o9, g, h⟩ := lps h
            replace g : pX5_flow_l36' N mAr mF mG mNo mQ mS mT mU mW p0 r43 x3_50 mL_51 mM_52 mO_53 mR_54 mD_55 mB_56 = some o9 := g
            unfold pX5_flow_l36' at g
            refine lv_iload_n hx hb dX5_flow_36 rfl (lv_at hl 3 rfl) ?_
            refine lv_iload_n hx hb dX5_flow_37 rfl (lv_at hl 1 rfl) ?_
            refine lv_icmp_ge (tgt := 73) hx hb dX5_flow_38 (by decide) (fun c9 => ?_) (fun c9 => ?_)
            · have g := ipos c9 g
              cases g
              have h := lpx h
              cases h
              exact hT1 _ _ hP hD hS _ (lv_sub hl [0, 1, 2, 3] rfl)
            · have g := ineg c9 g
              refine lv_aload_n hx hb dX5_flow_41 rfl (lv_at hl 0 rfl) ?_
              refine lv_iload_n hx hb dX5_flow_42 rfl (lv_at hl 3 rfl) ?_
              refine lv_iload_n hx hb dX5_flow_43 rfl (lv_at hl 2 rfl) ?_
              refine lv_iconst (v := 0) hx hb dX5_flow_44 (by decide) ?_
              refine lv_iconst (v := 1) hx hb dX5_flow_45 (by decide) ?_
              obtain ⟨r57, mL_58, mM_59, mO_60, mR_61, mD_62, mB_63, e9, g⟩ := bd7 g
              refine q_callVi (ret := r57) (As := [.int x3_50, .int r43, .int 0, .int 1]) (w1 := wX5 cyI mo aMF aMT aMW aMU aMP aML aMM aMO aMR aMD aMB aMK mTh_42 mNo mAr mS mG mQ mWa mPa mLa mF mT mW mU mP mL_58 mM_59 mO_60 mR_61 mD_62 mB_63 mK) (ws2 := wX5 cyI mo aMF aMT aMW aMU aMP aML aMM aMO aMR aMD aMB aMK mTh_42 mNo mAr mS mG mQ mWa mPa mLa mF mT mW mU mP mL_58 mM_59 mO_60 mR_61 mD_62 mB_63 mK) ⟨hx, hb, hml, hown, hts⟩ (c_X5_fit l dC dI cyI mo aMF aMT aMW aMU aMP aML aMM aMO aMR aMD aMB aMK H.size mTh_42 mNo mAr mS mG mQ mWa mPa mLa mF mT mW mU mP mL_51 mM_52 mO_53 mR_54 mD_55 mB_56 mK x3_50 r43 0 1 N _ e9) (cwV 4 hts gX5_flow_X5_fit rfl rfl rfl (by decide +kernel) ⟨Nat.le_of_ble_eq_true rfl, Nat.le_of_ble_eq_true rfl⟩) hK hP hD hS hA [0, 1, 2, 3, 4, 5, 6, 7, 8, 9, 10, 11, 12] [] [0, 1, 2, 3, 4, 5, 6, 7, 8, 9, 10, 11, 12] [0] rfl rfl rfl rfl (by decide) rfl rfl rfl 5 0 rfl rfl rfl hl.1 (Nat.le_of_ble_eq_true rfl) (Nat.le_of_ble_eq_true rfl) (Nat.le_of_ble_eq_true rfl) rfl dX5_flow_46 (fun H locs hP hD hS => ?_)
              refine lv_istore (lv' := [(4, .int r57), (0, .ref mo), (1, .int p0), (2, .int r43), (3, .int x3_50)]) hx hb dX5_flow_49 hl (by decide) rfl (fun ls hl => ?_)
              refine lv_aload_n hx hb dX5_flow_51 rfl (lv_at hl 1 rfl) ?_
              refine va_get (D := (dC, dI)) (ci := 5) (v := .ref aML) (C := RX5) (T := TX5) (N := 21) hx hb hts k1 hown hK hP 0 rfl rfl 11 (by decide) k0 (fun _ h9 => h9) rfl dX5_flow_52 ?_
              refine lv_iload_n hx hb dX5_flow_55 rfl (lv_at hl 4 rfl) ?_
              refine lv_iload hx hb dX5_flow_56 (lv_at hl 0 rfl) ?_
              obtain ⟨mL_64, e9, g⟩ := bd g
              refine q_iast (ws2 := wX5 cyI mo aMF aMT aMW aMU aMP aML aMM aMO aMR aMD aMB aMK mTh_42 mNo mAr mS mG mQ mWa mPa mLa mF mT mW mU mP mL_64 mM_59 mO_60 mR_61 mD_62 mB_63 mK) hx hb hK hP hD hS 6 0 rfl rfl e9 dX5_flow_58 rfl (fun H locs hP hD hS => ?_)
              refine lv_aload_n hx hb dX5_flow_59 rfl (lv_at hl 1 rfl) ?_
              refine va_get (D := (dC, dI)) (ci := 5) (v := .ref aMM) (C := RX5) (T := TX5) (N := 21) hx hb hts k1 hown hK hP 0 rfl rfl 12 (by decide) k2 (fun _ h9 => h9) rfl dX5_flow_60 ?_
              refine lv_iload_n hx hb dX5_flow_63 rfl (lv_at hl 4 rfl) ?_
              refine lv_iload hx hb dX5_flow_64 (lv_at hl 0 rfl) ?_
              obtain ⟨mM_65, e9, g⟩ := bd g
              refine q_iast (ws2 := wX5 cyI mo aMF aMT aMW aMU aMP aML aMM aMO aMR aMD aMB aMK mTh_42 mNo mAr mS mG mQ mWa mPa mLa mF mT mW mU mP mL_64 mM_65 mO_60 mR_61 mD_62 mB_63 mK) hx hb hK hP hD hS 7 0 rfl rfl e9 dX5_flow_66 rfl (fun H locs hP hD hS => ?_)
              refine lv_iinc (v := x3_50 + 1) (lv' := [(3, .int (x3_50 + 1)), (4, .int r57), (0, .ref mo), (1, .int p0), (2, .int r43)]) hx hb dX5_flow_67 hl (k := 4) rfl (by rfl) (by decide) rfl (fun ls hl => ?_)
              refine lv_goto (tgt := 36) hx hb dX5_flow_70 (by decide) ?_
              cases g
              exact ih1 _ _ _ _ _ _ _ h _ _ hP hD hS _ (lv_sub hl [2, 3, 4, 0] rfl)
        exact hL1 N _ _ _ _ _ _ _  e1 _ _ hP hD hS _ (lv_sub hl [2, 3, 1, 0] rfl)
      · have h := ipos c9 h
        refine lv_iconst (v := -1) hx hb dX5_flow_32 (by decide) ?_
        cases h
        exact q_iret hQ hx hb hr hlocks hP hK hD hS dX5_flow_33
    · have h := ipos c9 h
      refine lv_iconst (v := 0) hx hb dX5_flow_20 (by decide) ?_
      cases h
      exact q_iret hQ hx hb hr hlocks hP hK hD hS dX5_flow_21
set_option maxHeartbeats 4000000 in
set_option maxRecDepth 100000 in
theorem c_X5_leastOn (l : Launch) (dC : Nat → ClassId) (dI : Nat → Nat → Nat) (cyI : ClassId) (mo aMF aMT aMW aMU aMP aML aMM aMO aMR aMD aMB aMK : Nat) (sz : Nat) (mTh mNo mAr mS mG mQ mWa mPa mLa : Int32) (mF mT mW mU mP mL mM mO mR mD mB mK : Nat → Int32) (p0 : Int32) (N : Nat) (res : Int32 × Int32 × (Nat → Int32) × (Nat → Int32) × (Nat → Int32) × (Nat → Int32) × (Nat → Int32) × (Nat → Int32)) (h : pX5_leastOn N mNo mAr mS mG mQ mF mT mW mU mP mL mM mO mR mD mB p0 = some res) : Met l yX5_leastOn wsX5_leastOn { frames := 4, cells := 0, slots := 0, locals := 104 } (va_Pc [.ref mo, .int p0] (zPre (dC, dI) (wX5 cyI mo aMF aMT aMW aMU aMP aML aMM aMO aMR aMD aMB aMK mTh mNo mAr mS mG mQ mWa mPa mLa mF mT mW mU mP mL mM mO mR mD mB mK) [(cyI, .int)] sz)) (zQi (dC, dI) (wX5 cyI mo aMF aMT aMW aMU aMP aML aMM aMO aMR aMD aMB aMK res.2.1 mNo mAr mS mG mQ mWa mPa mLa mF mT mW mU mP res.2.2.1 res.2.2.2.1 res.2.2.2.2.1 res.2.2.2.2.2.1 res.2.2.2.2.2.2.1 res.2.2.2.2.2.2.2 mK) [(cyI, .int)] (res.1) (va_A (wX5 cyI mo aMF aMT aMW aMU aMP aML aMM aMO aMR aMD aMB aMK mTh mNo mAr mS mG mQ mWa mPa mLa mF mT mW mU mP mL mM mO mR mD mB mK) sz)) 0 0 (va_A (wX5 cyI mo aMF aMT aMW aMU aMP aML aMM aMO aMR aMD aMB aMK mTh mNo mAr mS mG mQ mWa mPa mLa mF mT mW mU mP mL mM mO mR mD mB mK) sz) := by
  refine q_ofWi (cc := cX5_leastOn) (maxL := 3) (rt := (some .int)) (by decide) rfl (Nat.le_of_ble_eq_true rfl) ?_
  intro p e s m args below meth c ls A Q H locs hQ hx hb hr hts hown hlocks hml hA hK hP hD hS hl
  have hl : lv_has ls 3 [(0, .ref mo), (1, .int p0)] := hl
  unfold pX5_leastOn at h
  refine lv_aload_n hx hb dX5_leastOn_0 rfl (lv_at hl 0 rfl) ?_
  refine lv_aload_n hx hb dX5_leastOn_1 rfl (lv_at hl 0 rfl) ?_
  refine lv_iload_n hx hb dX5_leastOn_2 rfl (lv_at hl 1 rfl) ?_
  obtain ⟨b1, e9, h⟩ := bd h
  refine q_callVi (ret := b2i b1) (As := [.int p0]) (w1 := wX5 cyI mo aMF aMT aMW aMU aMP aML aMM aMO aMR aMD aMB aMK mTh mNo mAr mS mG mQ mWa mPa mLa mF mT mW mU mP mL mM mO mR mD mB mK) (ws2 := wX5 cyI mo aMF aMT aMW aMU aMP aML aMM aMO aMR aMD aMB aMK mTh mNo mAr mS mG mQ mWa mPa mLa mF mT mW mU mP mL mM mO mR mD mB mK) ⟨hx, hb, hml, hown, hts⟩ (c_X5_isArc l dC dI cyI mo aMF aMT aMW aMU aMP aML aMM aMO aMR aMD aMB aMK H.size mTh mNo mAr mS mG mQ mWa mPa mLa mF mT mW mU mP mL mM mO mR mD mB mK p0 _ e9) (cwV 1 hts gX5_leastOn_X5_isArc rfl rfl rfl (by decide +kernel) ⟨Nat.le_of_ble_eq_true rfl, Nat.le_of_ble_eq_true rfl⟩) hK hP hD hS hA [0, 1, 2, 3, 4, 5, 6, 7, 8, 9, 10, 11, 12] [] [0, 1, 2, 3, 4, 5, 6, 7, 8, 9, 10, 11, 12] [0] rfl rfl rfl rfl (by decide) rfl rfl rfl 5 0 rfl rfl rfl hl.1 (Nat.le_of_ble_eq_true rfl) (Nat.le_of_ble_eq_true rfl) (Nat.le_of_ble_eq_true rfl) rfl dX5_leastOn_3 (fun H locs hP hD hS => ?_)
  refine lv_if_eq (tgt := 13) hx hb dX5_leastOn_6 (by decide) (fun c9 => ?_) (fun c9 => ?_)
  · have h := ipos c9 h
    refine lv_iconst (v := 1) hx hb dX5_leastOn_13 (by decide) ?_
    obtain ⟨b2, mTh_3, e9, h⟩ := bd2 h
    refine q_callVi (ret := b2i b2) (As := [.int 1]) (w1 := wX5 cyI mo aMF aMT aMW aMU aMP aML aMM aMO aMR aMD aMB aMK mTh_3 mNo mAr mS mG mQ mWa mPa mLa mF mT mW mU mP mL mM mO mR mD mB mK) (ws2 := wX5 cyI mo aMF aMT aMW aMU aMP aML aMM aMO aMR aMD aMB aMK mTh_3 mNo mAr mS mG mQ mWa mPa mLa mF mT mW mU mP mL mM mO mR mD mB mK) ⟨hx, hb, hml, hown, hts⟩ (c_X5_goesWell l dC dI cyI mo aMF aMT aMW aMU aMP aML aMM aMO aMR aMD aMB aMK H.size mTh mNo mAr mS mG mQ mWa mPa mLa mF mT mW mU mP mL mM mO mR mD mB mK 1 _ e9) (cwV 1 hts gX5_leastOn_X5_goesWell rfl rfl rfl (by decide +kernel) ⟨Nat.le_of_ble_eq_true rfl, Nat.le_of_ble_eq_true rfl⟩) hK hP hD hS hA [0, 1, 2, 3, 4, 5, 6, 7, 8, 9, 10, 11, 12] [] [0, 1, 2, 3, 4, 5, 6, 7, 8, 9, 10, 11, 12] [0] rfl rfl rfl rfl (by decide) rfl rfl rfl 5 0 rfl rfl rfl hl.1 (Nat.le_of_ble_eq_true rfl) (Nat.le_of_ble_eq_true rfl) (Nat.le_of_ble_eq_true rfl) rfl dX5_leastOn_14 (fun H locs hP hD hS => ?_)
    refine lv_if_ne (tgt := 22) hx hb dX5_leastOn_17 (by decide) (fun c9 => ?_) (fun c9 => ?_)
    · have h := ineg c9 h
      refine lv_aload_n hx hb dX5_leastOn_22 rfl (lv_at hl 0 rfl) ?_
      obtain ⟨r4, mL_5, mM_6, mO_7, mR_8, mD_9, mB_10, e9, h⟩ := bd7 h
      refine q_callVi (ret := r4) (As := []) (w1 := wX5 cyI mo aMF aMT aMW aMU aMP aML aMM aMO aMR aMD aMB aMK mTh_3 mNo mAr mS mG mQ mWa mPa mLa mF mT mW mU mP mL_5 mM_6 mO_7 mR_8 mD_9 mB_10 mK) (ws2 := wX5 cyI mo aMF aMT aMW aMU aMP aML aMM aMO aMR aMD aMB aMK mTh_3 mNo mAr mS mG mQ mWa mPa mLa mF mT mW mU mP mL_5 mM_6 mO_7 mR_8 mD_9 mB_10 mK) ⟨hx, hb, hml, hown, hts⟩ (c_X5_costOpen l dC dI cyI mo aMF aMT aMW aMU aMP aML aMM aMO aMR aMD aMB aMK H.size mTh_3 mNo mAr mS mG mQ mWa mPa mLa mF mT mW mU mP mL mM mO mR mD mB mK N _ e9) (cwV 0 hts gX5_leastOn_X5_costOpen rfl rfl rfl (by decide +kernel) ⟨Nat.le_of_ble_eq_true rfl, Nat.le_of_ble_eq_true rfl⟩) hK hP hD hS hA [0, 1, 2, 3, 4, 5, 6, 7, 8, 9, 10, 11, 12] [] [0, 1, 2, 3, 4, 5, 6, 7, 8, 9, 10, 11, 12] [0] rfl rfl rfl rfl (by decide) rfl rfl rfl 5 0 rfl rfl rfl hl.1 (Nat.le_of_ble_eq_true rfl) (Nat.le_of_ble_eq_true rfl) (Nat.le_of_ble_eq_true rfl) rfl dX5_leastOn_23 (fun H locs hP hD hS => ?_)
      refine lv_istore_n (lv' := [(2, .int r4), (0, .ref mo), (1, .int p0)]) hx hb dX5_leastOn_26 rfl hl (by decide) rfl (fun ls hl => ?_)
      refine lv_iload_n hx hb dX5_leastOn_27 rfl (lv_at hl 0 rfl) ?_
      refine lv_iconst (v := -1) hx hb dX5_leastOn_28 (by decide) ?_
      refine lv_icmp_ne (tgt := 36) hx hb dX5_leastOn_29 (by decide) (fun c9 => ?_) (fun c9 => ?_)
      · have h := ineg c9 h
        refine lv_aload_n hx hb dX5_leastOn_36 rfl (lv_at hl 1 rfl) ?_
        refine lv_iload_n hx hb dX5_leastOn_37 rfl (lv_at hl 2 rfl) ?_
        refine lv_iload_n hx hb dX5_leastOn_38 rfl (lv_at hl 0 rfl) ?_
        refine lv_iconst (v := 0) hx hb dX5_leastOn_39 (by decide) ?_
        refine lv_iconst (v := 1) hx hb dX5_leastOn_40 (by decide) ?_
        obtain ⟨r11, mL_12, mM_13, mO_14, mR_15, mD_16, mB_17, e9, h⟩ := bd7 h
        refine q_callVi (ret := r11) (As := [.int p0, .int r4, .int 0, .int 1]) (w1 := wX5 cyI mo aMF aMT aMW aMU aMP aML aMM aMO aMR aMD aMB aMK mTh_3 mNo mAr mS mG mQ mWa mPa mLa mF mT mW mU mP mL_12 mM_13 mO_14 mR_15 mD_16 mB_17 mK) (ws2 := wX5 cyI mo aMF aMT aMW aMU aMP aML aMM aMO aMR aMD aMB aMK mTh_3 mNo mAr mS mG mQ mWa mPa mLa mF mT mW mU mP mL_12 mM_13 mO_14 mR_15 mD_16 mB_17 mK) ⟨hx, hb, hml, hown, hts⟩ (c_X5_fit l dC dI cyI mo aMF aMT aMW aMU aMP aML aMM aMO aMR aMD aMB aMK H.size mTh_3 mNo mAr mS mG mQ mWa mPa mLa mF mT mW mU mP mL_5 mM_6 mO_7 mR_8 mD_9 mB_10 mK p0 r4 0 1 N _ e9) (cwV 4 hts gX5_leastOn_X5_fit rfl rfl rfl (by decide +kernel) ⟨Nat.le_of_ble_eq_true rfl, Nat.le_of_ble_eq_true rfl⟩) hK hP hD hS hA [0, 1, 2, 3, 4, 5, 6, 7, 8, 9, 10, 11, 12] [] [0, 1, 2, 3, 4, 5, 6, 7, 8, 9, 10, 11, 12] [0] rfl rfl rfl rfl (by decide) rfl rfl rfl 5 0 rfl rfl rfl hl.1 (Nat.le_of_ble_eq_true rfl) (Nat.le_of_ble_eq_true rfl) (Nat.le_of_ble_eq_true rfl) rfl dX5_leastOn_41 (fun H locs hP hD hS => ?_)
        cases h
        exact q_iret hQ hx hb hr hlocks hP hK hD hS dX5_leastOn_44
      · have h := ipos c9 h
        refine lv_iconst (v := -1) hx hb dX5_leastOn_32 (by decide) ?_
        refine lv_goto (tgt := 44) hx hb dX5_leastOn_33 (by decide) ?_
        cases h
        exact q_iret hQ hx hb hr hlocks hP hK hD hS dX5_leastOn_44
    · have h := ipos c9 h
      refine lv_iconst (v := 0) hx hb dX5_leastOn_20 (by decide) ?_
      cases h
      exact q_iret hQ hx hb hr hlocks hP hK hD hS dX5_leastOn_21
  · have h := ineg c9 h
    refine lv_iconst (v := 0) hx hb dX5_leastOn_9 (by decide) ?_
    refine lv_goto (tgt := 14) hx hb dX5_leastOn_10 (by decide) ?_
    obtain ⟨b18, mTh_19, e9, h⟩ := bd2 h
    refine q_callVi (ret := b2i b18) (As := [.int 0]) (w1 := wX5 cyI mo aMF aMT aMW aMU aMP aML aMM aMO aMR aMD aMB aMK mTh_19 mNo mAr mS mG mQ mWa mPa mLa mF mT mW mU mP mL mM mO mR mD mB mK) (ws2 := wX5 cyI mo aMF aMT aMW aMU aMP aML aMM aMO aMR aMD aMB aMK mTh_19 mNo mAr mS mG mQ mWa mPa mLa mF mT mW mU mP mL mM mO mR mD mB mK) ⟨hx, hb, hml, hown, hts⟩ (c_X5_goesWell l dC dI cyI mo aMF aMT aMW aMU aMP aML aMM aMO aMR aMD aMB aMK H.size mTh mNo mAr mS mG mQ mWa mPa mLa mF mT mW mU mP mL mM mO mR mD mB mK 0 _ e9) (cwV 1 hts gX5_leastOn_X5_goesWell rfl rfl rfl (by decide +kernel) ⟨Nat.le_of_ble_eq_true rfl, Nat.le_of_ble_eq_true rfl⟩) hK hP hD hS hA [0, 1, 2, 3, 4, 5, 6, 7, 8, 9, 10, 11, 12] [] [0, 1, 2, 3, 4, 5, 6, 7, 8, 9, 10, 11, 12] [0] rfl rfl rfl rfl (by decide) rfl rfl rfl 5 0 rfl rfl rfl hl.1 (Nat.le_of_ble_eq_true rfl) (Nat.le_of_ble_eq_true rfl) (Nat.le_of_ble_eq_true rfl) rfl dX5_leastOn_14 (fun H locs hP hD hS => ?_)
    refine lv_if_ne (tgt := 22) hx hb dX5_leastOn_17 (by decide) (fun c9 => ?_) (fun c9 => ?_)
    · have h := ineg c9 h
      refine lv_aload_n hx hb dX5_leastOn_22 rfl (lv_at hl 0 rfl) ?_
      obtain ⟨r20, mL_21, mM_22, mO_23, mR_24, mD_25, mB_26, e9, h⟩ := bd7 h
      refine q_callVi (ret := r20) (As := []) (w1 := wX5 cyI mo aMF aMT aMW aMU aMP aML aMM aMO aMR aMD aMB aMK mTh_19 mNo mAr mS mG mQ mWa mPa mLa mF mT mW mU mP mL_21 mM_22 mO_23 mR_24 mD_25 mB_26 mK) (ws2 := wX5 cyI mo aMF aMT aMW aMU aMP aML aMM aMO aMR aMD aMB aMK mTh_19 mNo mAr mS mG mQ mWa mPa mLa mF mT mW mU mP mL_21 mM_22 mO_23 mR_24 mD_25 mB_26 mK) ⟨hx, hb, hml, hown, hts⟩ (c_X5_costOpen l dC dI cyI mo aMF aMT aMW aMU aMP aML aMM aMO aMR aMD aMB aMK H.size mTh_19 mNo mAr mS mG mQ mWa mPa mLa mF mT mW mU mP mL mM mO mR mD mB mK N _ e9) (cwV 0 hts gX5_leastOn_X5_costOpen rfl rfl rfl (by decide +kernel) ⟨Nat.le_of_ble_eq_true rfl, Nat.le_of_ble_eq_true rfl⟩) hK hP hD hS hA [0, 1, 2, 3, 4, 5, 6, 7, 8, 9, 10, 11, 12] [] [0, 1, 2, 3, 4, 5, 6, 7, 8, 9, 10, 11, 12] [0] rfl rfl rfl rfl (by decide) rfl rfl rfl 5 0 rfl rfl rfl hl.1 (Nat.le_of_ble_eq_true rfl) (Nat.le_of_ble_eq_true rfl) (Nat.le_of_ble_eq_true rfl) rfl dX5_leastOn_23 (fun H locs hP hD hS => ?_)
      refine lv_istore_n (lv' := [(2, .int r20), (0, .ref mo), (1, .int p0)]) hx hb dX5_leastOn_26 rfl hl (by decide) rfl (fun ls hl => ?_)
      refine lv_iload_n hx hb dX5_leastOn_27 rfl (lv_at hl 0 rfl) ?_
      refine lv_iconst (v := -1) hx hb dX5_leastOn_28 (by decide) ?_
      refine lv_icmp_ne (tgt := 36) hx hb dX5_leastOn_29 (by decide) (fun c9 => ?_) (fun c9 => ?_)
      · have h := ineg c9 h
        refine lv_aload_n hx hb dX5_leastOn_36 rfl (lv_at hl 1 rfl) ?_
        refine lv_iload_n hx hb dX5_leastOn_37 rfl (lv_at hl 2 rfl) ?_
        refine lv_iload_n hx hb dX5_leastOn_38 rfl (lv_at hl 0 rfl) ?_
        refine lv_iconst (v := 0) hx hb dX5_leastOn_39 (by decide) ?_
        refine lv_iconst (v := 1) hx hb dX5_leastOn_40 (by decide) ?_
        obtain ⟨r27, mL_28, mM_29, mO_30, mR_31, mD_32, mB_33, e9, h⟩ := bd7 h
        refine q_callVi (ret := r27) (As := [.int p0, .int r20, .int 0, .int 1]) (w1 := wX5 cyI mo aMF aMT aMW aMU aMP aML aMM aMO aMR aMD aMB aMK mTh_19 mNo mAr mS mG mQ mWa mPa mLa mF mT mW mU mP mL_28 mM_29 mO_30 mR_31 mD_32 mB_33 mK) (ws2 := wX5 cyI mo aMF aMT aMW aMU aMP aML aMM aMO aMR aMD aMB aMK mTh_19 mNo mAr mS mG mQ mWa mPa mLa mF mT mW mU mP mL_28 mM_29 mO_30 mR_31 mD_32 mB_33 mK) ⟨hx, hb, hml, hown, hts⟩ (c_X5_fit l dC dI cyI mo aMF aMT aMW aMU aMP aML aMM aMO aMR aMD aMB aMK H.size mTh_19 mNo mAr mS mG mQ mWa mPa mLa mF mT mW mU mP mL_21 mM_22 mO_23 mR_24 mD_25 mB_26 mK p0 r20 0 1 N _ e9) (cwV 4 hts gX5_leastOn_X5_fit rfl rfl rfl (by decide +kernel) ⟨Nat.le_of_ble_eq_true rfl, Nat.le_of_ble_eq_true rfl⟩) hK hP hD hS hA [0, 1, 2, 3, 4, 5, 6, 7, 8, 9, 10, 11, 12] [] [0, 1, 2, 3, 4, 5, 6, 7, 8, 9, 10, 11, 12] [0] rfl rfl rfl rfl (by decide) rfl rfl rfl 5 0 rfl rfl rfl hl.1 (Nat.le_of_ble_eq_true rfl) (Nat.le_of_ble_eq_true rfl) (Nat.le_of_ble_eq_true rfl) rfl dX5_leastOn_41 (fun H locs hP hD hS => ?_)
        cases h
        exact q_iret hQ hx hb hr hlocks hP hK hD hS dX5_leastOn_44
      · have h := ipos c9 h
        refine lv_iconst (v := -1) hx hb dX5_leastOn_32 (by decide) ?_
        refine lv_goto (tgt := 44) hx hb dX5_leastOn_33 (by decide) ?_
        cases h
        exact q_iret hQ hx hb hr hlocks hP hK hD hS dX5_leastOn_44
    · have h := ipos c9 h
      refine lv_iconst (v := 0) hx hb dX5_leastOn_20 (by decide) ?_
      cases h
      exact q_iret hQ hx hb hr hlocks hP hK hD hS dX5_leastOn_21
set_option maxHeartbeats 4000000 in
set_option maxRecDepth 100000 in
theorem c_X5_mostOn (l : Launch) (dC : Nat → ClassId) (dI : Nat → Nat → Nat) (cyI : ClassId) (mo aMF aMT aMW aMU aMP aML aMM aMO aMR aMD aMB aMK : Nat) (sz : Nat) (mTh mNo mAr mS mG mQ mWa mPa mLa : Int32) (mF mT mW mU mP mL mM mO mR mD mB mK : Nat → Int32) (p0 : Int32) (N : Nat) (res : Int32 × Int32 × (Nat → Int32) × (Nat → Int32) × (Nat → Int32) × (Nat → Int32) × (Nat → Int32) × (Nat → Int32)) (h : pX5_mostOn N mNo mAr mS mG mQ mF mT mW mU mP mL mM mO mR mD mB p0 = some res) : Met l yX5_mostOn wsX5_mostOn { frames := 4, cells := 0, slots := 0, locals := 104 } (va_Pc [.ref mo, .int p0] (zPre (dC, dI) (wX5 cyI mo aMF aMT aMW aMU aMP aML aMM aMO aMR aMD aMB aMK mTh mNo mAr mS mG mQ mWa mPa mLa mF mT mW mU mP mL mM mO mR mD mB mK) [(cyI, .int)] sz)) (zQi (dC, dI) (wX5 cyI mo aMF aMT aMW aMU aMP aML aMM aMO aMR aMD aMB aMK res.2.1 mNo mAr mS mG mQ mWa mPa mLa mF mT mW mU mP res.2.2.1 res.2.2.2.1 res.2.2.2.2.1 res.2.2.2.2.2.1 res.2.2.2.2.2.2.1 res.2.2.2.2.2.2.2 mK) [(cyI, .int)] (res.1) (va_A (wX5 cyI mo aMF aMT aMW aMU aMP aML aMM aMO aMR aMD aMB aMK mTh mNo mAr mS mG mQ mWa mPa mLa mF mT mW mU mP mL mM mO mR mD mB mK) sz)) 0 0 (va_A (wX5 cyI mo aMF aMT aMW aMU aMP aML aMM aMO aMR aMD aMB aMK mTh mNo mAr mS mG mQ mWa mPa mLa mF mT mW mU mP mL mM mO mR mD mB mK) sz) := by
  refine q_ofWi (cc := cX5_mostOn) (maxL := 3) (rt := (some .int)) (by decide) rfl (Nat.le_of_ble_eq_true rfl) ?_
  intro p e s m args below meth c ls A Q H locs hQ hx hb hr hts hown hlocks hml hA hK hP hD hS hl
  have hl : lv_has ls 3 [(0, .ref mo), (1, .int p0)] := hl
  unfold pX5_mostOn at h
  refine lv_aload_n hx hb dX5_mostOn_0 rfl (lv_at hl 0 rfl) ?_
  refine lv_aload_n hx hb dX5_mostOn_1 rfl (lv_at hl 0 rfl) ?_
  refine lv_iload_n hx hb dX5_mostOn_2 rfl (lv_at hl 1 rfl) ?_
  obtain ⟨b1, e9, h⟩ := bd h
  refine q_callVi (ret := b2i b1) (As := [.int p0]) (w1 := wX5 cyI mo aMF aMT aMW aMU aMP aML aMM aMO aMR aMD aMB aMK mTh mNo mAr mS mG mQ mWa mPa mLa mF mT mW mU mP mL mM mO mR mD mB mK) (ws2 := wX5 cyI mo aMF aMT aMW aMU aMP aML aMM aMO aMR aMD aMB aMK mTh mNo mAr mS mG mQ mWa mPa mLa mF mT mW mU mP mL mM mO mR mD mB mK) ⟨hx, hb, hml, hown, hts⟩ (c_X5_isArc l dC dI cyI mo aMF aMT aMW aMU aMP aML aMM aMO aMR aMD aMB aMK H.size mTh mNo mAr mS mG mQ mWa mPa mLa mF mT mW mU mP mL mM mO mR mD mB mK p0 _ e9) (cwV 1 hts gX5_mostOn_X5_isArc rfl rfl rfl (by decide +kernel) ⟨Nat.le_of_ble_eq_true rfl, Nat.le_of_ble_eq_true rfl⟩) hK hP hD hS hA [0, 1, 2, 3, 4, 5, 6, 7, 8, 9, 10, 11, 12] [] [0, 1, 2, 3, 4, 5, 6, 7, 8, 9, 10, 11, 12] [0] rfl rfl rfl rfl (by decide) rfl rfl rfl 5 0 rfl rfl rfl hl.1 (Nat.le_of_ble_eq_true rfl) (Nat.le_of_ble_eq_true rfl) (Nat.le_of_ble_eq_true rfl) rfl dX5_mostOn_3 (fun H locs hP hD hS => ?_)
  refine lv_if_eq (tgt := 13) hx hb dX5_mostOn_6 (by decide) (fun c9 => ?_) (fun c9 => ?_)
  · have h := ipos c9 h
    refine lv_iconst (v := 1) hx hb dX5_mostOn_13 (by decide) ?_
    obtain ⟨b2, mTh_3, e9, h⟩ := bd2 h
    refine q_callVi (ret := b2i b2) (As := [.int 1]) (w1 := wX5 cyI mo aMF aMT aMW aMU aMP aML aMM aMO aMR aMD aMB aMK mTh_3 mNo mAr mS mG mQ mWa mPa mLa mF mT mW mU mP mL mM mO mR mD mB mK) (ws2 := wX5 cyI mo aMF aMT aMW aMU aMP aML aMM aMO aMR aMD aMB aMK mTh_3 mNo mAr mS mG mQ mWa mPa mLa mF mT mW mU mP mL mM mO mR mD mB mK) ⟨hx, hb, hml, hown, hts⟩ (c_X5_goesWell l dC dI cyI mo aMF aMT aMW aMU aMP aML aMM aMO aMR aMD aMB aMK H.size mTh mNo mAr mS mG mQ mWa mPa mLa mF mT mW mU mP mL mM mO mR mD mB mK 1 _ e9) (cwV 1 hts gX5_mostOn_X5_goesWell rfl rfl rfl (by decide +kernel) ⟨Nat.le_of_ble_eq_true rfl, Nat.le_of_ble_eq_true rfl⟩) hK hP hD hS hA [0, 1, 2, 3, 4, 5, 6, 7, 8, 9, 10, 11, 12] [] [0, 1, 2, 3, 4, 5, 6, 7, 8, 9, 10, 11, 12] [0] rfl rfl rfl rfl (by decide) rfl rfl rfl 5 0 rfl rfl rfl hl.1 (Nat.le_of_ble_eq_true rfl) (Nat.le_of_ble_eq_true rfl) (Nat.le_of_ble_eq_true rfl) rfl dX5_mostOn_14 (fun H locs hP hD hS => ?_)
    refine lv_if_ne (tgt := 22) hx hb dX5_mostOn_17 (by decide) (fun c9 => ?_) (fun c9 => ?_)
    · have h := ineg c9 h
      refine lv_aload_n hx hb dX5_mostOn_22 rfl (lv_at hl 0 rfl) ?_
      obtain ⟨r4, mL_5, mM_6, mO_7, mR_8, mD_9, mB_10, e9, h⟩ := bd7 h
      refine q_callVi (ret := r4) (As := []) (w1 := wX5 cyI mo aMF aMT aMW aMU aMP aML aMM aMO aMR aMD aMB aMK mTh_3 mNo mAr mS mG mQ mWa mPa mLa mF mT mW mU mP mL_5 mM_6 mO_7 mR_8 mD_9 mB_10 mK) (ws2 := wX5 cyI mo aMF aMT aMW aMU aMP aML aMM aMO aMR aMD aMB aMK mTh_3 mNo mAr mS mG mQ mWa mPa mLa mF mT mW mU mP mL_5 mM_6 mO_7 mR_8 mD_9 mB_10 mK) ⟨hx, hb, hml, hown, hts⟩ (c_X5_costOpen l dC dI cyI mo aMF aMT aMW aMU aMP aML aMM aMO aMR aMD aMB aMK H.size mTh_3 mNo mAr mS mG mQ mWa mPa mLa mF mT mW mU mP mL mM mO mR mD mB mK N _ e9) (cwV 0 hts gX5_mostOn_X5_costOpen rfl rfl rfl (by decide +kernel) ⟨Nat.le_of_ble_eq_true rfl, Nat.le_of_ble_eq_true rfl⟩) hK hP hD hS hA [0, 1, 2, 3, 4, 5, 6, 7, 8, 9, 10, 11, 12] [] [0, 1, 2, 3, 4, 5, 6, 7, 8, 9, 10, 11, 12] [0] rfl rfl rfl rfl (by decide) rfl rfl rfl 5 0 rfl rfl rfl hl.1 (Nat.le_of_ble_eq_true rfl) (Nat.le_of_ble_eq_true rfl) (Nat.le_of_ble_eq_true rfl) rfl dX5_mostOn_23 (fun H locs hP hD hS => ?_)
      refine lv_istore_n (lv' := [(2, .int r4), (0, .ref mo), (1, .int p0)]) hx hb dX5_mostOn_26 rfl hl (by decide) rfl (fun ls hl => ?_)
      refine lv_iload_n hx hb dX5_mostOn_27 rfl (lv_at hl 0 rfl) ?_
      refine lv_iconst (v := -1) hx hb dX5_mostOn_28 (by decide) ?_
      refine lv_icmp_ne (tgt := 36) hx hb dX5_mostOn_29 (by decide) (fun c9 => ?_) (fun c9 => ?_)
      · have h := ineg c9 h
        refine lv_aload_n hx hb dX5_mostOn_36 rfl (lv_at hl 1 rfl) ?_
        refine lv_iload_n hx hb dX5_mostOn_37 rfl (lv_at hl 2 rfl) ?_
        refine lv_iload_n hx hb dX5_mostOn_38 rfl (lv_at hl 0 rfl) ?_
        refine lv_aload_n hx hb dX5_mostOn_39 rfl (lv_at hl 1 rfl) ?_
        refine lv_iload_n hx hb dX5_mostOn_40 rfl (lv_at hl 2 rfl) ?_
        obtain ⟨r11, e9, h⟩ := bd h
        refine q_callVi (ret := r11) (As := [.int p0]) (w1 := wX5 cyI mo aMF aMT aMW aMU aMP aML aMM aMO aMR aMD aMB aMK mTh_3 mNo mAr mS mG mQ mWa mPa mLa mF mT mW mU mP mL_5 mM_6 mO_7 mR_8 mD_9 mB_10 mK) (ws2 := wX5 cyI mo aMF aMT aMW aMU aMP aML aMM aMO aMR aMD aMB aMK mTh_3 mNo mAr mS mG mQ mWa mPa mLa mF mT mW mU mP mL_5 mM_6 mO_7 mR_8 mD_9 mB_10 mK) ⟨hx, hb, hml, hown, hts⟩ (c_X5_capacityOf l dC dI cyI mo aMF aMT aMW aMU aMP aML aMM aMO aMR aMD aMB aMK H.size mTh_3 mNo mAr mS mG mQ mWa mPa mLa mF mT mW mU mP mL_5 mM_6 mO_7 mR_8 mD_9 mB_10 mK p0 N _ e9) (cwV 1 hts gX5_mostOn_X5_capacityOf rfl rfl rfl (by decide +kernel) ⟨Nat.le_of_ble_eq_true rfl, Nat.le_of_ble_eq_true rfl⟩) hK hP hD hS hA [0, 1, 2, 3, 4, 5, 6, 7, 8, 9, 10, 11, 12] [] [0, 1, 2, 3, 4, 5, 6, 7, 8, 9, 10, 11, 12] [0] rfl rfl rfl rfl (by decide) rfl rfl rfl 5 0 rfl rfl rfl hl.1 (Nat.le_of_ble_eq_true rfl) (Nat.le_of_ble_eq_true rfl) (Nat.le_of_ble_eq_true rfl) rfl dX5_mostOn_41 (fun H locs hP hD hS => ?_)
        refine lv_iconst (v := -1) hx hb dX5_mostOn_44 (by decide) ?_
        obtain ⟨r12, mL_13, mM_14, mO_15, mR_16, mD_17, mB_18, e9, h⟩ := bd7 h
        refine q_callVi (ret := r12) (As := [.int p0, .int r4, .int r11, .int ((-1))]) (w1 := wX5 cyI mo aMF aMT aMW aMU aMP aML aMM aMO aMR aMD aMB aMK mTh_3 mNo mAr mS mG mQ mWa mPa mLa mF mT mW mU mP mL_13 mM_14 mO_15 mR_16 mD_17 mB_18 mK) (ws2 := wX5 cyI mo aMF aMT aMW aMU aMP aML aMM aMO aMR aMD aMB aMK mTh_3 mNo mAr mS mG mQ mWa mPa mLa mF mT mW mU mP mL_13 mM_14 mO_15 mR_16 mD_17 mB_18 mK) ⟨hx, hb, hml, hown, hts⟩ (c_X5_fit l dC dI cyI mo aMF aMT aMW aMU aMP aML aMM aMO aMR aMD aMB aMK H.size mTh_3 mNo mAr mS mG mQ mWa mPa mLa mF mT mW mU mP mL_5 mM_6 mO_7 mR_8 mD_9 mB_10 mK p0 r4 r11 ((-1)) N _ e9) (cwV 4 hts gX5_mostOn_X5_fit rfl rfl rfl (by decide +kernel) ⟨Nat.le_of_ble_eq_true rfl, Nat.le_of_ble_eq_true rfl⟩) hK hP hD hS hA [0, 1, 2, 3, 4, 5, 6, 7, 8, 9, 10, 11, 12] [] [0, 1, 2, 3, 4, 5, 6, 7, 8, 9, 10, 11, 12] [0] rfl rfl rfl rfl (by decide) rfl rfl rfl 5 0 rfl rfl rfl hl.1 (Nat.le_of_ble_eq_true rfl) (Nat.le_of_ble_eq_true rfl) (Nat.le_of_ble_eq_true rfl) rfl dX5_mostOn_45 (fun H locs hP hD hS => ?_)
        cases h
        exact q_iret hQ hx hb hr hlocks hP hK hD hS dX5_mostOn_48
      · have h := ipos c9 h
        refine lv_iconst (v := -1) hx hb dX5_mostOn_32 (by decide) ?_
        refine lv_goto (tgt := 48) hx hb dX5_mostOn_33 (by decide) ?_
        cases h
        exact q_iret hQ hx hb hr hlocks hP hK hD hS dX5_mostOn_48
    · have h := ipos c9 h
      refine lv_iconst (v := 0) hx hb dX5_mostOn_20 (by decide) ?_
      cases h
      exact q_iret hQ hx hb hr hlocks hP hK hD hS dX5_mostOn_21
  · have h := ineg c9 h
    refine lv_iconst (v := 0) hx hb dX5_mostOn_9 (by decide) ?_
    refine lv_goto (tgt := 14) hx hb dX5_mostOn_10 (by decide) ?_
    obtain ⟨b19, mTh_20, e9, h⟩ := bd2 h
    refine q_callVi (ret := b2i b19) (As := [.int 0]) (w1 := wX5 cyI mo aMF aMT aMW aMU aMP aML aMM aMO aMR aMD aMB aMK mTh_20 mNo mAr mS mG mQ mWa mPa mLa mF mT mW mU mP mL mM mO mR mD mB mK) (ws2 := wX5 cyI mo aMF aMT aMW aMU aMP aML aMM aMO aMR aMD aMB aMK mTh_20 mNo mAr mS mG mQ mWa mPa mLa mF mT mW mU mP mL mM mO mR mD mB mK) ⟨hx, hb, hml, hown, hts⟩ (c_X5_goesWell l dC dI cyI mo aMF aMT aMW aMU aMP aML aMM aMO aMR aMD aMB aMK H.size mTh mNo mAr mS mG mQ mWa mPa mLa mF mT mW mU mP mL mM mO mR mD mB mK 0 _ e9) (cwV 1 hts gX5_mostOn_X5_goesWell rfl rfl rfl (by decide +kernel) ⟨Nat.le_of_ble_eq_true rfl, Nat.le_of_ble_eq_true rfl⟩) hK hP hD hS hA [0, 1, 2, 3, 4, 5, 6, 7, 8, 9, 10, 11, 12] [] [0, 1, 2, 3, 4, 5, 6, 7, 8, 9, 10, 11, 12] [0] rfl rfl rfl rfl (by decide) rfl rfl rfl 5 0 rfl rfl rfl hl.1 (Nat.le_of_ble_eq_true rfl) (Nat.le_of_ble_eq_true rfl) (Nat.le_of_ble_eq_true rfl) rfl dX5_mostOn_14 (fun H locs hP hD hS => ?_)
    refine lv_if_ne (tgt := 22) hx hb dX5_mostOn_17 (by decide) (fun c9 => ?_) (fun c9 => ?_)
    · have h := ineg c9 h
      refine lv_aload_n hx hb dX5_mostOn_22 rfl (lv_at hl 0 rfl) ?_
      obtain ⟨r21, mL_22, mM_23, mO_24, mR_25, mD_26, mB_27, e9, h⟩ := bd7 h
      refine q_callVi (ret := r21) (As := []) (w1 := wX5 cyI mo aMF aMT aMW aMU aMP aML aMM aMO aMR aMD aMB aMK mTh_20 mNo mAr mS mG mQ mWa mPa mLa mF mT mW mU mP mL_22 mM_23 mO_24 mR_25 mD_26 mB_27 mK) (ws2 := wX5 cyI mo aMF aMT aMW aMU aMP aML aMM aMO aMR aMD aMB aMK mTh_20 mNo mAr mS mG mQ mWa mPa mLa mF mT mW mU mP mL_22 mM_23 mO_24 mR_25 mD_26 mB_27 mK) ⟨hx, hb, hml, hown, hts⟩ (c_X5_costOpen l dC dI cyI mo aMF aMT aMW aMU aMP aML aMM aMO aMR aMD aMB aMK H.size mTh_20 mNo mAr mS mG mQ mWa mPa mLa mF mT mW mU mP mL mM mO mR mD mB mK N _ e9) (cwV 0 hts gX5_mostOn_X5_costOpen rfl rfl rfl (by decide +kernel) ⟨Nat.le_of_ble_eq_true rfl, Nat.le_of_ble_eq_true rfl⟩) hK hP hD hS hA [0, 1, 2, 3, 4, 5, 6, 7, 8, 9, 10, 11, 12] [] [0, 1, 2, 3, 4, 5, 6, 7, 8, 9, 10, 11, 12] [0] rfl rfl rfl rfl (by decide) rfl rfl rfl 5 0 rfl rfl rfl hl.1 (Nat.le_of_ble_eq_true rfl) (Nat.le_of_ble_eq_true rfl) (Nat.le_of_ble_eq_true rfl) rfl dX5_mostOn_23 (fun H locs hP hD hS => ?_)
      refine lv_istore_n (lv' := [(2, .int r21), (0, .ref mo), (1, .int p0)]) hx hb dX5_mostOn_26 rfl hl (by decide) rfl (fun ls hl => ?_)
      refine lv_iload_n hx hb dX5_mostOn_27 rfl (lv_at hl 0 rfl) ?_
      refine lv_iconst (v := -1) hx hb dX5_mostOn_28 (by decide) ?_
      refine lv_icmp_ne (tgt := 36) hx hb dX5_mostOn_29 (by decide) (fun c9 => ?_) (fun c9 => ?_)
      · have h := ineg c9 h
        refine lv_aload_n hx hb dX5_mostOn_36 rfl (lv_at hl 1 rfl) ?_
        refine lv_iload_n hx hb dX5_mostOn_37 rfl (lv_at hl 2 rfl) ?_
        refine lv_iload_n hx hb dX5_mostOn_38 rfl (lv_at hl 0 rfl) ?_
        refine lv_aload_n hx hb dX5_mostOn_39 rfl (lv_at hl 1 rfl) ?_
        refine lv_iload_n hx hb dX5_mostOn_40 rfl (lv_at hl 2 rfl) ?_
        obtain ⟨r28, e9, h⟩ := bd h
        refine q_callVi (ret := r28) (As := [.int p0]) (w1 := wX5 cyI mo aMF aMT aMW aMU aMP aML aMM aMO aMR aMD aMB aMK mTh_20 mNo mAr mS mG mQ mWa mPa mLa mF mT mW mU mP mL_22 mM_23 mO_24 mR_25 mD_26 mB_27 mK) (ws2 := wX5 cyI mo aMF aMT aMW aMU aMP aML aMM aMO aMR aMD aMB aMK mTh_20 mNo mAr mS mG mQ mWa mPa mLa mF mT mW mU mP mL_22 mM_23 mO_24 mR_25 mD_26 mB_27 mK) ⟨hx, hb, hml, hown, hts⟩ (c_X5_capacityOf l dC dI cyI mo aMF aMT aMW aMU aMP aML aMM aMO aMR aMD aMB aMK H.size mTh_20 mNo mAr mS mG mQ mWa mPa mLa mF mT mW mU mP mL_22 mM_23 mO_24 mR_25 mD_26 mB_27 mK p0 N _ e9) (cwV 1 hts gX5_mostOn_X5_capacityOf rfl rfl rfl (by decide +kernel) ⟨Nat.le_of_ble_eq_true rfl, Nat.le_of_ble_eq_true rfl⟩) hK hP hD hS hA [0, 1, 2, 3, 4, 5, 6, 7, 8, 9, 10, 11, 12] [] [0, 1, 2, 3, 4, 5, 6, 7, 8, 9, 10, 11, 12] [0] rfl rfl rfl rfl (by decide) rfl rfl rfl 5 0 rfl rfl rfl hl.1 (Nat.le_of_ble_eq_true rfl) (Nat.le_of_ble_eq_true rfl) (Nat.le_of_ble_eq_true rfl) rfl dX5_mostOn_41 (fun H locs hP hD hS => ?_)
        refine lv_iconst (v := -1) hx hb dX5_mostOn_44 (by decide) ?_
        obtain ⟨r29, mL_30, mM_31, mO_32, mR_33, mD_34, mB_35, e9, h⟩ := bd7 h
        refine q_callVi (ret := r29) (As := [.int p0, .int r21, .int r28, .int ((-1))]) (w1 := wX5 cyI mo aMF aMT aMW aMU aMP aML aMM aMO aMR aMD aMB aMK mTh_20 mNo mAr mS mG mQ mWa mPa mLa mF mT mW mU mP mL_30 mM_31 mO_32 mR_33 mD_34 mB_35 mK) (ws2 := wX5 cyI mo aMF aMT aMW aMU aMP aML aMM aMO aMR aMD aMB aMK mTh_20 mNo mAr mS mG mQ mWa mPa mLa mF mT mW mU mP mL_30 mM_31 mO_32 mR_33 mD_34 mB_35 mK) ⟨hx, hb, hml, hown, hts⟩ (c_X5_fit l dC dI cyI mo aMF aMT aMW aMU aMP aML aMM aMO aMR aMD aMB aMK H.size mTh_20 mNo mAr mS mG mQ mWa mPa mLa mF mT mW mU mP mL_22 mM_23 mO_24 mR_25 mD_26 mB_27 mK p0 r21 r28 ((-1)) N _ e9) (cwV 4 hts gX5_mostOn_X5_fit rfl rfl rfl (by decide +kernel) ⟨Nat.le_of_ble_eq_true rfl, Nat.le_of_ble_eq_true rfl⟩) hK hP hD hS hA [0, 1, 2, 3, 4, 5, 6, 7, 8, 9, 10, 11, 12] [] [0, 1, 2, 3, 4, 5, 6, 7, 8, 9, 10, 11, 12] [0] rfl rfl rfl rfl (by decide) rfl rfl rfl 5 0 rfl rfl rfl hl.1 (Nat.le_of_ble_eq_true rfl) (Nat.le_of_ble_eq_true rfl) (Nat.le_of_ble_eq_true rfl) rfl dX5_mostOn_45 (fun H locs hP hD hS => ?_)
        cases h
        exact q_iret hQ hx hb hr hlocks hP hK hD hS dX5_mostOn_48
      · have h := ipos c9 h
        refine lv_iconst (v := -1) hx hb dX5_mostOn_32 (by decide) ?_
        refine lv_goto (tgt := 48) hx hb dX5_mostOn_33 (by decide) ?_
        cases h
        exact q_iret hQ hx hb hr hlocks hP hK hD hS dX5_mostOn_48
    · have h := ipos c9 h
      refine lv_iconst (v := 0) hx hb dX5_mostOn_20 (by decide) ?_
      cases h
      exact q_iret hQ hx hb hr hlocks hP hK hD hS dX5_mostOn_21
set_option maxHeartbeats 4000000 in
set_option maxRecDepth 100000 in
theorem c_X5_lookBack (l : Launch) (dC : Nat → ClassId) (dI : Nat → Nat → Nat) (cyI : ClassId) (mo aMF aMT aMW aMU aMP aML aMM aMO aMR aMD aMB aMK : Nat) (sz : Nat) (mTh mNo mAr mS mG mQ mWa mPa mLa : Int32) (mF mT mW mU mP mL mM mO mR mD mB mK : Nat → Int32) (N : Nat) (res : (Nat → Int32)) (h : pX5_lookBack N mNo mAr mG mF mT mW mU mP mD mK = some res) : Met l yX5_lookBack wsX5_lookBack { frames := 1, cells := 0, slots := 0, locals := 24 } (va_Pc [.ref mo] (zPre (dC, dI) (wX5 cyI mo aMF aMT aMW aMU aMP aML aMM aMO aMR aMD aMB aMK mTh mNo mAr mS mG mQ mWa mPa mLa mF mT mW mU mP mL mM mO mR mD mB mK) [(cyI, .int)] sz)) (zQv (dC, dI) (wX5 cyI mo aMF aMT aMW aMU aMP aML aMM aMO aMR aMD aMB aMK mTh mNo mAr mS mG mQ mWa mPa mLa mF mT mW mU mP mL mM mO mR res mB mK) [(cyI, .int)] (va_A (wX5 cyI mo aMF aMT aMW aMU aMP aML aMM aMO aMR aMD aMB aMK mTh mNo mAr mS mG mQ mWa mPa mLa mF mT mW mU mP mL mM mO mR mD mB mK) sz)) 0 0 (va_A (wX5 cyI mo aMF aMT aMW aMU aMP aML aMM aMO aMR aMD aMB aMK mTh mNo mAr mS mG mQ mWa mPa mLa mF mT mW mU mP mL mM mO mR mD mB mK) sz) := by
  refine q_ofWv (cc := cX5_lookBack) (maxL := 4) (rt := none) (by decide) rfl (Nat.le_of_ble_eq_true rfl) ?_
  intro p e s m args below meth c ls A Q H locs hQ hx hb hr hts hown hlocks hml hA hK hP hD hS hl
  have hl : lv_has ls 4 [(0, .ref mo)] := hl
  have k0 := hts (.fieldLink RX5 50 "ConvexConduitModel" "nodes" "I") (by decide +kernel)
  have k1 : ∀ w ∈ u_ws RX5 TX5 21, w ∈ wsX5_lookBack := by decide +kernel
  have k2 := hts (.fieldLink RX5 41 "ConvexConduitModel" "far" "[I") (by decide +kernel)
  have k3 := hts (.fieldLink RX5 25 "ConvexConduitModel" "target" "I") (by decide +kernel)
  have k4 := hts (.constant RX5 91 (1000000)) (by decide +kernel)
  have k5 := hts (.fieldLink RX5 60 "ConvexConduitModel" "arcs" "I") (by decide +kernel)
  have k6 := hts (.fieldLink RX5 47 "ConvexConduitModel" "taken" "[I") (by decide +kernel)
  have k7 := hts (.fieldLink RX5 13 "ConvexConduitModel" "tos" "[I") (by decide +kernel)
  have k8 := hts (.fieldLink RX5 7 "ConvexConduitModel" "froms" "[I") (by decide +kernel)
  unfold pX5_lookBack at h
  refine lv_iconst (v := 0) hx hb dX5_lookBack_0 (by decide) ?_
  refine lv_istore_n (lv' := [(1, .int 0), (0, .ref mo)]) hx hb dX5_lookBack_1 rfl hl (by decide) rfl (fun ls hl => ?_)
  obtain ⟨x1_5, mD_6, e0, h⟩ := bd2 h
  have hT0 : ∀ (H : Heap) (locs : List Loc), va_P (dC, dI) vwCl (wX5 cyI mo aMF aMT aMW aMU aMP aML aMM aMO aMR aMD aMB aMK mTh mNo mAr mS mG mQ mWa mPa mLa mF mT mW mU mP mL mM mO mR mD_6 mB mK) H → va_D A (wX5 cyI mo aMF aMT aMW aMU aMP aML aMM aMO aMR aMD aMB aMK mTh mNo mAr mS mG mQ mWa mPa mLa mF mT mW mU mP mL mM mO mR mD_6 mB mK) → va_S A s.heap H locs → ∀ ls : Array Slot, lv_has ls 4 [(0, .ref mo), (1, .int x1_5)] → W p l e { frames := 1, cells := 0, slots := 0, locals := 24 } s m args below meth c H locs 0 0 Q (F0 m 36 ls []) := by
    intro H locs hP hD hS ls hl
    refine lv_iconst (v := 0) hx hb dX5_lookBack_36 (by decide) ?_
    refine lv_istore_n (lv' := [(1, .int 0), (0, .ref mo)]) hx hb dX5_lookBack_37 rfl hl (by decide) rfl (fun ls hl => ?_)
    obtain ⟨x1_26, mD_27, e1, h⟩ := bd2 h
    have hT1 : ∀ (H : Heap) (locs : List Loc), va_P (dC, dI) vwCl (wX5 cyI mo aMF aMT aMW aMU aMP aML aMM aMO aMR aMD aMB aMK mTh mNo mAr mS mG mQ mWa mPa mLa mF mT mW mU mP mL mM mO mR mD_27 mB mK) H → va_D A (wX5 cyI mo aMF aMT aMW aMU aMP aML aMM aMO aMR aMD aMB aMK mTh mNo mAr mS mG mQ mWa mPa mLa mF mT mW mU mP mL mM mO mR mD_27 mB mK) → va_S A s.heap H locs → ∀ ls : Array Slot, lv_has ls 4 [(0, .ref mo), (1, .int x1_26)] → W p l e { frames := 1, cells := 0, slots := 0, locals := 24 } s m args below meth c H locs 0 0 Q (F0 m 154 ls []) := by
      intro H locs hP hD hS ls hl
      cases h
      exact q_vret hQ hx hb hr hlocks hP hK hD hS dX5_lookBack_154
    have hL1 : ∀ (n9 : Nat) (x1_7 : Int32) (mD_8 : Nat → Int32), lp (un2 (pX5_lookBack_l38 N mAr mF mK mNo mP mT mU mW)) n9 ((x1_7, mD_8)) = some ((x1_26, mD_27)) → ∀ (H : Heap) (locs : List Loc), va_P (dC, dI) vwCl (wX5 cyI mo aMF aMT aMW aMU aMP aML aMM aMO aMR aMD aMB aMK mTh mNo mAr mS mG mQ mWa mPa mLa mF mT mW mU mP mL mM mO mR mD_8 mB mK) H → va_D A (wX5 cyI mo aMF aMT aMW aMU aMP aML aMM aMO aMR aMD aMB aMK mTh mNo mAr mS mG mQ mWa mPa mLa mF mT mW mU mP mL mM mO mR mD_8 mB mK) → va_S A s.heap H locs → ∀ ls : Array Slot, lv_has ls 4 [(0, .ref mo), (1, .int x1_7)] → W p l e { frames := 1, cells := 0, slots := 0, locals := 24 } s m args below meth c H locs 0 0 Q (F0 m 38 ls []) := by
      intro n9
      induction n9 with
      | zero =>
        intro x1_7 mD_8 h
        exact lp0 h
      | succ n9 ih1 =>
        intro x1_7 mD_8 h H locs hP hD hS ls hl
        obtain ⟨o9, g, h⟩ := lps h
        replace g : pX5_lookBack_l38 N mAr mF mK mNo mP mT mU mW x1_7 mD_8 = some o9 := g
        unfold pX5_lookBack_l38 at g
        refine lv_iload_n hx hb dX5_lookBack_38 rfl (lv_at hl 1 rfl) ?_
        refine lv_aload_n hx hb dX5_lookBack_39 rfl (lv_at hl 0 rfl) ?_
        refine va_get (D := (dC, dI)) (ci := 5) (v := .int mNo) (C := RX5) (T := TX5) (N := 21) hx hb hts k1 hown hK hP 0 rfl rfl 1 (by decide) k0 (fun _ h9 => h9) rfl dX5_lookBack_40 ?_
        refine lv_icmp_ge (tgt := 154) hx hb dX5_lookBack_43 (by decide) (fun c9 => ?_) (fun c9 => ?_)
        · have g := ipos c9 g
          cases g
          have h := lpx h
          cases h
          exact hT1 _ _ hP hD hS _ (lv_sub hl [0, 1] rfl)
        · have g := ineg c9 g
          refine lv_iconst (v := 0) hx hb dX5_lookBack_46 (by decide) ?_
          refine lv_istore_n (lv' := [(2, .int 0), (0, .ref mo), (1, .int x1_7)]) hx hb dX5_lookBack_47 rfl hl (by decide) rfl (fun ls hl => ?_)
          obtain ⟨x2_24, mD_25, e2, g⟩ := bd2 g
          have hT2 : ∀ (H : Heap) (locs : List Loc), va_P (dC, dI) vwCl (wX5 cyI mo aMF aMT aMW aMU aMP aML aMM aMO aMR aMD aMB aMK mTh mNo mAr mS mG mQ mWa mPa mLa mF mT mW mU mP mL mM mO mR mD_25 mB mK) H → va_D A (wX5 cyI mo aMF aMT aMW aMU aMP aML aMM aMO aMR aMD aMB aMK mTh mNo mAr mS mG mQ mWa mPa mLa mF mT mW mU mP mL mM mO mR mD_25 mB mK) → va_S A s.heap H locs → ∀ ls : Array Slot, lv_has ls 4 [(0, .ref mo), (1, .int x1_7), (2, .int x2_24)] → W p l e { frames := 1, cells := 0, slots := 0, locals := 24 } s m args below meth c H locs 0 0 Q (F0 m 148 ls []) := by
            intro H locs hP hD hS ls hl
            refine lv_iinc (v := x1_7 + 1) (lv' := [(1, .int (x1_7 + 1)), (0, .ref mo), (2, .int x2_24)]) hx hb dX5_lookBack_148 hl (k := 1) rfl (by rfl) (by decide) rfl (fun ls hl => ?_)
            refine lv_goto (tgt := 38) hx hb dX5_lookBack_151 (by decide) ?_
            cases g
            exact ih1 _ _ h _ _ hP hD hS _ (lv_sub hl [1, 0] rfl)
          have hL2 : ∀ (n9 : Nat) (x2_9 : Int32) (mD_10 : Nat → Int32), lp (un2 (pX5_lookBack_l48 N mAr mF mK mP mT mU mW)) n9 ((x2_9, mD_10)) = some ((x2_24, mD_25)) → ∀ (H : Heap) (locs : List Loc), va_P (dC, dI) vwCl (wX5 cyI mo aMF aMT aMW aMU aMP aML aMM aMO aMR aMD aMB aMK mTh mNo mAr mS mG mQ mWa mPa mLa mF mT mW mU mP mL mM mO mR mD_10 mB mK) H → va_D A (wX5 cyI mo aMF aMT aMW aMU aMP aML aMM aMO aMR aMD aMB aMK mTh mNo mAr mS mG mQ mWa mPa mLa mF mT mW mU mP mL mM mO mR mD_10 mB mK) → va_S A s.heap H locs → ∀ ls : Array Slot, lv_has ls 4 [(0, .ref mo), (1, .int x1_7), (2, .int x2_9)] → W p l e { frames := 1, cells := 0, slots := 0, locals := 24 } s m args below meth c H locs 0 0 Q (F0 m 48 ls []) := by
            intro n9
            induction n9 with
            | zero =>
              intro x2_9 mD_10 h
              exact lp0 h
            | succ n9 ih2 =>
              intro x2_9 mD_10 h H locs hP hD hS ls hl
              obtain ⟨o9, g, h⟩ := lps h
              replace g : pX5_lookBack_l48 N mAr mF mK mP mT mU mW x2_9 mD_10 = some o9 := g
              unfold pX5_lookBack_l48 at g
              refine lv_iload_n hx hb dX5_lookBack_48 rfl (lv_at hl 2 rfl) ?_
              refine lv_aload_n hx hb dX5_lookBack_49 rfl (lv_at hl 0 rfl) ?_
              refine va_get (D := (dC, dI)) (ci := 5) (v := .int mAr) (C := RX5) (T := TX5) (N := 21) hx hb hts k1 hown hK hP 0 rfl rfl 2 (by decide) k5 (fun _ h9 => h9) rfl dX5_lookBack_50 ?_
              refine lv_icmp_ge (tgt := 148) hx hb dX5_lookBack_53 (by decide) (fun c9 => ?_) (fun c9 => ?_)
              · have g := ipos c9 g
                cases g
                have h := lpx h
                cases h
                exact hT2 _ _ hP hD hS _ (lv_sub hl [0, 1, 2] rfl)
              · have g := ineg c9 g
                refine lv_aload_n hx hb dX5_lookBack_56 rfl (lv_at hl 0 rfl) ?_
                refine va_get (D := (dC, dI)) (ci := 5) (v := .ref aMK) (C := RX5) (T := TX5) (N := 21) hx hb hts k1 hown hK hP 0 rfl rfl 17 (by decide) k6 (fun _ h9 => h9) rfl dX5_lookBack_57 ?_
                refine lv_iload_n hx hb dX5_lookBack_60 rfl (lv_at hl 2 rfl) ?_
                obtain ⟨t11, e9, g⟩ := bd g
                refine q_iald hx hb hK hP 12 0 rfl rfl e9 dX5_lookBack_61 ?_
                refine lv_aload_n hx hb dX5_lookBack_62 rfl (lv_at hl 0 rfl) ?_
                refine lv_iload_n hx hb dX5_lookBack_63 rfl (lv_at hl 2 rfl) ?_
                obtain ⟨r12, e9, g⟩ := bd g
                refine q_callVi (ret := r12) (As := [.int x2_9]) (w1 := wX5 cyI mo aMF aMT aMW aMU aMP aML aMM aMO aMR aMD aMB aMK mTh mNo mAr mS mG mQ mWa mPa mLa mF mT mW mU mP mL mM mO mR mD_10 mB mK) (ws2 := wX5 cyI mo aMF aMT aMW aMU aMP aML aMM aMO aMR aMD aMB aMK mTh mNo mAr mS mG mQ mWa mPa mLa mF mT mW mU mP mL mM mO mR mD_10 mB mK) ⟨hx, hb, hml, hown, hts⟩ (c_X5_capacityOf l dC dI cyI mo aMF aMT aMW aMU aMP aML aMM aMO aMR aMD aMB aMK H.size mTh mNo mAr mS mG mQ mWa mPa mLa mF mT mW mU mP mL mM mO mR mD_10 mB mK x2_9 N _ e9) (cwV 1 hts gX5_lookBack_X5_capacityOf rfl rfl rfl (by decide +kernel) ⟨Nat.le_of_ble_eq_true rfl, Nat.le_of_ble_eq_true rfl⟩) hK hP hD hS hA [0, 1, 2, 3, 4, 5, 6, 7, 8, 9, 10, 11, 12] [] [0, 1, 2, 3, 4, 5, 6, 7, 8, 9, 10, 11, 12] [0] rfl rfl rfl rfl (by decide) rfl rfl rfl 5 0 rfl rfl rfl hl.1 (Nat.le_of_ble_eq_true rfl) (Nat.le_of_ble_eq_true rfl) (Nat.le_of_ble_eq_true rfl) rfl dX5_lookBack_64 (fun H locs hP hD hS => ?_)
                refine lv_icmp_ge (tgt := 142) hx hb dX5_lookBack_67 (by decide) (fun c9 => ?_) (fun c9 => ?_)
                · have g := ipos c9 g
                  refine lv_iinc (v := x2_9 + 1) (lv' := [(2, .int (x2_9 + 1)), (0, .ref mo), (1, .int x1_7)]) hx hb dX5_lookBack_142 hl (k := 2) rfl (by rfl) (by decide) rfl (fun ls hl => ?_)
                  refine lv_goto (tgt := 48) hx hb dX5_lookBack_145 (by decide) ?_
                  cases g
                  exact ih2 _ _ h _ _ hP hD hS _ (lv_sub hl [1, 2, 0] rfl)
                · have g := ineg c9 g
                  refine lv_aload_n hx hb dX5_lookBack_70 rfl (lv_at hl 0 rfl) ?_
                  refine va_get (D := (dC, dI)) (ci := 5) (v := .ref aMD) (C := RX5) (T := TX5) (N := 21) hx hb hts k1 hown hK hP 0 rfl rfl 15 (by decide) k2 (fun _ h9 => h9) rfl dX5_lookBack_71 ?_
                  refine lv_aload_n hx hb dX5_lookBack_74 rfl (lv_at hl 0 rfl) ?_
                  refine va_get (D := (dC, dI)) (ci := 5) (v := .ref aMT) (C := RX5) (T := TX5) (N := 21) hx hb hts k1 hown hK hP 0 rfl rfl 4 (by decide) k7 (fun _ h9 => h9) rfl dX5_lookBack_75 ?_
                  refine lv_iload_n hx hb dX5_lookBack_78 rfl (lv_at hl 2 rfl) ?_
                  obtain ⟨t13, e9, g⟩ := bd g
                  refine q_iald hx hb hK hP 2 0 rfl rfl e9 dX5_lookBack_79 ?_
                  obtain ⟨t14, e9, g⟩ := bd g
                  refine q_iald hx hb hK hP 10 0 rfl rfl e9 dX5_lookBack_80 ?_
                  refine lv_bipush (v := 100) hx hb dX5_lookBack_81 (by decide) ?_
                  refine lv_aload_n hx hb dX5_lookBack_83 rfl (lv_at hl 0 rfl) ?_
                  refine lv_iload_n hx hb dX5_lookBack_84 rfl (lv_at hl 2 rfl) ?_
                  refine lv_aload_n hx hb dX5_lookBack_85 rfl (lv_at hl 0 rfl) ?_
                  refine va_get (D := (dC, dI)) (ci := 5) (v := .ref aMK) (C := RX5) (T := TX5) (N := 21) hx hb hts k1 hown hK hP 0 rfl rfl 17 (by decide) k6 (fun _ h9 => h9) rfl dX5_lookBack_86 ?_
                  refine lv_iload_n hx hb dX5_lookBack_89 rfl (lv_at hl 2 rfl) ?_
                  obtain ⟨t15, e9, g⟩ := bd g
                  refine q_iald hx hb hK hP 12 0 rfl rfl e9 dX5_lookBack_90 ?_
                  refine lv_iconst (v := 1) hx hb dX5_lookBack_91 (by decide) ?_
                  refine lv_iadd hx hb dX5_lookBack_92 ?_
                  obtain ⟨r16, e9, g⟩ := bd g
                  refine q_callVi (ret := r16) (As := [.int x2_9, .int (t15 + 1)]) (w1 := wX5 cyI mo aMF aMT aMW aMU aMP aML aMM aMO aMR aMD aMB aMK mTh mNo mAr mS mG mQ mWa mPa mLa mF mT mW mU mP mL mM mO mR mD_10 mB mK) (ws2 := wX5 cyI mo aMF aMT aMW aMU aMP aML aMM aMO aMR aMD aMB aMK mTh mNo mAr mS mG mQ mWa mPa mLa mF mT mW mU mP mL mM mO mR mD_10 mB mK) ⟨hx, hb, hml, hown, hts⟩ (c_X5_priceOf l dC dI cyI mo aMF aMT aMW aMU aMP aML aMM aMO aMR aMD aMB aMK H.size mTh mNo mAr mS mG mQ mWa mPa mLa mF mT mW mU mP mL mM mO mR mD_10 mB mK x2_9 (t15 + 1) N _ e9) (cwV 2 hts gX5_lookBack_X5_priceOf rfl rfl rfl (by decide +kernel) ⟨Nat.le_of_ble_eq_true rfl, Nat.le_of_ble_eq_true rfl⟩) hK hP hD hS hA [0, 1, 2, 3, 4, 5, 6, 7, 8, 9, 10, 11, 12] [] [0, 1, 2, 3, 4, 5, 6, 7, 8, 9, 10, 11, 12] [0] rfl rfl rfl rfl (by decide) rfl rfl rfl 5 0 rfl rfl rfl hl.1 (Nat.le_of_ble_eq_true rfl) (Nat.le_of_ble_eq_true rfl) (Nat.le_of_ble_eq_true rfl) rfl dX5_lookBack_93 (fun H locs hP hD hS => ?_)
                  refine lv_imul hx hb dX5_lookBack_96 ?_
                  refine lv_iadd hx hb dX5_lookBack_97 ?_
                  refine lv_iconst (v := 1) hx hb dX5_lookBack_98 (by decide) ?_
                  refine lv_iadd hx hb dX5_lookBack_99 ?_
                  refine lv_istore_n (lv' := [(3, .int ((t14 + (100 * r16)) + 1)), (0, .ref mo), (1, .int x1_7), (2, .int x2_9)]) hx hb dX5_lookBack_100 rfl hl (by decide) rfl (fun ls hl => ?_)
                  refine lv_aload_n hx hb dX5_lookBack_101 rfl (lv_at hl 1 rfl) ?_
                  refine va_get (D := (dC, dI)) (ci := 5) (v := .ref aMD) (C := RX5) (T := TX5) (N := 21) hx hb hts k1 hown hK hP 0 rfl rfl 15 (by decide) k2 (fun _ h9 => h9) rfl dX5_lookBack_102 ?_
                  refine lv_aload_n hx hb dX5_lookBack_105 rfl (lv_at hl 1 rfl) ?_
                  refine va_get (D := (dC, dI)) (ci := 5) (v := .ref aMF) (C := RX5) (T := TX5) (N := 21) hx hb hts k1 hown hK hP 0 rfl rfl 3 (by decide) k8 (fun _ h9 => h9) rfl dX5_lookBack_106 ?_
                  refine lv_iload_n hx hb dX5_lookBack_109 rfl (lv_at hl 3 rfl) ?_
                  obtain ⟨t17, e9, g⟩ := bd g
                  refine q_iald hx hb hK hP 1 0 rfl rfl e9 dX5_lookBack_110 ?_
                  refine lv_iload_n hx hb dX5_lookBack_111 rfl (lv_at hl 0 rfl) ?_
                  refine lv_aload_n hx hb dX5_lookBack_112 rfl (lv_at hl 1 rfl) ?_
                  refine va_get (D := (dC, dI)) (ci := 5) (v := .ref aMD) (C := RX5) (T := TX5) (N := 21) hx hb hts k1 hown hK hP 0 rfl rfl 15 (by decide) k2 (fun _ h9 => h9) rfl dX5_lookBack_113 ?_
                  refine lv_aload_n hx hb dX5_lookBack_116 rfl (lv_at hl 1 rfl) ?_
                  refine va_get (D := (dC, dI)) (ci := 5) (v := .ref aMF) (C := RX5) (T := TX5) (N := 21) hx hb hts k1 hown hK hP 0 rfl rfl 3 (by decide) k8 (fun _ h9 => h9) rfl dX5_lookBack_117 ?_
                  refine lv_iload_n hx hb dX5_lookBack_120 rfl (lv_at hl 3 rfl) ?_
                  obtain ⟨t18, e9, g⟩ := bd g
                  refine q_iald hx hb hK hP 1 0 rfl rfl e9 dX5_lookBack_121 ?_
                  obtain ⟨t19, e9, g⟩ := bd g
                  refine q_iald hx hb hK hP 10 0 rfl rfl e9 dX5_lookBack_122 ?_
                  refine lv_icmp_ge (tgt := 130) hx hb dX5_lookBack_123 (by decide) (fun c9 => ?_) (fun c9 => ?_)
                  · have g := ipos c9 g
                    refine lv_aload_n hx hb dX5_lookBack_130 rfl (lv_at hl 1 rfl) ?_
                    refine va_get (D := (dC, dI)) (ci := 5) (v := .ref aMD) (C := RX5) (T := TX5) (N := 21) hx hb hts k1 hown hK hP 0 rfl rfl 15 (by decide) k2 (fun _ h9 => h9) rfl dX5_lookBack_131 ?_
                    refine lv_aload_n hx hb dX5_lookBack_134 rfl (lv_at hl 1 rfl) ?_
                    refine va_get (D := (dC, dI)) (ci := 5) (v := .ref aMF) (C := RX5) (T := TX5) (N := 21) hx hb hts k1 hown hK hP 0 rfl rfl 3 (by decide) k8 (fun _ h9 => h9) rfl dX5_lookBack_135 ?_
                    refine lv_iload_n hx hb dX5_lookBack_138 rfl (lv_at hl 3 rfl) ?_
                    obtain ⟨t20, e9, g⟩ := bd g
                    refine q_iald hx hb hK hP 1 0 rfl rfl e9 dX5_lookBack_139 ?_
                    obtain ⟨t21, e9, g⟩ := bd g
                    refine q_iald hx hb hK hP 10 0 rfl rfl e9 dX5_lookBack_140 ?_
                    obtain ⟨mD_22, e9, g⟩ := bd g
                    refine q_iast (ws2 := wX5 cyI mo aMF aMT aMW aMU aMP aML aMM aMO aMR aMD aMB aMK mTh mNo mAr mS mG mQ mWa mPa mLa mF mT mW mU mP mL mM mO mR mD_22 mB mK) hx hb hK hP hD hS 10 0 rfl rfl e9 dX5_lookBack_141 rfl (fun H locs hP hD hS => ?_)
                    refine lv_iinc (v := x2_9 + 1) (lv' := [(2, .int (x2_9 + 1)), (3, .int ((t14 + (100 * r16)) + 1)), (0, .ref mo), (1, .int x1_7)]) hx hb dX5_lookBack_142 hl (k := 3) rfl (by rfl) (by decide) rfl (fun ls hl => ?_)
                    refine lv_goto (tgt := 48) hx hb dX5_lookBack_145 (by decide) ?_
                    cases g
                    exact ih2 _ _ h _ _ hP hD hS _ (lv_sub hl [2, 3, 0] rfl)
                  · have g := ineg c9 g
                    refine lv_iload_n hx hb dX5_lookBack_126 rfl (lv_at hl 0 rfl) ?_
                    refine lv_goto (tgt := 141) hx hb dX5_lookBack_127 (by decide) ?_
                    obtain ⟨mD_23, e9, g⟩ := bd g
                    refine q_iast (ws2 := wX5 cyI mo aMF aMT aMW aMU aMP aML aMM aMO aMR aMD aMB aMK mTh mNo mAr mS mG mQ mWa mPa mLa mF mT mW mU mP mL mM mO mR mD_23 mB mK) hx hb hK hP hD hS 10 0 rfl rfl e9 dX5_lookBack_141 rfl (fun H locs hP hD hS => ?_)
                    refine lv_iinc (v := x2_9 + 1) (lv' := [(2, .int (x2_9 + 1)), (3, .int ((t14 + (100 * r16)) + 1)), (0, .ref mo), (1, .int x1_7)]) hx hb dX5_lookBack_142 hl (k := 3) rfl (by rfl) (by decide) rfl (fun ls hl => ?_)
                    refine lv_goto (tgt := 48) hx hb dX5_lookBack_145 (by decide) ?_
                    cases g
                    exact ih2 _ _ h _ _ hP hD hS _ (lv_sub hl [2, 3, 0] rfl)
          exact hL2 N _ _  e2 _ _ hP hD hS _ (lv_sub hl [1, 2, 0] rfl)
    exact hL1 N _ _  e1 _ _ hP hD hS _ (lv_sub hl [1, 0] rfl)
  have hL0 : ∀ (n9 : Nat) (x1_1 : Int32) (mD_2 : Nat → Int32), lp (un2 (pX5_lookBack_l2 mG mNo)) n9 ((x1_1, mD_2)) = some ((x1_5, mD_6)) → ∀ (H : Heap) (locs : List Loc), va_P (dC, dI) vwCl (wX5 cyI mo aMF aMT aMW aMU aMP aML aMM aMO aMR aMD aMB aMK mTh mNo mAr mS mG mQ mWa mPa mLa mF mT mW mU mP mL mM mO mR mD_2 mB mK) H → va_D A (wX5 cyI mo aMF aMT aMW aMU aMP aML aMM aMO aMR aMD aMB aMK mTh mNo mAr mS mG mQ mWa mPa mLa mF mT mW mU mP mL mM mO mR mD_2 mB mK) → va_S A s.heap H locs → ∀ ls : Array Slot, lv_has ls 4 [(0, .ref mo), (1, .int x1_1)] → W p l e { frames := 1, cells := 0, slots := 0, locals := 24 } s m args below meth c H locs 0 0 Q (F0 m 2 ls []) := by
    intro n9
    induction n9 with
    | zero =>
      intro x1_1 mD_2 h
      exact lp0 h
    | succ n9 ih0 =>
      intro x1_1 mD_2 h H locs hP hD hS ls hl
      obtain ⟨o9, g, h⟩ := lps h
      replace g : pX5_lookBack_l2 mG mNo x1_1 mD_2 = some o9 := g
      unfold pX5_lookBack_l2 at g
      refine lv_iload_n hx hb dX5_lookBack_2 rfl (lv_at hl 1 rfl) ?_
      refine lv_aload_n hx hb dX5_lookBack_3 rfl (lv_at hl 0 rfl) ?_
      refine va_get (D := (dC, dI)) (ci := 5) (v := .int mNo) (C := RX5) (T := TX5) (N := 21) hx hb hts k1 hown hK hP 0 rfl rfl 1 (by decide) k0 (fun _ h9 => h9) rfl dX5_lookBack_4 ?_
      refine lv_icmp_ge (tgt := 36) hx hb dX5_lookBack_7 (by decide) (fun c9 => ?_) (fun c9 => ?_)
      · have g := ipos c9 g
        cases g
        have h := lpx h
        cases h
        exact hT0 _ _ hP hD hS _ (lv_sub hl [0, 1] rfl)
      · have g := ineg c9 g
        refine lv_aload_n hx hb dX5_lookBack_10 rfl (lv_at hl 0 rfl) ?_
        refine va_get (D := (dC, dI)) (ci := 5) (v := .ref aMD) (C := RX5) (T := TX5) (N := 21) hx hb hts k1 hown hK hP 0 rfl rfl 15 (by decide) k2 (fun _ h9 => h9) rfl dX5_lookBack_11 ?_
        refine lv_iload_n hx hb dX5_lookBack_14 rfl (lv_at hl 1 rfl) ?_
        refine lv_iload_n hx hb dX5_lookBack_15 rfl (lv_at hl 1 rfl) ?_
        refine lv_aload_n hx hb dX5_lookBack_16 rfl (lv_at hl 0 rfl) ?_
        refine va_get (D := (dC, dI)) (ci := 5) (v := .int mG) (C := RX5) (T := TX5) (N := 21) hx hb hts k1 hown hK hP 0 rfl rfl 9 (by decide) k3 (fun _ h9 => h9) rfl dX5_lookBack_17 ?_
        refine lv_icmp_ne (tgt := 27) hx hb dX5_lookBack_20 (by decide) (fun c9 => ?_) (fun c9 => ?_)
        · have g := ineg c9 g
          refine lv_ldc (own := RX5) (v := 1000000) hx hb hown k4 dX5_lookBack_27 ?_
          obtain ⟨mD_3, e9, g⟩ := bd g
          refine q_iast (ws2 := wX5 cyI mo aMF aMT aMW aMU aMP aML aMM aMO aMR aMD aMB aMK mTh mNo mAr mS mG mQ mWa mPa mLa mF mT mW mU mP mL mM mO mR mD_3 mB mK) hx hb hK hP hD hS 10 0 rfl rfl e9 dX5_lookBack_29 rfl (fun H locs hP hD hS => ?_)
          refine lv_iinc (v := x1_1 + 1) (lv' := [(1, .int (x1_1 + 1)), (0, .ref mo)]) hx hb dX5_lookBack_30 hl (k := 1) rfl (by rfl) (by decide) rfl (fun ls hl => ?_)
          refine lv_goto (tgt := 2) hx hb dX5_lookBack_33 (by decide) ?_
          cases g
          exact ih0 _ _ h _ _ hP hD hS _ (lv_sub hl [1, 0] rfl)
        · have g := ipos c9 g
          refine lv_iconst (v := 0) hx hb dX5_lookBack_23 (by decide) ?_
          refine lv_goto (tgt := 29) hx hb dX5_lookBack_24 (by decide) ?_
          obtain ⟨mD_4, e9, g⟩ := bd g
          refine q_iast (ws2 := wX5 cyI mo aMF aMT aMW aMU aMP aML aMM aMO aMR aMD aMB aMK mTh mNo mAr mS mG mQ mWa mPa mLa mF mT mW mU mP mL mM mO mR mD_4 mB mK) hx hb hK hP hD hS 10 0 rfl rfl e9 dX5_lookBack_29 rfl (fun H locs hP hD hS => ?_)
          refine lv_iinc (v := x1_1 + 1) (lv' := [(1, .int (x1_1 + 1)), (0, .ref mo)]) hx hb dX5_lookBack_30 hl (k := 1) rfl (by rfl) (by decide) rfl (fun ls hl => ?_)
          refine lv_goto (tgt := 2) hx hb dX5_lookBack_33 (by decide) ?_
          cases g
          exact ih0 _ _ h _ _ hP hD hS _ (lv_sub hl [1, 0] rfl)
  exact hL0 N _ _  e0 _ _ hP hD hS _ (lv_sub hl [1, 0] rfl)
set_option maxHeartbeats 4000000 in
set_option maxRecDepth 100000 in
theorem c_X5_isNext (l : Launch) (dC : Nat → ClassId) (dI : Nat → Nat → Nat) (cyI : ClassId) (mo aMF aMT aMW aMU aMP aML aMM aMO aMR aMD aMB aMK : Nat) (sz : Nat) (mTh mNo mAr mS mG mQ mWa mPa mLa : Int32) (mF mT mW mU mP mL mM mO mR mD mB mK : Nat → Int32) (p0 p1 : Int32) (N : Nat) (res : Bool) (h : pX5_isNext N mF mT mW mU mP mD mK p0 p1 = some res) : Met l yX5_isNext wsX5_isNext { frames := 1, cells := 0, slots := 0, locals := 24 } (va_Pc [.ref mo, .int p0, .int p1] (zPre (dC, dI) (wX5 cyI mo aMF aMT aMW aMU aMP aML aMM aMO aMR aMD aMB aMK mTh mNo mAr mS mG mQ mWa mPa mLa mF mT mW mU mP mL mM mO mR mD mB mK) [(cyI, .int)] sz)) (zQi (dC, dI) (wX5 cyI mo aMF aMT aMW aMU aMP aML aMM aMO aMR aMD aMB aMK mTh mNo mAr mS mG mQ mWa mPa mLa mF mT mW mU mP mL mM mO mR mD mB mK) [(cyI, .int)] (b2i res) (va_A (wX5 cyI mo aMF aMT aMW aMU aMP aML aMM aMO aMR aMD aMB aMK mTh mNo mAr mS mG mQ mWa mPa mLa mF mT mW mU mP mL mM mO mR mD mB mK) sz)) 0 0 (va_A (wX5 cyI mo aMF aMT aMW aMU aMP aML aMM aMO aMR aMD aMB aMK mTh mNo mAr mS mG mQ mWa mPa mLa mF mT mW mU mP mL mM mO mR mD mB mK) sz) := by
  refine q_ofWi (cc := cX5_isNext) (maxL := 4) (rt := (some .boolean)) (by decide) rfl (Nat.le_of_ble_eq_true rfl) ?_
  intro p e s m args below meth c ls A Q H locs hQ hx hb hr hts hown hlocks hml hA hK hP hD hS hl
  have hl : lv_has ls 4 [(0, .ref mo), (1, .int p0), (2, .int p1)] := hl
  have k0 := hts (.fieldLink RX5 7 "ConvexConduitModel" "froms" "[I") (by decide +kernel)
  have k1 : ∀ w ∈ u_ws RX5 TX5 21, w ∈ wsX5_isNext := by decide +kernel
  have k2 := hts (.fieldLink RX5 47 "ConvexConduitModel" "taken" "[I") (by decide +kernel)
  have k3 := hts (.fieldLink RX5 41 "ConvexConduitModel" "far" "[I") (by decide +kernel)
  have k4 := hts (.fieldLink RX5 13 "ConvexConduitModel" "tos" "[I") (by decide +kernel)
  unfold pX5_isNext at h
  refine lv_aload_n hx hb dX5_isNext_0 rfl (lv_at hl 0 rfl) ?_
  refine va_get (D := (dC, dI)) (ci := 5) (v := .ref aMF) (C := RX5) (T := TX5) (N := 21) hx hb hts k1 hown hK hP 0 rfl rfl 3 (by decide) k0 (fun _ h9 => h9) rfl dX5_isNext_1 ?_
  refine lv_iload_n hx hb dX5_isNext_4 rfl (lv_at hl 1 rfl) ?_
  obtain ⟨t1, e9, h⟩ := bd h
  refine q_iald hx hb hK hP 1 0 rfl rfl e9 dX5_isNext_5 ?_
  refine lv_iload_n hx hb dX5_isNext_6 rfl (lv_at hl 2 rfl) ?_
  refine lv_icmp_ne (tgt := 28) hx hb dX5_isNext_7 (by decide) (fun c9 => ?_) (fun c9 => ?_)
  · have h := ineg c9 h
    refine lv_iconst (v := 0) hx hb dX5_isNext_28 (by decide) ?_
    refine lv_istore_n (lv' := [(3, .int 0), (0, .ref mo), (1, .int p0), (2, .int p1)]) hx hb dX5_isNext_29 rfl hl (by decide) rfl (fun ls hl => ?_)
    refine lv_iload_n hx hb dX5_isNext_30 rfl (lv_at hl 0 rfl) ?_
    refine lv_if_eq (tgt := 77) hx hb dX5_isNext_31 (by decide) (fun _ => ?_) (fun c9 => absurd (by decide) c9)
    refine lv_iconst (v := 0) hx hb dX5_isNext_77 (by decide) ?_
    cases h
    exact q_zret (b := false) hQ hx hb hr hlocks hP hK hD hS dX5_isNext_78
  · have h := ipos c9 h
    refine lv_aload_n hx hb dX5_isNext_10 rfl (lv_at hl 0 rfl) ?_
    refine va_get (D := (dC, dI)) (ci := 5) (v := .ref aMK) (C := RX5) (T := TX5) (N := 21) hx hb hts k1 hown hK hP 0 rfl rfl 17 (by decide) k2 (fun _ h9 => h9) rfl dX5_isNext_11 ?_
    refine lv_iload_n hx hb dX5_isNext_14 rfl (lv_at hl 1 rfl) ?_
    obtain ⟨t2, e9, h⟩ := bd h
    refine q_iald hx hb hK hP 12 0 rfl rfl e9 dX5_isNext_15 ?_
    refine lv_aload_n hx hb dX5_isNext_16 rfl (lv_at hl 0 rfl) ?_
    refine lv_iload_n hx hb dX5_isNext_17 rfl (lv_at hl 1 rfl) ?_
    obtain ⟨r3, e9, h⟩ := bd h
    refine q_callVi (ret := r3) (As := [.int p0]) (w1 := wX5 cyI mo aMF aMT aMW aMU aMP aML aMM aMO aMR aMD aMB aMK mTh mNo mAr mS mG mQ mWa mPa mLa mF mT mW mU mP mL mM mO mR mD mB mK) (ws2 := wX5 cyI mo aMF aMT aMW aMU aMP aML aMM aMO aMR aMD aMB aMK mTh mNo mAr mS mG mQ mWa mPa mLa mF mT mW mU mP mL mM mO mR mD mB mK) ⟨hx, hb, hml, hown, hts⟩ (c_X5_capacityOf l dC dI cyI mo aMF aMT aMW aMU aMP aML aMM aMO aMR aMD aMB aMK H.size mTh mNo mAr mS mG mQ mWa mPa mLa mF mT mW mU mP mL mM mO mR mD mB mK p0 N _ e9) (cwV 1 hts gX5_isNext_X5_capacityOf rfl rfl rfl (by decide +kernel) ⟨Nat.le_of_ble_eq_true rfl, Nat.le_of_ble_eq_true rfl⟩) hK hP hD hS hA [0, 1, 2, 3, 4, 5, 6, 7, 8, 9, 10, 11, 12] [] [0, 1, 2, 3, 4, 5, 6, 7, 8, 9, 10, 11, 12] [0] rfl rfl rfl rfl (by decide) rfl rfl rfl 5 0 rfl rfl rfl hl.1 (Nat.le_of_ble_eq_true rfl) (Nat.le_of_ble_eq_true rfl) (Nat.le_of_ble_eq_true rfl) rfl dX5_isNext_18 (fun H locs hP hD hS => ?_)
    refine lv_icmp_ge (tgt := 28) hx hb dX5_isNext_21 (by decide) (fun c9 => ?_) (fun c9 => ?_)
    · have h := ipos c9 h
      refine lv_iconst (v := 0) hx hb dX5_isNext_28 (by decide) ?_
      refine lv_istore_n (lv' := [(3, .int 0), (0, .ref mo), (1, .int p0), (2, .int p1)]) hx hb dX5_isNext_29 rfl hl (by decide) rfl (fun ls hl => ?_)
      refine lv_iload_n hx hb dX5_isNext_30 rfl (lv_at hl 0 rfl) ?_
      refine lv_if_eq (tgt := 77) hx hb dX5_isNext_31 (by decide) (fun _ => ?_) (fun c9 => absurd (by decide) c9)
      refine lv_iconst (v := 0) hx hb dX5_isNext_77 (by decide) ?_
      cases h
      exact q_zret (b := false) hQ hx hb hr hlocks hP hK hD hS dX5_isNext_78
    · have h := ineg c9 h
      refine lv_iconst (v := 1) hx hb dX5_isNext_24 (by decide) ?_
      refine lv_goto (tgt := 29) hx hb dX5_isNext_25 (by decide) ?_
      refine lv_istore_n (lv' := [(3, .int 1), (0, .ref mo), (1, .int p0), (2, .int p1)]) hx hb dX5_isNext_29 rfl hl (by decide) rfl (fun ls hl => ?_)
      refine lv_iload_n hx hb dX5_isNext_30 rfl (lv_at hl 0 rfl) ?_
      refine lv_if_eq (tgt := 77) hx hb dX5_isNext_31 (by decide) (fun c9 => absurd c9 (by decide)) (fun _ => ?_)
      refine lv_aload_n hx hb dX5_isNext_34 rfl (lv_at hl 1 rfl) ?_
      refine va_get (D := (dC, dI)) (ci := 5) (v := .ref aMD) (C := RX5) (T := TX5) (N := 21) hx hb hts k1 hown hK hP 0 rfl rfl 15 (by decide) k3 (fun _ h9 => h9) rfl dX5_isNext_35 ?_
      refine lv_iload_n hx hb dX5_isNext_38 rfl (lv_at hl 3 rfl) ?_
      obtain ⟨t4, e9, h⟩ := bd h
      refine q_iald hx hb hK hP 10 0 rfl rfl e9 dX5_isNext_39 ?_
      refine lv_aload_n hx hb dX5_isNext_40 rfl (lv_at hl 1 rfl) ?_
      refine va_get (D := (dC, dI)) (ci := 5) (v := .ref aMD) (C := RX5) (T := TX5) (N := 21) hx hb hts k1 hown hK hP 0 rfl rfl 15 (by decide) k3 (fun _ h9 => h9) rfl dX5_isNext_41 ?_
      refine lv_aload_n hx hb dX5_isNext_44 rfl (lv_at hl 1 rfl) ?_
      refine va_get (D := (dC, dI)) (ci := 5) (v := .ref aMT) (C := RX5) (T := TX5) (N := 21) hx hb hts k1 hown hK hP 0 rfl rfl 4 (by decide) k4 (fun _ h9 => h9) rfl dX5_isNext_45 ?_
      refine lv_iload_n hx hb dX5_isNext_48 rfl (lv_at hl 2 rfl) ?_
      obtain ⟨t5, e9, h⟩ := bd h
      refine q_iald hx hb hK hP 2 0 rfl rfl e9 dX5_isNext_49 ?_
      obtain ⟨t6, e9, h⟩ := bd h
      refine q_iald hx hb hK hP 10 0 rfl rfl e9 dX5_isNext_50 ?_
      refine lv_bipush (v := 100) hx hb dX5_isNext_51 (by decide) ?_
      refine lv_aload_n hx hb dX5_isNext_53 rfl (lv_at hl 1 rfl) ?_
      refine lv_iload_n hx hb dX5_isNext_54 rfl (lv_at hl 2 rfl) ?_
      refine lv_aload_n hx hb dX5_isNext_55 rfl (lv_at hl 1 rfl) ?_
      refine va_get (D := (dC, dI)) (ci := 5) (v := .ref aMK) (C := RX5) (T := TX5) (N := 21) hx hb hts k1 hown hK hP 0 rfl rfl 17 (by decide) k2 (fun _ h9 => h9) rfl dX5_isNext_56 ?_
      refine lv_iload_n hx hb dX5_isNext_59 rfl (lv_at hl 2 rfl) ?_
      obtain ⟨t7, e9, h⟩ := bd h
      refine q_iald hx hb hK hP 12 0 rfl rfl e9 dX5_isNext_60 ?_
      refine lv_iconst (v := 1) hx hb dX5_isNext_61 (by decide) ?_
      refine lv_iadd hx hb dX5_isNext_62 ?_
      obtain ⟨r8, e9, h⟩ := bd h
      refine q_callVi (ret := r8) (As := [.int p0, .int (t7 + 1)]) (w1 := wX5 cyI mo aMF aMT aMW aMU aMP aML aMM aMO aMR aMD aMB aMK mTh mNo mAr mS mG mQ mWa mPa mLa mF mT mW mU mP mL mM mO mR mD mB mK) (ws2 := wX5 cyI mo aMF aMT aMW aMU aMP aML aMM aMO aMR aMD aMB aMK mTh mNo mAr mS mG mQ mWa mPa mLa mF mT mW mU mP mL mM mO mR mD mB mK) ⟨hx, hb, hml, hown, hts⟩ (c_X5_priceOf l dC dI cyI mo aMF aMT aMW aMU aMP aML aMM aMO aMR aMD aMB aMK H.size mTh mNo mAr mS mG mQ mWa mPa mLa mF mT mW mU mP mL mM mO mR mD mB mK p0 (t7 + 1) N _ e9) (cwV 2 hts gX5_isNext_X5_priceOf rfl rfl rfl (by decide +kernel) ⟨Nat.le_of_ble_eq_true rfl, Nat.le_of_ble_eq_true rfl⟩) hK hP hD hS hA [0, 1, 2, 3, 4, 5, 6, 7, 8, 9, 10, 11, 12] [] [0, 1, 2, 3, 4, 5, 6, 7, 8, 9, 10, 11, 12] [0] rfl rfl rfl rfl (by decide) rfl rfl rfl 5 0 rfl rfl rfl hl.1 (Nat.le_of_ble_eq_true rfl) (Nat.le_of_ble_eq_true rfl) (Nat.le_of_ble_eq_true rfl) rfl dX5_isNext_63 (fun H locs hP hD hS => ?_)
      refine lv_imul hx hb dX5_isNext_66 ?_
      refine lv_iadd hx hb dX5_isNext_67 ?_
      refine lv_iconst (v := 1) hx hb dX5_isNext_68 (by decide) ?_
      refine lv_iadd hx hb dX5_isNext_69 ?_
      refine lv_icmp_ne (tgt := 77) hx hb dX5_isNext_70 (by decide) (fun c9 => ?_) (fun c9 => ?_)
      · have h := ineg c9 h
        refine lv_iconst (v := 0) hx hb dX5_isNext_77 (by decide) ?_
        cases h
        exact q_zret (b := false) hQ hx hb hr hlocks hP hK hD hS dX5_isNext_78
      · have h := ipos c9 h
        refine lv_iconst (v := 1) hx hb dX5_isNext_73 (by decide) ?_
        refine lv_goto (tgt := 78) hx hb dX5_isNext_74 (by decide) ?_
        cases h
        exact q_zret (b := true) hQ hx hb hr hlocks hP hK hD hS dX5_isNext_78
set_option maxHeartbeats 4000000 in
set_option maxRecDepth 100000 in
theorem c_X5_takeWay (l : Launch) (dC : Nat → ClassId) (dI : Nat → Nat → Nat) (cyI : ClassId) (mo aMF aMT aMW aMU aMP aML aMM aMO aMR aMD aMB aMK : Nat) (sz : Nat) (mTh mNo mAr mS mG mQ mWa mPa mLa : Int32) (mF mT mW mU mP mL mM mO mR mD mB mK : Nat → Int32) (N : Nat) (res : (Nat → Int32)) (h : pX5_takeWay N mS mG mF mT mW mU mP mD mK = some res) : Met l yX5_takeWay wsX5_takeWay { frames := 2, cells := 0, slots := 0, locals := 47 } (va_Pc [.ref mo] (zPre (dC, dI) (wX5 cyI mo aMF aMT aMW aMU aMP aML aMM aMO aMR aMD aMB aMK mTh mNo mAr mS mG mQ mWa mPa mLa mF mT mW mU mP mL mM mO mR mD mB mK) [(cyI, .int)] sz)) (zQv (dC, dI) (wX5 cyI mo aMF aMT aMW aMU aMP aML aMM aMO aMR aMD aMB aMK mTh mNo mAr mS mG mQ mWa mPa mLa mF mT mW mU mP mL mM mO mR mD mB res) [(cyI, .int)] (va_A (wX5 cyI mo aMF aMT aMW aMU aMP aML aMM aMO aMR aMD aMB aMK mTh mNo mAr mS mG mQ mWa mPa mLa mF mT mW mU mP mL mM mO mR mD mB mK) sz)) 0 0 (va_A (wX5 cyI mo aMF aMT aMW aMU aMP aML aMM aMO aMR aMD aMB aMK mTh mNo mAr mS mG mQ mWa mPa mLa mF mT mW mU mP mL mM mO mR mD mB mK) sz) := by
  refine q_ofWv (cc := cX5_takeWay) (maxL := 3) (rt := none) (by decide) rfl (Nat.le_of_ble_eq_true rfl) ?_
  intro p e s m args below meth c ls A Q H locs hQ hx hb hr hts hown hlocks hml hA hK hP hD hS hl
  have hl : lv_has ls 3 [(0, .ref mo)] := hl
  have k0 := hts (.fieldLink RX5 81 "ConvexConduitModel" "source" "I") (by decide +kernel)
  have k1 : ∀ w ∈ u_ws RX5 TX5 21, w ∈ wsX5_takeWay := by decide +kernel
  have k2 := hts (.fieldLink RX5 25 "ConvexConduitModel" "target" "I") (by decide +kernel)
  have k3 := hts (.fieldLink RX5 13 "ConvexConduitModel" "tos" "[I") (by decide +kernel)
  have k4 := hts (.fieldLink RX5 47 "ConvexConduitModel" "taken" "[I") (by decide +kernel)
  unfold pX5_takeWay at h
  refine lv_aload_n hx hb dX5_takeWay_0 rfl (lv_at hl 0 rfl) ?_
  refine va_get (D := (dC, dI)) (ci := 5) (v := .int mS) (C := RX5) (T := TX5) (N := 21) hx hb hts k1 hown hK hP 0 rfl rfl 8 (by decide) k0 (fun _ h9 => h9) rfl dX5_takeWay_1 ?_
  refine lv_istore_n (lv' := [(1, .int mS), (0, .ref mo)]) hx hb dX5_takeWay_4 rfl hl (by decide) rfl (fun ls hl => ?_)
  obtain ⟨x1_9, mK_10, e0, h⟩ := bd2 h
  have hT0 : ∀ (H : Heap) (locs : List Loc), va_P (dC, dI) vwCl (wX5 cyI mo aMF aMT aMW aMU aMP aML aMM aMO aMR aMD aMB aMK mTh mNo mAr mS mG mQ mWa mPa mLa mF mT mW mU mP mL mM mO mR mD mB mK_10) H → va_D A (wX5 cyI mo aMF aMT aMW aMU aMP aML aMM aMO aMR aMD aMB aMK mTh mNo mAr mS mG mQ mWa mPa mLa mF mT mW mU mP mL mM mO mR mD mB mK_10) → va_S A s.heap H locs → ∀ ls : Array Slot, lv_has ls 3 [(0, .ref mo), (1, .int x1_9)] → W p l e { frames := 2, cells := 0, slots := 0, locals := 47 } s m args below meth c H locs 0 0 Q (F0 m 50 ls []) := by
    intro H locs hP hD hS ls hl
    cases h
    exact q_vret hQ hx hb hr hlocks hP hK hD hS dX5_takeWay_50
  have hL0 : ∀ (n9 : Nat) (x1_1 : Int32) (mK_2 : Nat → Int32), lp (un2 (pX5_takeWay_l5 N mD mF mG mP mT mU mW)) n9 ((x1_1, mK_2)) = some ((x1_9, mK_10)) → ∀ (H : Heap) (locs : List Loc), va_P (dC, dI) vwCl (wX5 cyI mo aMF aMT aMW aMU aMP aML aMM aMO aMR aMD aMB aMK mTh mNo mAr mS mG mQ mWa mPa mLa mF mT mW mU mP mL mM mO mR mD mB mK_2) H → va_D A (wX5 cyI mo aMF aMT aMW aMU aMP aML aMM aMO aMR aMD aMB aMK mTh mNo mAr mS mG mQ mWa mPa mLa mF mT mW mU mP mL mM mO mR mD mB mK_2) → va_S A s.heap H locs → ∀ ls : Array Slot, lv_has ls 3 [(0, .ref mo), (1, .int x1_1)] → W p l e { frames := 2, cells := 0, slots := 0, locals := 47 } s m args below meth c H locs 0 0 Q (F0 m 5 ls []) := by
    intro n9
    induction n9 with
    | zero =>
      intro x1_1 mK_2 h
      exact lp0 h
    | succ n9 ih0 =>
      intro x1_1 mK_2 h H locs hP hD hS ls hl
      obtain ⟨o9, g, h⟩ := lps h
      replace g : pX5_takeWay_l5 N mD mF mG mP mT mU mW x1_1 mK_2 = some o9 := g
      unfold pX5_takeWay_l5 at g
      refine lv_iload_n hx hb dX5_takeWay_5 rfl (lv_at hl 1 rfl) ?_
      refine lv_aload_n hx hb dX5_takeWay_6 rfl (lv_at hl 0 rfl) ?_
      refine va_get (D := (dC, dI)) (ci := 5) (v := .int mG) (C := RX5) (T := TX5) (N := 21) hx hb hts k1 hown hK hP 0 rfl rfl 9 (by decide) k2 (fun _ h9 => h9) rfl dX5_takeWay_7 ?_
      refine lv_icmp_eq (tgt := 50) hx hb dX5_takeWay_10 (by decide) (fun c9 => ?_) (fun c9 => ?_)
      · have g := ipos c9 g
        cases g
        have h := lpx h
        cases h
        exact hT0 _ _ hP hD hS _ (lv_sub hl [0, 1] rfl)
      · have g := ineg c9 g
        refine lv_iconst (v := 0) hx hb dX5_takeWay_13 (by decide) ?_
        refine lv_istore_n (lv' := [(2, .int 0), (0, .ref mo), (1, .int x1_1)]) hx hb dX5_takeWay_14 rfl hl (by decide) rfl (fun ls hl => ?_)
        obtain ⟨x2_5, e1, g⟩ := bd g
        have hT1 : ∀ (H : Heap) (locs : List Loc), va_P (dC, dI) vwCl (wX5 cyI mo aMF aMT aMW aMU aMP aML aMM aMO aMR aMD aMB aMK mTh mNo mAr mS mG mQ mWa mPa mLa mF mT mW mU mP mL mM mO mR mD mB mK_2) H → va_D A (wX5 cyI mo aMF aMT aMW aMU aMP aML aMM aMO aMR aMD aMB aMK mTh mNo mAr mS mG mQ mWa mPa mLa mF mT mW mU mP mL mM mO mR mD mB mK_2) → va_S A s.heap H locs → ∀ ls : Array Slot, lv_has ls 3 [(0, .ref mo), (1, .int x1_1), (2, .int x2_5)] → W p l e { frames := 2, cells := 0, slots := 0, locals := 47 } s m args below meth c H locs 0 0 Q (F0 m 30 ls []) := by
          intro H locs hP hD hS ls hl
          refine lv_aload_n hx hb dX5_takeWay_30 rfl (lv_at hl 0 rfl) ?_
          refine va_get (D := (dC, dI)) (ci := 5) (v := .ref aMT) (C := RX5) (T := TX5) (N := 21) hx hb hts k1 hown hK hP 0 rfl rfl 4 (by decide) k3 (fun _ h9 => h9) rfl dX5_takeWay_31 ?_
          refine lv_iload_n hx hb dX5_takeWay_34 rfl (lv_at hl 2 rfl) ?_
          obtain ⟨t6, e9, g⟩ := bd g
          refine q_iald hx hb hK hP 2 0 rfl rfl e9 dX5_takeWay_35 ?_
          refine lv_istore_n (lv' := [(1, .int t6), (0, .ref mo), (2, .int x2_5)]) hx hb dX5_takeWay_36 rfl hl (by decide) rfl (fun ls hl => ?_)
          refine lv_aload_n hx hb dX5_takeWay_37 rfl (lv_at hl 1 rfl) ?_
          refine va_get (D := (dC, dI)) (ci := 5) (v := .ref aMK) (C := RX5) (T := TX5) (N := 21) hx hb hts k1 hown hK hP 0 rfl rfl 17 (by decide) k4 (fun _ h9 => h9) rfl dX5_takeWay_38 ?_
          refine lv_iload_n hx hb dX5_takeWay_41 rfl (lv_at hl 2 rfl) ?_
          refine lv_dup2_11 hx hb dX5_takeWay_42 rfl rfl ?_
          obtain ⟨t7, e9, g⟩ := bd g
          refine q_iald hx hb hK hP 12 0 rfl rfl e9 dX5_takeWay_43 ?_
          refine lv_iconst (v := 1) hx hb dX5_takeWay_44 (by decide) ?_
          refine lv_iadd hx hb dX5_takeWay_45 ?_
          obtain ⟨mK_8, e9, g⟩ := bd g
          refine q_iast (ws2 := wX5 cyI mo aMF aMT aMW aMU aMP aML aMM aMO aMR aMD aMB aMK mTh mNo mAr mS mG mQ mWa mPa mLa mF mT mW mU mP mL mM mO mR mD mB mK_8) hx hb hK hP hD hS 12 0 rfl rfl e9 dX5_takeWay_46 rfl (fun H locs hP hD hS => ?_)
          refine lv_goto (tgt := 5) hx hb dX5_takeWay_47 (by decide) ?_
          cases g
          exact ih0 _ _ h _ _ hP hD hS _ (lv_sub hl [1, 0] rfl)
        have hL1 : ∀ (n9 : Nat) (x2_3 : Int32), lp (pX5_takeWay_l15 N mD mF mK_2 mP mT mU mW x1_1) n9 x2_3 = some x2_5 → ∀ (H : Heap) (locs : List Loc), va_P (dC, dI) vwCl (wX5 cyI mo aMF aMT aMW aMU aMP aML aMM aMO aMR aMD aMB aMK mTh mNo mAr mS mG mQ mWa mPa mLa mF mT mW mU mP mL mM mO mR mD mB mK_2) H → va_D A (wX5 cyI mo aMF aMT aMW aMU aMP aML aMM aMO aMR aMD aMB aMK mTh mNo mAr mS mG mQ mWa mPa mLa mF mT mW mU mP mL mM mO mR mD mB mK_2) → va_S A s.heap H locs → ∀ ls : Array Slot, lv_has ls 3 [(0, .ref mo), (1, .int x1_1), (2, .int x2_3)] → W p l e { frames := 2, cells := 0, slots := 0, locals := 47 } s m args below meth c H locs 0 0 Q (F0 m 15 ls []) := by
          intro n9
          induction n9 with
          | zero =>
            intro x2_3 h
            exact lp0 h
          | succ n9 ih1 =>
            intro x2_3 h H locs hP hD hS ls hl
            obtain ⟨o9, g, h⟩ := lps h
            replace g : pX5_takeWay_l15 N mD mF mK_2 mP mT mU mW x1_1 x2_3 = some o9 := g
            unfold pX5_takeWay_l15 at g
            refine lv_aload_n hx hb dX5_takeWay_15 rfl (lv_at hl 0 rfl) ?_
            refine lv_iload_n hx hb dX5_takeWay_16 rfl (lv_at hl 2 rfl) ?_
            refine lv_iload_n hx hb dX5_takeWay_17 rfl (lv_at hl 1 rfl) ?_
            obtain ⟨b4, e9, g⟩ := bd g
            refine q_callVi (ret := b2i b4) (As := [.int x2_3, .int x1_1]) (w1 := wX5 cyI mo aMF aMT aMW aMU aMP aML aMM aMO aMR aMD aMB aMK mTh mNo mAr mS mG mQ mWa mPa mLa mF mT mW mU mP mL mM mO mR mD mB mK_2) (ws2 := wX5 cyI mo aMF aMT aMW aMU aMP aML aMM aMO aMR aMD aMB aMK mTh mNo mAr mS mG mQ mWa mPa mLa mF mT mW mU mP mL mM mO mR mD mB mK_2) ⟨hx, hb, hml, hown, hts⟩ (c_X5_isNext l dC dI cyI mo aMF aMT aMW aMU aMP aML aMM aMO aMR aMD aMB aMK H.size mTh mNo mAr mS mG mQ mWa mPa mLa mF mT mW mU mP mL mM mO mR mD mB mK_2 x2_3 x1_1 N _ e9) (cwV 2 hts gX5_takeWay_X5_isNext rfl rfl rfl (by decide +kernel) ⟨Nat.le_of_ble_eq_true rfl, Nat.le_of_ble_eq_true rfl⟩) hK hP hD hS hA [0, 1, 2, 3, 4, 5, 6, 7, 8, 9, 10, 11, 12] [] [0, 1, 2, 3, 4, 5, 6, 7, 8, 9, 10, 11, 12] [0] rfl rfl rfl rfl (by decide) rfl rfl rfl 5 0 rfl rfl rfl hl.1 (Nat.le_of_ble_eq_true rfl) (Nat.le_of_ble_eq_true rfl) (Nat.le_of_ble_eq_true rfl) rfl dX5_takeWay_18 (fun H locs hP hD hS => ?_)
            refine lv_if_ne (tgt := 30) hx hb dX5_takeWay_21 (by decide) (fun c9 => ?_) (fun c9 => ?_)
            · have g := ineg c9 g
              cases g
              have h := lpx h
              cases h
              exact hT1 _ _ hP hD hS _ (lv_sub hl [0, 1, 2] rfl)
            · have g := ipos c9 g
              refine lv_iinc (v := x2_3 + 1) (lv' := [(2, .int (x2_3 + 1)), (0, .ref mo), (1, .int x1_1)]) hx hb dX5_takeWay_24 hl (k := 2) rfl (by rfl) (by decide) rfl (fun ls hl => ?_)
              refine lv_goto (tgt := 15) hx hb dX5_takeWay_27 (by decide) ?_
              cases g
              exact ih1 _ h _ _ hP hD hS _ (lv_sub hl [1, 2, 0] rfl)
        exact hL1 N _  e1 _ _ hP hD hS _ (lv_sub hl [1, 2, 0] rfl)
  exact hL0 N _ _  e0 _ _ hP hD hS _ (lv_sub hl [1, 0] rfl)
set_option maxHeartbeats 4000000 in
set_option maxRecDepth 100000 in
theorem c_X5_drive (l : Launch) (dC : Nat → ClassId) (dI : Nat → Nat → Nat) (cyI : ClassId) (mo aMF aMT aMW aMU aMP aML aMM aMO aMR aMD aMB aMK : Nat) (sz : Nat) (mTh mNo mAr mS mG mQ mWa mPa mLa : Int32) (mF mT mW mU mP mL mM mO mR mD mB mK : Nat → Int32) (N : Nat) (res : Int32 × Int32 × Int32 × (Nat → Int32) × (Nat → Int32)) (h : pX5_drive N mNo mAr mS mG mQ mF mT mW mU mP mD mK = some res) : Met l yX5_drive wsX5_drive { frames := 3, cells := 0, slots := 0, locals := 69 } (va_Pc [.ref mo] (zPre (dC, dI) (wX5 cyI mo aMF aMT aMW aMU aMP aML aMM aMO aMR aMD aMB aMK mTh mNo mAr mS mG mQ mWa mPa mLa mF mT mW mU mP mL mM mO mR mD mB mK) [(cyI, .int)] sz)) (zQv (dC, dI) (wX5 cyI mo aMF aMT aMW aMU aMP aML aMM aMO aMR aMD aMB aMK mTh mNo mAr mS mG mQ res.1 res.2.1 res.2.2.1 mF mT mW mU mP mL mM mO mR res.2.2.2.1 mB res.2.2.2.2) [(cyI, .int)] (va_A (wX5 cyI mo aMF aMT aMW aMU aMP aML aMM aMO aMR aMD aMB aMK mTh mNo mAr mS mG mQ mWa mPa mLa mF mT mW mU mP mL mM mO mR mD mB mK) sz)) 0 0 (va_A (wX5 cyI mo aMF aMT aMW aMU aMP aML aMM aMO aMR aMD aMB aMK mTh mNo mAr mS mG mQ mWa mPa mLa mF mT mW mU mP mL mM mO mR mD mB mK) sz) := by
  refine q_ofWv (cc := cX5_drive) (maxL := 2) (rt := none) (by decide) rfl (Nat.le_of_ble_eq_true rfl) ?_
  intro p e s m args below meth c ls A Q H locs hQ hx hb hr hts hown hlocks hml hA hK hP hD hS hl
  have hl : lv_has ls 2 [(0, .ref mo)] := hl
  have k0 := hts (.fieldLink RX5 60 "ConvexConduitModel" "arcs" "I") (by decide +kernel)
  have k1 : ∀ w ∈ u_ws RX5 TX5 21, w ∈ wsX5_drive := by decide +kernel
  have k2 := hts (.fieldLink RX5 47 "ConvexConduitModel" "taken" "[I") (by decide +kernel)
  have k3 := hts (.fieldLink RX5 120 "ConvexConduitModel" "ways" "I") (by decide +kernel)
  have k4 := hts (.fieldLink RX5 123 "ConvexConduitModel" "paid" "I") (by decide +kernel)
  have k5 := hts (.fieldLink RX5 126 "ConvexConduitModel" "latest" "I") (by decide +kernel)
  have k6 := hts (.fieldLink RX5 84 "ConvexConduitModel" "amount" "I") (by decide +kernel)
  have k7 := hts (.fieldLink RX5 41 "ConvexConduitModel" "far" "[I") (by decide +kernel)
  have k8 := hts (.fieldLink RX5 81 "ConvexConduitModel" "source" "I") (by decide +kernel)
  have k9 := hts (.constant RX5 91 (1000000)) (by decide +kernel)
  unfold pX5_drive at h
  refine lv_iconst (v := 0) hx hb dX5_drive_0 (by decide) ?_
  refine lv_istore_n (lv' := [(1, .int 0), (0, .ref mo)]) hx hb dX5_drive_1 rfl hl (by decide) rfl (fun ls hl => ?_)
  obtain ⟨x1_4, mK_5, e0, h⟩ := bd2 h
  have hT0 : ∀ (H : Heap) (locs : List Loc), va_P (dC, dI) vwCl (wX5 cyI mo aMF aMT aMW aMU aMP aML aMM aMO aMR aMD aMB aMK mTh mNo mAr mS mG mQ mWa mPa mLa mF mT mW mU mP mL mM mO mR mD mB mK_5) H → va_D A (wX5 cyI mo aMF aMT aMW aMU aMP aML aMM aMO aMR aMD aMB aMK mTh mNo mAr mS mG mQ mWa mPa mLa mF mT mW mU mP mL mM mO mR mD mB mK_5) → va_S A s.heap H locs → ∀ ls : Array Slot, lv_has ls 2 [(0, .ref mo), (1, .int x1_4)] → W p l e { frames := 3, cells := 0, slots := 0, locals := 69 } s m args below meth c H locs 0 0 Q (F0 m 23 ls []) := by
    intro H locs hP hD hS ls hl
    refine lv_aload_n hx hb dX5_drive_23 rfl (lv_at hl 0 rfl) ?_
    refine lv_iconst (v := 0) hx hb dX5_drive_24 (by decide) ?_
    refine va_put (D := (dC, dI)) (ci := 5) (v := .int 0) (ty := .int) (C := RX5) (T := TX5) (N := 21) hx hb hts k1 tyX5 tyX5_ok nmX5 hown hK hP hD hS 0 rfl rfl 18 (by decide) k3 (fun _ h9 => h9) rfl (by decide +kernel) rfl rfl (Nat.le_of_ble_eq_true rfl) dX5_drive_25 (fun H locs hP hD hS => ?_)
    have hP : va_P (dC, dI) vwCl (wX5 cyI mo aMF aMT aMW aMU aMP aML aMM aMO aMR aMD aMB aMK mTh mNo mAr mS mG mQ 0 mPa mLa mF mT mW mU mP mL mM mO mR mD mB mK_5) H := hP
    have hD : va_D A (wX5 cyI mo aMF aMT aMW aMU aMP aML aMM aMO aMR aMD aMB aMK mTh mNo mAr mS mG mQ 0 mPa mLa mF mT mW mU mP mL mM mO mR mD mB mK_5) := hD
    refine lv_aload_n hx hb dX5_drive_28 rfl (lv_at hl 0 rfl) ?_
    refine lv_iconst (v := 0) hx hb dX5_drive_29 (by decide) ?_
    refine va_put (D := (dC, dI)) (ci := 5) (v := .int 0) (ty := .int) (C := RX5) (T := TX5) (N := 21) hx hb hts k1 tyX5 tyX5_ok nmX5 hown hK hP hD hS 0 rfl rfl 19 (by decide) k4 (fun _ h9 => h9) rfl (by decide +kernel) rfl rfl (Nat.le_of_ble_eq_true rfl) dX5_drive_30 (fun H locs hP hD hS => ?_)
    have hP : va_P (dC, dI) vwCl (wX5 cyI mo aMF aMT aMW aMU aMP aML aMM aMO aMR aMD aMB aMK mTh mNo mAr mS mG mQ 0 0 mLa mF mT mW mU mP mL mM mO mR mD mB mK_5) H := hP
    have hD : va_D A (wX5 cyI mo aMF aMT aMW aMU aMP aML aMM aMO aMR aMD aMB aMK mTh mNo mAr mS mG mQ 0 0 mLa mF mT mW mU mP mL mM mO mR mD mB mK_5) := hD
    refine lv_aload_n hx hb dX5_drive_33 rfl (lv_at hl 0 rfl) ?_
    refine lv_iconst (v := -1) hx hb dX5_drive_34 (by decide) ?_
    refine va_put (D := (dC, dI)) (ci := 5) (v := .int ((-1))) (ty := .int) (C := RX5) (T := TX5) (N := 21) hx hb hts k1 tyX5 tyX5_ok nmX5 hown hK hP hD hS 0 rfl rfl 20 (by decide) k5 (fun _ h9 => h9) rfl (by decide +kernel) rfl rfl (Nat.le_of_ble_eq_true rfl) dX5_drive_35 (fun H locs hP hD hS => ?_)
    have hP : va_P (dC, dI) vwCl (wX5 cyI mo aMF aMT aMW aMU aMP aML aMM aMO aMR aMD aMB aMK mTh mNo mAr mS mG mQ 0 0 ((-1)) mF mT mW mU mP mL mM mO mR mD mB mK_5) H := hP
    have hD : va_D A (wX5 cyI mo aMF aMT aMW aMU aMP aML aMM aMO aMR aMD aMB aMK mTh mNo mAr mS mG mQ 0 0 ((-1)) mF mT mW mU mP mL mM mO mR mD mB mK_5) := hD
    refine lv_aload_n hx hb dX5_drive_38 rfl (lv_at hl 0 rfl) ?_
    obtain ⟨mD_6, e9, h⟩ := bd h
    refine q_callVv (As := []) (w1 := wX5 cyI mo aMF aMT aMW aMU aMP aML aMM aMO aMR aMD aMB aMK mTh mNo mAr mS mG mQ 0 0 ((-1)) mF mT mW mU mP mL mM mO mR mD_6 mB mK_5) (ws2 := wX5 cyI mo aMF aMT aMW aMU aMP aML aMM aMO aMR aMD aMB aMK mTh mNo mAr mS mG mQ 0 0 ((-1)) mF mT mW mU mP mL mM mO mR mD_6 mB mK_5) ⟨hx, hb, hml, hown, hts⟩ (c_X5_lookBack l dC dI cyI mo aMF aMT aMW aMU aMP aML aMM aMO aMR aMD aMB aMK H.size mTh mNo mAr mS mG mQ 0 0 ((-1)) mF mT mW mU mP mL mM mO mR mD mB mK_5 N _ e9) (cwV 0 hts gX5_drive_X5_lookBack rfl rfl rfl (by decide +kernel) ⟨Nat.le_of_ble_eq_true rfl, Nat.le_of_ble_eq_true rfl⟩) hK hP hD hS hA [0, 1, 2, 3, 4, 5, 6, 7, 8, 9, 10, 11, 12] [] [0, 1, 2, 3, 4, 5, 6, 7, 8, 9, 10, 11, 12] [0] rfl rfl rfl rfl (by decide) rfl rfl rfl 5 0 rfl rfl rfl hl.1 (Nat.le_of_ble_eq_true rfl) (Nat.le_of_ble_eq_true rfl) (Nat.le_of_ble_eq_true rfl) rfl dX5_drive_39 (fun H locs hP hD hS => ?_)
    obtain ⟨mWa_16, mPa_17, mLa_18, mD_19, mK_20, e1, h⟩ := bd5 h
    have hT1 : ∀ (H : Heap) (locs : List Loc), va_P (dC, dI) vwCl (wX5 cyI mo aMF aMT aMW aMU aMP aML aMM aMO aMR aMD aMB aMK mTh mNo mAr mS mG mQ mWa_16 mPa_17 mLa_18 mF mT mW mU mP mL mM mO mR mD_19 mB mK_20) H → va_D A (wX5 cyI mo aMF aMT aMW aMU aMP aML aMM aMO aMR aMD aMB aMK mTh mNo mAr mS mG mQ mWa_16 mPa_17 mLa_18 mF mT mW mU mP mL mM mO mR mD_19 mB mK_20) → va_S A s.heap H locs → ∀ ls : Array Slot, lv_has ls 2 [(0, .ref mo), (1, .int x1_4)] → W p l e { frames := 3, cells := 0, slots := 0, locals := 69 } s m args below meth c H locs 0 0 Q (F0 m 117 ls []) := by
      intro H locs hP hD hS ls hl
      cases h
      exact q_vret hQ hx hb hr hlocks hP hK hD hS dX5_drive_117
    have hL1 : ∀ (n9 : Nat) (mWa_7 : Int32) (mPa_8 : Int32) (mLa_9 : Int32) (mD_10 : Nat → Int32) (mK_11 : Nat → Int32), lp (un5 (pX5_drive_l42 N mAr mF mG mNo mP mQ mS mT mU mW)) n9 ((mWa_7, mPa_8, mLa_9, mD_10, mK_11)) = some ((mWa_16, mPa_17, mLa_18, mD_19, mK_20)) → ∀ (H : Heap) (locs : List Loc), va_P (dC, dI) vwCl (wX5 cyI mo aMF aMT aMW aMU aMP aML aMM aMO aMR aMD aMB aMK mTh mNo mAr mS mG mQ mWa_7 mPa_8 mLa_9 mF mT mW mU mP mL mM mO mR mD_10 mB mK_11) H → va_D A (wX5 cyI mo aMF aMT aMW aMU aMP aML aMM aMO aMR aMD aMB aMK mTh mNo mAr mS mG mQ mWa_7 mPa_8 mLa_9 mF mT mW mU mP mL mM mO mR mD_10 mB mK_11) → va_S A s.heap H locs → ∀ ls : Array Slot, lv_has ls 2 [(0, .ref mo), (1, .int x1_4)] → W p l e { frames := 3, cells := 0, slots := 0, locals := 69 } s m args below meth c H locs 0 0 Q (F0 m 42 ls []) := by
      intro n9
      induction n9 with
      | zero =>
        intro mWa_7 mPa_8 mLa_9 mD_10 mK_11 h
        exact lp0 h
      | succ n9 ih1 =>
        intro mWa_7 mPa_8 mLa_9 mD_10 mK_11 h H locs hP hD hS ls hl
        obtain ⟨o9, g, h⟩ := lps h
        replace g : pX5_drive_l42 N mAr mF mG mNo mP mQ mS mT mU mW mWa_7 mPa_8 mLa_9 mD_10 mK_11 = some o9 := g
        unfold pX5_drive_l42 at g
        refine lv_aload_n hx hb dX5_drive_42 rfl (lv_at hl 0 rfl) ?_
        refine va_get (D := (dC, dI)) (ci := 5) (v := .int mWa_7) (C := RX5) (T := TX5) (N := 21) hx hb hts k1 hown hK hP 0 rfl rfl 18 (by decide) k3 (fun _ h9 => h9) rfl dX5_drive_43 ?_
        refine lv_aload_n hx hb dX5_drive_46 rfl (lv_at hl 0 rfl) ?_
        refine va_get (D := (dC, dI)) (ci := 5) (v := .int mQ) (C := RX5) (T := TX5) (N := 21) hx hb hts k1 hown hK hP 0 rfl rfl 10 (by decide) k6 (fun _ h9 => h9) rfl dX5_drive_47 ?_
        refine lv_icmp_ge (tgt := 117) hx hb dX5_drive_50 (by decide) (fun c9 => ?_) (fun c9 => ?_)
        · have g := ipos c9 g
          cases g
          have h := lpx h
          cases h
          exact hT1 _ _ hP hD hS _ (lv_sub hl [0, 1] rfl)
        · have g := ineg c9 g
          refine lv_aload_n hx hb dX5_drive_53 rfl (lv_at hl 0 rfl) ?_
          refine va_get (D := (dC, dI)) (ci := 5) (v := .ref aMD) (C := RX5) (T := TX5) (N := 21) hx hb hts k1 hown hK hP 0 rfl rfl 15 (by decide) k7 (fun _ h9 => h9) rfl dX5_drive_54 ?_
          refine lv_aload_n hx hb dX5_drive_57 rfl (lv_at hl 0 rfl) ?_
          refine va_get (D := (dC, dI)) (ci := 5) (v := .int mS) (C := RX5) (T := TX5) (N := 21) hx hb hts k1 hown hK hP 0 rfl rfl 8 (by decide) k8 (fun _ h9 => h9) rfl dX5_drive_58 ?_
          obtain ⟨t12, e9, g⟩ := bd g
          refine q_iald hx hb hK hP 10 0 rfl rfl e9 dX5_drive_61 ?_
          refine lv_ldc (own := RX5) (v := 1000000) hx hb hown k9 dX5_drive_62 ?_
          refine lv_icmp_ge (tgt := 117) hx hb dX5_drive_64 (by decide) (fun c9 => ?_) (fun c9 => ?_)
          · have g := ipos c9 g
            cases g
            have h := lpx h
            cases h
            exact hT1 _ _ hP hD hS _ (lv_sub hl [0, 1] rfl)
          · have g := ineg c9 g
            refine lv_aload_n hx hb dX5_drive_67 rfl (lv_at hl 0 rfl) ?_
            refine lv_aload_n hx hb dX5_drive_68 rfl (lv_at hl 0 rfl) ?_
            refine va_get (D := (dC, dI)) (ci := 5) (v := .ref aMD) (C := RX5) (T := TX5) (N := 21) hx hb hts k1 hown hK hP 0 rfl rfl 15 (by decide) k7 (fun _ h9 => h9) rfl dX5_drive_69 ?_
            refine lv_aload_n hx hb dX5_drive_72 rfl (lv_at hl 0 rfl) ?_
            refine va_get (D := (dC, dI)) (ci := 5) (v := .int mS) (C := RX5) (T := TX5) (N := 21) hx hb hts k1 hown hK hP 0 rfl rfl 8 (by decide) k8 (fun _ h9 => h9) rfl dX5_drive_73 ?_
            obtain ⟨t13, e9, g⟩ := bd g
            refine q_iald hx hb hK hP 10 0 rfl rfl e9 dX5_drive_76 ?_
            refine lv_bipush (v := 100) hx hb dX5_drive_77 (by decide) ?_
            refine lv_idiv hx hb dX5_drive_79 (by decide) ?_
            refine va_put (D := (dC, dI)) (ci := 5) (v := .int (t13 / 100)) (ty := .int) (C := RX5) (T := TX5) (N := 21) hx hb hts k1 tyX5 tyX5_ok nmX5 hown hK hP hD hS 0 rfl rfl 20 (by decide) k5 (fun _ h9 => h9) rfl (by decide +kernel) rfl rfl (Nat.le_of_ble_eq_true rfl) dX5_drive_80 (fun H locs hP hD hS => ?_)
            have hP : va_P (dC, dI) vwCl (wX5 cyI mo aMF aMT aMW aMU aMP aML aMM aMO aMR aMD aMB aMK mTh mNo mAr mS mG mQ mWa_7 mPa_8 (t13 / 100) mF mT mW mU mP mL mM mO mR mD_10 mB mK_11) H := hP
            have hD : va_D A (wX5 cyI mo aMF aMT aMW aMU aMP aML aMM aMO aMR aMD aMB aMK mTh mNo mAr mS mG mQ mWa_7 mPa_8 (t13 / 100) mF mT mW mU mP mL mM mO mR mD_10 mB mK_11) := hD
            refine lv_aload_n hx hb dX5_drive_83 rfl (lv_at hl 0 rfl) ?_
            refine lv_dup hx hb dX5_drive_84 rfl ?_
            refine va_get (D := (dC, dI)) (ci := 5) (v := .int mPa_8) (C := RX5) (T := TX5) (N := 21) hx hb hts k1 hown hK hP 0 rfl rfl 19 (by decide) k4 (fun _ h9 => h9) rfl dX5_drive_85 ?_
            refine lv_aload_n hx hb dX5_drive_88 rfl (lv_at hl 0 rfl) ?_
            refine va_get (D := (dC, dI)) (ci := 5) (v := .int (t13 / 100)) (C := RX5) (T := TX5) (N := 21) hx hb hts k1 hown hK hP 0 rfl rfl 20 (by decide) k5 (fun _ h9 => h9) rfl dX5_drive_89 ?_
            refine lv_iadd hx hb dX5_drive_92 ?_
            refine va_put (D := (dC, dI)) (ci := 5) (v := .int (mPa_8 + (t13 / 100))) (ty := .int) (C := RX5) (T := TX5) (N := 21) hx hb hts k1 tyX5 tyX5_ok nmX5 hown hK hP hD hS 0 rfl rfl 19 (by decide) k4 (fun _ h9 => h9) rfl (by decide +kernel) rfl rfl (Nat.le_of_ble_eq_true rfl) dX5_drive_93 (fun H locs hP hD hS => ?_)
            have hP : va_P (dC, dI) vwCl (wX5 cyI mo aMF aMT aMW aMU aMP aML aMM aMO aMR aMD aMB aMK mTh mNo mAr mS mG mQ mWa_7 (mPa_8 + (t13 / 100)) (t13 / 100) mF mT mW mU mP mL mM mO mR mD_10 mB mK_11) H := hP
            have hD : va_D A (wX5 cyI mo aMF aMT aMW aMU aMP aML aMM aMO aMR aMD aMB aMK mTh mNo mAr mS mG mQ mWa_7 (mPa_8 + (t13 / 100)) (t13 / 100) mF mT mW mU mP mL mM mO mR mD_10 mB mK_11) := hD
            refine lv_aload_n hx hb dX5_drive_96 rfl (lv_at hl 0 rfl) ?_
            refine lv_dup hx hb dX5_drive_97 rfl ?_
            refine va_get (D := (dC, dI)) (ci := 5) (v := .int mWa_7) (C := RX5) (T := TX5) (N := 21) hx hb hts k1 hown hK hP 0 rfl rfl 18 (by decide) k3 (fun _ h9 => h9) rfl dX5_drive_98 ?_
            refine lv_iconst (v := 1) hx hb dX5_drive_101 (by decide) ?_
            refine lv_iadd hx hb dX5_drive_102 ?_
            refine va_put (D := (dC, dI)) (ci := 5) (v := .int (mWa_7 + 1)) (ty := .int) (C := RX5) (T := TX5) (N := 21) hx hb hts k1 tyX5 tyX5_ok nmX5 hown hK hP hD hS 0 rfl rfl 18 (by decide) k3 (fun _ h9 => h9) rfl (by decide +kernel) rfl rfl (Nat.le_of_ble_eq_true rfl) dX5_drive_103 (fun H locs hP hD hS => ?_)
            have hP : va_P (dC, dI) vwCl (wX5 cyI mo aMF aMT aMW aMU aMP aML aMM aMO aMR aMD aMB aMK mTh mNo mAr mS mG mQ (mWa_7 + 1) (mPa_8 + (t13 / 100)) (t13 / 100) mF mT mW mU mP mL mM mO mR mD_10 mB mK_11) H := hP
            have hD : va_D A (wX5 cyI mo aMF aMT aMW aMU aMP aML aMM aMO aMR aMD aMB aMK mTh mNo mAr mS mG mQ (mWa_7 + 1) (mPa_8 + (t13 / 100)) (t13 / 100) mF mT mW mU mP mL mM mO mR mD_10 mB mK_11) := hD
            refine lv_aload_n hx hb dX5_drive_106 rfl (lv_at hl 0 rfl) ?_
            obtain ⟨mK_14, e9, g⟩ := bd g
            refine q_callVv (As := []) (w1 := wX5 cyI mo aMF aMT aMW aMU aMP aML aMM aMO aMR aMD aMB aMK mTh mNo mAr mS mG mQ (mWa_7 + 1) (mPa_8 + (t13 / 100)) (t13 / 100) mF mT mW mU mP mL mM mO mR mD_10 mB mK_14) (ws2 := wX5 cyI mo aMF aMT aMW aMU aMP aML aMM aMO aMR aMD aMB aMK mTh mNo mAr mS mG mQ (mWa_7 + 1) (mPa_8 + (t13 / 100)) (t13 / 100) mF mT mW mU mP mL mM mO mR mD_10 mB mK_14) ⟨hx, hb, hml, hown, hts⟩ (c_X5_takeWay l dC dI cyI mo aMF aMT aMW aMU aMP aML aMM aMO aMR aMD aMB aMK H.size mTh mNo mAr mS mG mQ (mWa_7 + 1) (mPa_8 + (t13 / 100)) (t13 / 100) mF mT mW mU mP mL mM mO mR mD_10 mB mK_11 N _ e9) (cwV 0 hts gX5_drive_X5_takeWay rfl rfl rfl (by decide +kernel) ⟨Nat.le_of_ble_eq_true rfl, Nat.le_of_ble_eq_true rfl⟩) hK hP hD hS hA [0, 1, 2, 3, 4, 5, 6, 7, 8, 9, 10, 11, 12] [] [0, 1, 2, 3, 4, 5, 6, 7, 8, 9, 10, 11, 12] [0] rfl rfl rfl rfl (by decide) rfl rfl rfl 5 0 rfl rfl rfl hl.1 (Nat.le_of_ble_eq_true rfl) (Nat.le_of_ble_eq_true rfl) (Nat.le_of_ble_eq_true rfl) rfl dX5_drive_107 (fun H locs hP hD hS => ?_)
            refine lv_aload_n hx hb dX5_drive_110 rfl (lv_at hl 0 rfl) ?_
            obtain ⟨mD_15, e9, g⟩ := bd g
            refine q_callVv (As := []) (w1 := wX5 cyI mo aMF aMT aMW aMU aMP aML aMM aMO aMR aMD aMB aMK mTh mNo mAr mS mG mQ (mWa_7 + 1) (mPa_8 + (t13 / 100)) (t13 / 100) mF mT mW mU mP mL mM mO mR mD_15 mB mK_14) (ws2 := wX5 cyI mo aMF aMT aMW aMU aMP aML aMM aMO aMR aMD aMB aMK mTh mNo mAr mS mG mQ (mWa_7 + 1) (mPa_8 + (t13 / 100)) (t13 / 100) mF mT mW mU mP mL mM mO mR mD_15 mB mK_14) ⟨hx, hb, hml, hown, hts⟩ (c_X5_lookBack l dC dI cyI mo aMF aMT aMW aMU aMP aML aMM aMO aMR aMD aMB aMK H.size mTh mNo mAr mS mG mQ (mWa_7 + 1) (mPa_8 + (t13 / 100)) (t13 / 100) mF mT mW mU mP mL mM mO mR mD_10 mB mK_14 N _ e9) (cwV 0 hts gX5_drive_X5_lookBack rfl rfl rfl (by decide +kernel) ⟨Nat.le_of_ble_eq_true rfl, Nat.le_of_ble_eq_true rfl⟩) hK hP hD hS hA [0, 1, 2, 3, 4, 5, 6, 7, 8, 9, 10, 11, 12] [] [0, 1, 2, 3, 4, 5, 6, 7, 8, 9, 10, 11, 12] [0] rfl rfl rfl rfl (by decide) rfl rfl rfl 5 0 rfl rfl rfl hl.1 (Nat.le_of_ble_eq_true rfl) (Nat.le_of_ble_eq_true rfl) (Nat.le_of_ble_eq_true rfl) rfl dX5_drive_111 (fun H locs hP hD hS => ?_)
            refine lv_goto (tgt := 42) hx hb dX5_drive_114 (by decide) ?_
            cases g
            exact ih1 _ _ _ _ _ h _ _ hP hD hS _ (lv_sub hl [0, 1] rfl)
    exact hL1 N _ _ _ _ _  e1 _ _ hP hD hS _ (lv_sub hl [0, 1] rfl)
  have hL0 : ∀ (n9 : Nat) (x1_1 : Int32) (mK_2 : Nat → Int32), lp (un2 (pX5_drive_l2 mAr)) n9 ((x1_1, mK_2)) = some ((x1_4, mK_5)) → ∀ (H : Heap) (locs : List Loc), va_P (dC, dI) vwCl (wX5 cyI mo aMF aMT aMW aMU aMP aML aMM aMO aMR aMD aMB aMK mTh mNo mAr mS mG mQ mWa mPa mLa mF mT mW mU mP mL mM mO mR mD mB mK_2) H → va_D A (wX5 cyI mo aMF aMT aMW aMU aMP aML aMM aMO aMR aMD aMB aMK mTh mNo mAr mS mG mQ mWa mPa mLa mF mT mW mU mP mL mM mO mR mD mB mK_2) → va_S A s.heap H locs → ∀ ls : Array Slot, lv_has ls 2 [(0, .ref mo), (1, .int x1_1)] → W p l e { frames := 3, cells := 0, slots := 0, locals := 69 } s m args below meth c H locs 0 0 Q (F0 m 2 ls []) := by
    intro n9
    induction n9 with
    | zero =>
      intro x1_1 mK_2 h
      exact lp0 h
    | succ n9 ih0 =>
      intro x1_1 mK_2 h H locs hP hD hS ls hl
      obtain ⟨o9, g, h⟩ := lps h
      replace g : pX5_drive_l2 mAr x1_1 mK_2 = some o9 := g
      unfold pX5_drive_l2 at g
      refine lv_iload_n hx hb dX5_drive_2 rfl (lv_at hl 1 rfl) ?_
      refine lv_aload_n hx hb dX5_drive_3 rfl (lv_at hl 0 rfl) ?_
      refine va_get (D := (dC, dI)) (ci := 5) (v := .int mAr) (C := RX5) (T := TX5) (N := 21) hx hb hts k1 hown hK hP 0 rfl rfl 2 (by decide) k0 (fun _ h9 => h9) rfl dX5_drive_4 ?_
      refine lv_icmp_ge (tgt := 23) hx hb dX5_drive_7 (by decide) (fun c9 => ?_) (fun c9 => ?_)
      · have g := ipos c9 g
        cases g
        have h := lpx h
        cases h
        exact hT0 _ _ hP hD hS _ (lv_sub hl [0, 1] rfl)
      · have g := ineg c9 g
        refine lv_aload_n hx hb dX5_drive_10 rfl (lv_at hl 0 rfl) ?_
        refine va_get (D := (dC, dI)) (ci := 5) (v := .ref aMK) (C := RX5) (T := TX5) (N := 21) hx hb hts k1 hown hK hP 0 rfl rfl 17 (by decide) k2 (fun _ h9 => h9) rfl dX5_drive_11 ?_
        refine lv_iload_n hx hb dX5_drive_14 rfl (lv_at hl 1 rfl) ?_
        refine lv_iconst (v := 0) hx hb dX5_drive_15 (by decide) ?_
        obtain ⟨mK_3, e9, g⟩ := bd g
        refine q_iast (ws2 := wX5 cyI mo aMF aMT aMW aMU aMP aML aMM aMO aMR aMD aMB aMK mTh mNo mAr mS mG mQ mWa mPa mLa mF mT mW mU mP mL mM mO mR mD mB mK_3) hx hb hK hP hD hS 12 0 rfl rfl e9 dX5_drive_16 rfl (fun H locs hP hD hS => ?_)
        refine lv_iinc (v := x1_1 + 1) (lv' := [(1, .int (x1_1 + 1)), (0, .ref mo)]) hx hb dX5_drive_17 hl (k := 1) rfl (by rfl) (by decide) rfl (fun ls hl => ?_)
        refine lv_goto (tgt := 2) hx hb dX5_drive_20 (by decide) ?_
        cases g
        exact ih0 _ _ h _ _ hP hD hS _ (lv_sub hl [1, 0] rfl)
  exact hL0 N _ _  e0 _ _ hP hD hS _ (lv_sub hl [1, 0] rfl)
set_option maxHeartbeats 4000000 in
set_option maxRecDepth 100000 in
theorem c_X5_driven (l : Launch) (dC : Nat → ClassId) (dI : Nat → Nat → Nat) (cyI : ClassId) (mo aMF aMT aMW aMU aMP aML aMM aMO aMR aMD aMB aMK : Nat) (sz : Nat) (mTh mNo mAr mS mG mQ mWa mPa mLa : Int32) (mF mT mW mU mP mL mM mO mR mD mB mK : Nat → Int32) (N : Nat) (res : Int32 × Int32 × Int32 × Int32 × Int32 × (Nat → Int32) × (Nat → Int32)) (h : pX5_driven N mNo mAr mS mG mQ mF mT mW mU mP mD mK = some res) : Met l yX5_driven wsX5_driven { frames := 4, cells := 0, slots := 0, locals := 90 } (va_Pc [.ref mo] (zPre (dC, dI) (wX5 cyI mo aMF aMT aMW aMU aMP aML aMM aMO aMR aMD aMB aMK mTh mNo mAr mS mG mQ mWa mPa mLa mF mT mW mU mP mL mM mO mR mD mB mK) [(cyI, .int)] sz)) (zQi (dC, dI) (wX5 cyI mo aMF aMT aMW aMU aMP aML aMM aMO aMR aMD aMB aMK res.2.1 mNo mAr mS mG mQ res.2.2.1 res.2.2.2.1 res.2.2.2.2.1 mF mT mW mU mP mL mM mO mR res.2.2.2.2.2.1 mB res.2.2.2.2.2.2) [(cyI, .int)] (res.1) (va_A (wX5 cyI mo aMF aMT aMW aMU aMP aML aMM aMO aMR aMD aMB aMK mTh mNo mAr mS mG mQ mWa mPa mLa mF mT mW mU mP mL mM mO mR mD mB mK) sz)) 0 0 (va_A (wX5 cyI mo aMF aMT aMW aMU aMP aML aMM aMO aMR aMD aMB aMK mTh mNo mAr mS mG mQ mWa mPa mLa mF mT mW mU mP mL mM mO mR mD mB mK) sz) := by
  refine q_ofWi (cc := cX5_driven) (maxL := 1) (rt := (some .int)) (by decide) rfl (Nat.le_of_ble_eq_true rfl) ?_
  intro p e s m args below meth c ls A Q H locs hQ hx hb hr hts hown hlocks hml hA hK hP hD hS hl
  have hl : lv_has ls 1 [(0, .ref mo)] := hl
  have k0 := hts (.fieldLink RX5 53 "ConvexConduitModel" "thrown" "I") (by decide +kernel)
  have k1 : ∀ w ∈ u_ws RX5 TX5 21, w ∈ wsX5_driven := by decide +kernel
  have k2 := hts (.fieldLink RX5 120 "ConvexConduitModel" "ways" "I") (by decide +kernel)
  have k3 := hts (.fieldLink RX5 84 "ConvexConduitModel" "amount" "I") (by decide +kernel)
  have k4 := hts (.fieldLink RX5 123 "ConvexConduitModel" "paid" "I") (by decide +kernel)
  unfold pX5_driven at h
  refine lv_aload_n hx hb dX5_driven_0 rfl (lv_at hl 0 rfl) ?_
  refine lv_iconst (v := 0) hx hb dX5_driven_1 (by decide) ?_
  refine va_put (D := (dC, dI)) (ci := 5) (v := .int 0) (ty := .int) (C := RX5) (T := TX5) (N := 21) hx hb hts k1 tyX5 tyX5_ok nmX5 hown hK hP hD hS 0 rfl rfl 0 (by decide) k0 (fun _ h9 => h9) rfl (by decide +kernel) rfl rfl (Nat.le_of_ble_eq_true rfl) dX5_driven_2 (fun H locs hP hD hS => ?_)
  have hP : va_P (dC, dI) vwCl (wX5 cyI mo aMF aMT aMW aMU aMP aML aMM aMO aMR aMD aMB aMK 0 mNo mAr mS mG mQ mWa mPa mLa mF mT mW mU mP mL mM mO mR mD mB mK) H := hP
  have hD : va_D A (wX5 cyI mo aMF aMT aMW aMU aMP aML aMM aMO aMR aMD aMB aMK 0 mNo mAr mS mG mQ mWa mPa mLa mF mT mW mU mP mL mM mO mR mD mB mK) := hD
  refine lv_aload_n hx hb dX5_driven_5 rfl (lv_at hl 0 rfl) ?_
  obtain ⟨mWa_1, mPa_2, mLa_3, mD_4, mK_5, e9, h⟩ := bd5 h
  refine q_callVv (As := []) (w1 := wX5 cyI mo aMF aMT aMW aMU aMP aML aMM aMO aMR aMD aMB aMK 0 mNo mAr mS mG mQ mWa_1 mPa_2 mLa_3 mF mT mW mU mP mL mM mO mR mD_4 mB mK_5) (ws2 := wX5 cyI mo aMF aMT aMW aMU aMP aML aMM aMO aMR aMD aMB aMK 0 mNo mAr mS mG mQ mWa_1 mPa_2 mLa_3 mF mT mW mU mP mL mM mO mR mD_4 mB mK_5) ⟨hx, hb, hml, hown, hts⟩ (c_X5_drive l dC dI cyI mo aMF aMT aMW aMU aMP aML aMM aMO aMR aMD aMB aMK H.size 0 mNo mAr mS mG mQ mWa mPa mLa mF mT mW mU mP mL mM mO mR mD mB mK N _ e9) (cwV 0 hts gX5_driven_X5_drive rfl rfl rfl (by decide +kernel) ⟨Nat.le_of_ble_eq_true rfl, Nat.le_of_ble_eq_true rfl⟩) hK hP hD hS hA [0, 1, 2, 3, 4, 5, 6, 7, 8, 9, 10, 11, 12] [] [0, 1, 2, 3, 4, 5, 6, 7, 8, 9, 10, 11, 12] [0] rfl rfl rfl rfl (by decide) rfl rfl rfl 5 0 rfl rfl rfl hl.1 (Nat.le_of_ble_eq_true rfl) (Nat.le_of_ble_eq_true rfl) (Nat.le_of_ble_eq_true rfl) rfl dX5_driven_6 (fun H locs hP hD hS => ?_)
  refine lv_aload_n hx hb dX5_driven_9 rfl (lv_at hl 0 rfl) ?_
  refine va_get (D := (dC, dI)) (ci := 5) (v := .int mWa_1) (C := RX5) (T := TX5) (N := 21) hx hb hts k1 hown hK hP 0 rfl rfl 18 (by decide) k2 (fun _ h9 => h9) rfl dX5_driven_10 ?_
  refine lv_aload_n hx hb dX5_driven_13 rfl (lv_at hl 0 rfl) ?_
  refine va_get (D := (dC, dI)) (ci := 5) (v := .int mQ) (C := RX5) (T := TX5) (N := 21) hx hb hts k1 hown hK hP 0 rfl rfl 10 (by decide) k3 (fun _ h9 => h9) rfl dX5_driven_14 ?_
  refine lv_icmp_ge (tgt := 24) hx hb dX5_driven_17 (by decide) (fun c9 => ?_) (fun c9 => ?_)
  · have h := ipos c9 h
    refine lv_aload_n hx hb dX5_driven_24 rfl (lv_at hl 0 rfl) ?_
    refine va_get (D := (dC, dI)) (ci := 5) (v := .int mPa_2) (C := RX5) (T := TX5) (N := 21) hx hb hts k1 hown hK hP 0 rfl rfl 19 (by decide) k4 (fun _ h9 => h9) rfl dX5_driven_25 ?_
    cases h
    exact q_iret hQ hx hb hr hlocks hP hK hD hS dX5_driven_28
  · have h := ineg c9 h
    refine lv_iconst (v := -1) hx hb dX5_driven_20 (by decide) ?_
    refine lv_goto (tgt := 28) hx hb dX5_driven_21 (by decide) ?_
    cases h
    exact q_iret hQ hx hb hr hlocks hP hK hD hS dX5_driven_28
set_option maxHeartbeats 4000000 in
set_option maxRecDepth 100000 in
theorem c_X5_drivenOn (l : Launch) (dC : Nat → ClassId) (dI : Nat → Nat → Nat) (cyI : ClassId) (mo aMF aMT aMW aMU aMP aML aMM aMO aMR aMD aMB aMK : Nat) (sz : Nat) (mTh mNo mAr mS mG mQ mWa mPa mLa : Int32) (mF mT mW mU mP mL mM mO mR mD mB mK : Nat → Int32) (p0 : Int32) (N : Nat) (res : Int32 × Int32 × Int32 × Int32 × Int32 × (Nat → Int32) × (Nat → Int32)) (h : pX5_drivenOn N mNo mAr mS mG mQ mWa mPa mLa mF mT mW mU mP mD mK p0 = some res) : Met l yX5_drivenOn wsX5_drivenOn { frames := 4, cells := 0, slots := 0, locals := 90 } (va_Pc [.ref mo, .int p0] (zPre (dC, dI) (wX5 cyI mo aMF aMT aMW aMU aMP aML aMM aMO aMR aMD aMB aMK mTh mNo mAr mS mG mQ mWa mPa mLa mF mT mW mU mP mL mM mO mR mD mB mK) [(cyI, .int)] sz)) (zQi (dC, dI) (wX5 cyI mo aMF aMT aMW aMU aMP aML aMM aMO aMR aMD aMB aMK res.2.1 mNo mAr mS mG mQ res.2.2.1 res.2.2.2.1 res.2.2.2.2.1 mF mT mW mU mP mL mM mO mR res.2.2.2.2.2.1 mB res.2.2.2.2.2.2) [(cyI, .int)] (res.1) (va_A (wX5 cyI mo aMF aMT aMW aMU aMP aML aMM aMO aMR aMD aMB aMK mTh mNo mAr mS mG mQ mWa mPa mLa mF mT mW mU mP mL mM mO mR mD mB mK) sz)) 0 0 (va_A (wX5 cyI mo aMF aMT aMW aMU aMP aML aMM aMO aMR aMD aMB aMK mTh mNo mAr mS mG mQ mWa mPa mLa mF mT mW mU mP mL mM mO mR mD mB mK) sz) := by
  refine q_ofWi (cc := cX5_drivenOn) (maxL := 2) (rt := (some .int)) (by decide) rfl (Nat.le_of_ble_eq_true rfl) ?_
  intro p e s m args below meth c ls A Q H locs hQ hx hb hr hts hown hlocks hml hA hK hP hD hS hl
  have hl : lv_has ls 2 [(0, .ref mo), (1, .int p0)] := hl
  have k0 := hts (.fieldLink RX5 47 "ConvexConduitModel" "taken" "[I") (by decide +kernel)
  have k1 : ∀ w ∈ u_ws RX5 TX5 21, w ∈ wsX5_drivenOn := by decide +kernel
  unfold pX5_drivenOn at h
  refine lv_aload_n hx hb dX5_drivenOn_0 rfl (lv_at hl 0 rfl) ?_
  refine lv_aload_n hx hb dX5_drivenOn_1 rfl (lv_at hl 0 rfl) ?_
  refine lv_iload_n hx hb dX5_drivenOn_2 rfl (lv_at hl 1 rfl) ?_
  obtain ⟨b1, e9, h⟩ := bd h
  refine q_callVi (ret := b2i b1) (As := [.int p0]) (w1 := wX5 cyI mo aMF aMT aMW aMU aMP aML aMM aMO aMR aMD aMB aMK mTh mNo mAr mS mG mQ mWa mPa mLa mF mT mW mU mP mL mM mO mR mD mB mK) (ws2 := wX5 cyI mo aMF aMT aMW aMU aMP aML aMM aMO aMR aMD aMB aMK mTh mNo mAr mS mG mQ mWa mPa mLa mF mT mW mU mP mL mM mO mR mD mB mK) ⟨hx, hb, hml, hown, hts⟩ (c_X5_isArc l dC dI cyI mo aMF aMT aMW aMU aMP aML aMM aMO aMR aMD aMB aMK H.size mTh mNo mAr mS mG mQ mWa mPa mLa mF mT mW mU mP mL mM mO mR mD mB mK p0 _ e9) (cwV 1 hts gX5_drivenOn_X5_isArc rfl rfl rfl (by decide +kernel) ⟨Nat.le_of_ble_eq_true rfl, Nat.le_of_ble_eq_true rfl⟩) hK hP hD hS hA [0, 1, 2, 3, 4, 5, 6, 7, 8, 9, 10, 11, 12] [] [0, 1, 2, 3, 4, 5, 6, 7, 8, 9, 10, 11, 12] [0] rfl rfl rfl rfl (by decide) rfl rfl rfl 5 0 rfl rfl rfl hl.1 (Nat.le_of_ble_eq_true rfl) (Nat.le_of_ble_eq_true rfl) (Nat.le_of_ble_eq_true rfl) rfl dX5_drivenOn_3 (fun H locs hP hD hS => ?_)
  refine lv_if_eq (tgt := 13) hx hb dX5_drivenOn_6 (by decide) (fun c9 => ?_) (fun c9 => ?_)
  · have h := ipos c9 h
    refine lv_iconst (v := 1) hx hb dX5_drivenOn_13 (by decide) ?_
    obtain ⟨b2, mTh_3, e9, h⟩ := bd2 h
    refine q_callVi (ret := b2i b2) (As := [.int 1]) (w1 := wX5 cyI mo aMF aMT aMW aMU aMP aML aMM aMO aMR aMD aMB aMK mTh_3 mNo mAr mS mG mQ mWa mPa mLa mF mT mW mU mP mL mM mO mR mD mB mK) (ws2 := wX5 cyI mo aMF aMT aMW aMU aMP aML aMM aMO aMR aMD aMB aMK mTh_3 mNo mAr mS mG mQ mWa mPa mLa mF mT mW mU mP mL mM mO mR mD mB mK) ⟨hx, hb, hml, hown, hts⟩ (c_X5_goesWell l dC dI cyI mo aMF aMT aMW aMU aMP aML aMM aMO aMR aMD aMB aMK H.size mTh mNo mAr mS mG mQ mWa mPa mLa mF mT mW mU mP mL mM mO mR mD mB mK 1 _ e9) (cwV 1 hts gX5_drivenOn_X5_goesWell rfl rfl rfl (by decide +kernel) ⟨Nat.le_of_ble_eq_true rfl, Nat.le_of_ble_eq_true rfl⟩) hK hP hD hS hA [0, 1, 2, 3, 4, 5, 6, 7, 8, 9, 10, 11, 12] [] [0, 1, 2, 3, 4, 5, 6, 7, 8, 9, 10, 11, 12] [0] rfl rfl rfl rfl (by decide) rfl rfl rfl 5 0 rfl rfl rfl hl.1 (Nat.le_of_ble_eq_true rfl) (Nat.le_of_ble_eq_true rfl) (Nat.le_of_ble_eq_true rfl) rfl dX5_drivenOn_14 (fun H locs hP hD hS => ?_)
    refine lv_if_ne (tgt := 22) hx hb dX5_drivenOn_17 (by decide) (fun c9 => ?_) (fun c9 => ?_)
    · have h := ineg c9 h
      refine lv_aload_n hx hb dX5_drivenOn_22 rfl (lv_at hl 0 rfl) ?_
      obtain ⟨mWa_4, mPa_5, mLa_6, mD_7, mK_8, e9, h⟩ := bd5 h
      refine q_callVv (As := []) (w1 := wX5 cyI mo aMF aMT aMW aMU aMP aML aMM aMO aMR aMD aMB aMK mTh_3 mNo mAr mS mG mQ mWa_4 mPa_5 mLa_6 mF mT mW mU mP mL mM mO mR mD_7 mB mK_8) (ws2 := wX5 cyI mo aMF aMT aMW aMU aMP aML aMM aMO aMR aMD aMB aMK mTh_3 mNo mAr mS mG mQ mWa_4 mPa_5 mLa_6 mF mT mW mU mP mL mM mO mR mD_7 mB mK_8) ⟨hx, hb, hml, hown, hts⟩ (c_X5_drive l dC dI cyI mo aMF aMT aMW aMU aMP aML aMM aMO aMR aMD aMB aMK H.size mTh_3 mNo mAr mS mG mQ mWa mPa mLa mF mT mW mU mP mL mM mO mR mD mB mK N _ e9) (cwV 0 hts gX5_drivenOn_X5_drive rfl rfl rfl (by decide +kernel) ⟨Nat.le_of_ble_eq_true rfl, Nat.le_of_ble_eq_true rfl⟩) hK hP hD hS hA [0, 1, 2, 3, 4, 5, 6, 7, 8, 9, 10, 11, 12] [] [0, 1, 2, 3, 4, 5, 6, 7, 8, 9, 10, 11, 12] [0] rfl rfl rfl rfl (by decide) rfl rfl rfl 5 0 rfl rfl rfl hl.1 (Nat.le_of_ble_eq_true rfl) (Nat.le_of_ble_eq_true rfl) (Nat.le_of_ble_eq_true rfl) rfl dX5_drivenOn_23 (fun H locs hP hD hS => ?_)
      refine lv_aload_n hx hb dX5_drivenOn_26 rfl (lv_at hl 0 rfl) ?_
      refine va_get (D := (dC, dI)) (ci := 5) (v := .ref aMK) (C := RX5) (T := TX5) (N := 21) hx hb hts k1 hown hK hP 0 rfl rfl 17 (by decide) k0 (fun _ h9 => h9) rfl dX5_drivenOn_27 ?_
      refine lv_iload_n hx hb dX5_drivenOn_30 rfl (lv_at hl 1 rfl) ?_
      obtain ⟨t9, e9, h⟩ := bd h
      refine q_iald hx hb hK hP 12 0 rfl rfl e9 dX5_drivenOn_31 ?_
      cases h
      exact q_iret hQ hx hb hr hlocks hP hK hD hS dX5_drivenOn_32
    · have h := ipos c9 h
      refine lv_iconst (v := 0) hx hb dX5_drivenOn_20 (by decide) ?_
      cases h
      exact q_iret hQ hx hb hr hlocks hP hK hD hS dX5_drivenOn_21
  · have h := ineg c9 h
    refine lv_iconst (v := 0) hx hb dX5_drivenOn_9 (by decide) ?_
    refine lv_goto (tgt := 14) hx hb dX5_drivenOn_10 (by decide) ?_
    obtain ⟨b10, mTh_11, e9, h⟩ := bd2 h
    refine q_callVi (ret := b2i b10) (As := [.int 0]) (w1 := wX5 cyI mo aMF aMT aMW aMU aMP aML aMM aMO aMR aMD aMB aMK mTh_11 mNo mAr mS mG mQ mWa mPa mLa mF mT mW mU mP mL mM mO mR mD mB mK) (ws2 := wX5 cyI mo aMF aMT aMW aMU aMP aML aMM aMO aMR aMD aMB aMK mTh_11 mNo mAr mS mG mQ mWa mPa mLa mF mT mW mU mP mL mM mO mR mD mB mK) ⟨hx, hb, hml, hown, hts⟩ (c_X5_goesWell l dC dI cyI mo aMF aMT aMW aMU aMP aML aMM aMO aMR aMD aMB aMK H.size mTh mNo mAr mS mG mQ mWa mPa mLa mF mT mW mU mP mL mM mO mR mD mB mK 0 _ e9) (cwV 1 hts gX5_drivenOn_X5_goesWell rfl rfl rfl (by decide +kernel) ⟨Nat.le_of_ble_eq_true rfl, Nat.le_of_ble_eq_true rfl⟩) hK hP hD hS hA [0, 1, 2, 3, 4, 5, 6, 7, 8, 9, 10, 11, 12] [] [0, 1, 2, 3, 4, 5, 6, 7, 8, 9, 10, 11, 12] [0] rfl rfl rfl rfl (by decide) rfl rfl rfl 5 0 rfl rfl rfl hl.1 (Nat.le_of_ble_eq_true rfl) (Nat.le_of_ble_eq_true rfl) (Nat.le_of_ble_eq_true rfl) rfl dX5_drivenOn_14 (fun H locs hP hD hS => ?_)
    refine lv_if_ne (tgt := 22) hx hb dX5_drivenOn_17 (by decide) (fun c9 => ?_) (fun c9 => ?_)
    · have h := ineg c9 h
      refine lv_aload_n hx hb dX5_drivenOn_22 rfl (lv_at hl 0 rfl) ?_
      obtain ⟨mWa_12, mPa_13, mLa_14, mD_15, mK_16, e9, h⟩ := bd5 h
      refine q_callVv (As := []) (w1 := wX5 cyI mo aMF aMT aMW aMU aMP aML aMM aMO aMR aMD aMB aMK mTh_11 mNo mAr mS mG mQ mWa_12 mPa_13 mLa_14 mF mT mW mU mP mL mM mO mR mD_15 mB mK_16) (ws2 := wX5 cyI mo aMF aMT aMW aMU aMP aML aMM aMO aMR aMD aMB aMK mTh_11 mNo mAr mS mG mQ mWa_12 mPa_13 mLa_14 mF mT mW mU mP mL mM mO mR mD_15 mB mK_16) ⟨hx, hb, hml, hown, hts⟩ (c_X5_drive l dC dI cyI mo aMF aMT aMW aMU aMP aML aMM aMO aMR aMD aMB aMK H.size mTh_11 mNo mAr mS mG mQ mWa mPa mLa mF mT mW mU mP mL mM mO mR mD mB mK N _ e9) (cwV 0 hts gX5_drivenOn_X5_drive rfl rfl rfl (by decide +kernel) ⟨Nat.le_of_ble_eq_true rfl, Nat.le_of_ble_eq_true rfl⟩) hK hP hD hS hA [0, 1, 2, 3, 4, 5, 6, 7, 8, 9, 10, 11, 12] [] [0, 1, 2, 3, 4, 5, 6, 7, 8, 9, 10, 11, 12] [0] rfl rfl rfl rfl (by decide) rfl rfl rfl 5 0 rfl rfl rfl hl.1 (Nat.le_of_ble_eq_true rfl) (Nat.le_of_ble_eq_true rfl) (Nat.le_of_ble_eq_true rfl) rfl dX5_drivenOn_23 (fun H locs hP hD hS => ?_)
      refine lv_aload_n hx hb dX5_drivenOn_26 rfl (lv_at hl 0 rfl) ?_
      refine va_get (D := (dC, dI)) (ci := 5) (v := .ref aMK) (C := RX5) (T := TX5) (N := 21) hx hb hts k1 hown hK hP 0 rfl rfl 17 (by decide) k0 (fun _ h9 => h9) rfl dX5_drivenOn_27 ?_
      refine lv_iload_n hx hb dX5_drivenOn_30 rfl (lv_at hl 1 rfl) ?_
      obtain ⟨t17, e9, h⟩ := bd h
      refine q_iald hx hb hK hP 12 0 rfl rfl e9 dX5_drivenOn_31 ?_
      cases h
      exact q_iret hQ hx hb hr hlocks hP hK hD hS dX5_drivenOn_32
    · have h := ipos c9 h
      refine lv_iconst (v := 0) hx hb dX5_drivenOn_20 (by decide) ?_
      cases h
      exact q_iret hQ hx hb hr hlocks hP hK hD hS dX5_drivenOn_21
set_option maxHeartbeats 4000000 in
set_option maxRecDepth 100000 in
theorem c_X5_lastPaid (l : Launch) (dC : Nat → ClassId) (dI : Nat → Nat → Nat) (cyI : ClassId) (mo aMF aMT aMW aMU aMP aML aMM aMO aMR aMD aMB aMK : Nat) (sz : Nat) (mTh mNo mAr mS mG mQ mWa mPa mLa : Int32) (mF mT mW mU mP mL mM mO mR mD mB mK : Nat → Int32) (N : Nat) (res : Int32 × Int32 × Int32 × Int32 × Int32 × (Nat → Int32) × (Nat → Int32)) (h : pX5_lastPaid N mNo mAr mS mG mQ mF mT mW mU mP mD mK = some res) : Met l yX5_lastPaid wsX5_lastPaid { frames := 4, cells := 0, slots := 0, locals := 90 } (va_Pc [.ref mo] (zPre (dC, dI) (wX5 cyI mo aMF aMT aMW aMU aMP aML aMM aMO aMR aMD aMB aMK mTh mNo mAr mS mG mQ mWa mPa mLa mF mT mW mU mP mL mM mO mR mD mB mK) [(cyI, .int)] sz)) (zQi (dC, dI) (wX5 cyI mo aMF aMT aMW aMU aMP aML aMM aMO aMR aMD aMB aMK res.2.1 mNo mAr mS mG mQ res.2.2.1 res.2.2.2.1 res.2.2.2.2.1 mF mT mW mU mP mL mM mO mR res.2.2.2.2.2.1 mB res.2.2.2.2.2.2) [(cyI, .int)] (res.1) (va_A (wX5 cyI mo aMF aMT aMW aMU aMP aML aMM aMO aMR aMD aMB aMK mTh mNo mAr mS mG mQ mWa mPa mLa mF mT mW mU mP mL mM mO mR mD mB mK) sz)) 0 0 (va_A (wX5 cyI mo aMF aMT aMW aMU aMP aML aMM aMO aMR aMD aMB aMK mTh mNo mAr mS mG mQ mWa mPa mLa mF mT mW mU mP mL mM mO mR mD mB mK) sz) := by
  refine q_ofWi (cc := cX5_lastPaid) (maxL := 1) (rt := (some .int)) (by decide) rfl (Nat.le_of_ble_eq_true rfl) ?_
  intro p e s m args below meth c ls A Q H locs hQ hx hb hr hts hown hlocks hml hA hK hP hD hS hl
  have hl : lv_has ls 1 [(0, .ref mo)] := hl
  have k0 := hts (.fieldLink RX5 53 "ConvexConduitModel" "thrown" "I") (by decide +kernel)
  have k1 : ∀ w ∈ u_ws RX5 TX5 21, w ∈ wsX5_lastPaid := by decide +kernel
  have k2 := hts (.fieldLink RX5 126 "ConvexConduitModel" "latest" "I") (by decide +kernel)
  unfold pX5_lastPaid at h
  refine lv_aload_n hx hb dX5_lastPaid_0 rfl (lv_at hl 0 rfl) ?_
  refine lv_iconst (v := 0) hx hb dX5_lastPaid_1 (by decide) ?_
  refine va_put (D := (dC, dI)) (ci := 5) (v := .int 0) (ty := .int) (C := RX5) (T := TX5) (N := 21) hx hb hts k1 tyX5 tyX5_ok nmX5 hown hK hP hD hS 0 rfl rfl 0 (by decide) k0 (fun _ h9 => h9) rfl (by decide +kernel) rfl rfl (Nat.le_of_ble_eq_true rfl) dX5_lastPaid_2 (fun H locs hP hD hS => ?_)
  have hP : va_P (dC, dI) vwCl (wX5 cyI mo aMF aMT aMW aMU aMP aML aMM aMO aMR aMD aMB aMK 0 mNo mAr mS mG mQ mWa mPa mLa mF mT mW mU mP mL mM mO mR mD mB mK) H := hP
  have hD : va_D A (wX5 cyI mo aMF aMT aMW aMU aMP aML aMM aMO aMR aMD aMB aMK 0 mNo mAr mS mG mQ mWa mPa mLa mF mT mW mU mP mL mM mO mR mD mB mK) := hD
  refine lv_aload_n hx hb dX5_lastPaid_5 rfl (lv_at hl 0 rfl) ?_
  obtain ⟨mWa_1, mPa_2, mLa_3, mD_4, mK_5, e9, h⟩ := bd5 h
  refine q_callVv (As := []) (w1 := wX5 cyI mo aMF aMT aMW aMU aMP aML aMM aMO aMR aMD aMB aMK 0 mNo mAr mS mG mQ mWa_1 mPa_2 mLa_3 mF mT mW mU mP mL mM mO mR mD_4 mB mK_5) (ws2 := wX5 cyI mo aMF aMT aMW aMU aMP aML aMM aMO aMR aMD aMB aMK 0 mNo mAr mS mG mQ mWa_1 mPa_2 mLa_3 mF mT mW mU mP mL mM mO mR mD_4 mB mK_5) ⟨hx, hb, hml, hown, hts⟩ (c_X5_drive l dC dI cyI mo aMF aMT aMW aMU aMP aML aMM aMO aMR aMD aMB aMK H.size 0 mNo mAr mS mG mQ mWa mPa mLa mF mT mW mU mP mL mM mO mR mD mB mK N _ e9) (cwV 0 hts gX5_lastPaid_X5_drive rfl rfl rfl (by decide +kernel) ⟨Nat.le_of_ble_eq_true rfl, Nat.le_of_ble_eq_true rfl⟩) hK hP hD hS hA [0, 1, 2, 3, 4, 5, 6, 7, 8, 9, 10, 11, 12] [] [0, 1, 2, 3, 4, 5, 6, 7, 8, 9, 10, 11, 12] [0] rfl rfl rfl rfl (by decide) rfl rfl rfl 5 0 rfl rfl rfl hl.1 (Nat.le_of_ble_eq_true rfl) (Nat.le_of_ble_eq_true rfl) (Nat.le_of_ble_eq_true rfl) rfl dX5_lastPaid_6 (fun H locs hP hD hS => ?_)
  refine lv_aload_n hx hb dX5_lastPaid_9 rfl (lv_at hl 0 rfl) ?_
  refine va_get (D := (dC, dI)) (ci := 5) (v := .int mLa_3) (C := RX5) (T := TX5) (N := 21) hx hb hts k1 hown hK hP 0 rfl rfl 20 (by decide) k2 (fun _ h9 => h9) rfl dX5_lastPaid_10 ?_
  cases h
  exact q_iret hQ hx hb hr hlocks hP hK hD hS dX5_lastPaid_13
