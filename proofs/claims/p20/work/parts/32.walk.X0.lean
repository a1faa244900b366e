set_option maxHeartbeats 4000000 in
set_option maxRecDepth 100000 in
theorem c_X0_roomOf (l : Launch) (dC : Nat → ClassId) (dI : Nat → Nat → Nat) (cyI : ClassId) (cf nw aF aT aP aC aU aO aL aH aD aB : Nat) (sz : Nat) (nN nA : Int32) (nF nT nP nC nU cO cL cH cD cB : Nat → Int32) (p0 : Int32) (res : Int32) (h : pX0_roomOf cO cL cH p0 = some res) : Met l yX0_roomOf wsX0_roomOf { frames := 1, cells := 0, slots := 0, locals := 20 } (va_Pc [.ref cf, .int p0] (zPre (dC, dI) (wX0 cyI cf nw aF aT aP aC aU aO aL aH aD aB nN nA nF nT nP nC nU cO cL cH cD cB) [(cyI, .int)] sz)) (zQi (dC, dI) (wX0 cyI cf nw aF aT aP aC aU aO aL aH aD aB nN nA nF nT nP nC nU cO cL cH cD cB) [(cyI, .int)] (res) (va_A (wX0 cyI cf nw aF aT aP aC aU aO aL aH aD aB nN nA nF nT nP nC nU cO cL cH cD cB) sz)) 0 0 (va_A (wX0 cyI cf nw aF aT aP aC aU aO aL aH aD aB nN nA nF nT nP nC nU cO cL cH cD cB) sz) := by
  refine q_ofWi (cc := cX0_roomOf) (maxL := 3) (rt := (some .int)) (by decide) rfl (Nat.le_of_ble_eq_true rfl) ?_
  intro p e s m args below meth c ls A Q H locs hQ hx hb hr hts hown hlocks hml hA hK hP hD hS hl
  have hl : lv_has ls 3 [(0, .ref cf), (1, .int p0)] := hl
  have k0 := hts (.fieldLink RX0 9 "ConvexConduit$CheapestFlow" "on" "[I") (by decide +kernel)
  have k1 : ∀ w ∈ u_ws RX0 TX0 6, w ∈ wsX0_roomOf := by decide +kernel
  have k2 := hts (.fieldLink RX0 15 "ConvexConduit$CheapestFlow" "low" "[I") (by decide +kernel)
  have k3 := hts (.fieldLink RX0 18 "ConvexConduit$CheapestFlow" "high" "[I") (by decide +kernel)
  unfold pX0_roomOf at h
  refine lv_iload_n hx hb dX0_roomOf_0 rfl (lv_at hl 1 rfl) ?_
  obtain ⟨r1, e9, h⟩ := bd h
  refine q_callSi (ret := r1) (As := [.int p0]) ⟨hx, hb, hml, hown, hts⟩ (c_X2_arcOf l dC dI H.size p0 _ e9) (va_cwS 1 hts gX0_roomOf_X2_arcOf rfl rfl rfl (by decide +kernel) ⟨Nat.le_of_ble_eq_true rfl, Nat.le_of_ble_eq_true rfl⟩) hK hP hD hS hA [0, 1, 2, 3, 4, 5, 6, 7, 8, 9, 10, 11] rfl rfl rfl hl.1 (Nat.le_of_ble_eq_true rfl) (Nat.le_of_ble_eq_true rfl) (Nat.le_of_ble_eq_true rfl) rfl dX0_roomOf_1 (fun H locs hP hD hS => ?_)
  refine lv_istore_n (lv' := [(2, .int r1), (0, .ref cf), (1, .int p0)]) hx hb dX0_roomOf_4 rfl hl (by decide) rfl (fun ls hl => ?_)
  refine lv_iload_n hx hb dX0_roomOf_5 rfl (lv_at hl 2 rfl) ?_
  obtain ⟨b2, e9, h⟩ := bd h
  refine q_callSi (ret := b2i b2) (As := [.int p0]) ⟨hx, hb, hml, hown, hts⟩ (c_X2_goesAlong l dC dI H.size p0 _ e9) (va_cwS 1 hts gX0_roomOf_X2_goesAlong rfl rfl rfl (by decide +kernel) ⟨Nat.le_of_ble_eq_true rfl, Nat.le_of_ble_eq_true rfl⟩) hK hP hD hS hA [0, 1, 2, 3, 4, 5, 6, 7, 8, 9, 10, 11] rfl rfl rfl hl.1 (Nat.le_of_ble_eq_true rfl) (Nat.le_of_ble_eq_true rfl) (Nat.le_of_ble_eq_true rfl) rfl dX0_roomOf_6 (fun H locs hP hD hS => ?_)
  refine lv_if_eq (tgt := 28) hx hb dX0_roomOf_9 (by decide) (fun c9 => ?_) (fun c9 => ?_)
  · have h := ipos c9 h
    refine lv_aload_n hx hb dX0_roomOf_28 rfl (lv_at hl 1 rfl) ?_
    refine va_get (D := (dC, dI)) (ci := 0) (v := .ref aO) (C := RX0) (T := TX0) (N := 6) hx hb hts k1 hown hK hP 0 rfl rfl 1 (by decide) k0 (fun _ h9 => h9) rfl dX0_roomOf_29 ?_
    refine lv_iload_n hx hb dX0_roomOf_32 rfl (lv_at hl 0 rfl) ?_
    obtain ⟨t3, e9, h⟩ := bd h
    refine q_iald hx hb hK hP 7 0 rfl rfl e9 dX0_roomOf_33 ?_
    refine lv_aload_n hx hb dX0_roomOf_34 rfl (lv_at hl 1 rfl) ?_
    refine va_get (D := (dC, dI)) (ci := 0) (v := .ref aL) (C := RX0) (T := TX0) (N := 6) hx hb hts k1 hown hK hP 0 rfl rfl 2 (by decide) k2 (fun _ h9 => h9) rfl dX0_roomOf_35 ?_
    refine lv_iload_n hx hb dX0_roomOf_38 rfl (lv_at hl 0 rfl) ?_
    obtain ⟨t4, e9, h⟩ := bd h
    refine q_iald hx hb hK hP 8 0 rfl rfl e9 dX0_roomOf_39 ?_
    refine lv_isub hx hb dX0_roomOf_40 ?_
    cases h
    exact q_iret hQ hx hb hr hlocks hP hK hD hS dX0_roomOf_41
  · have h := ineg c9 h
    refine lv_aload_n hx hb dX0_roomOf_12 rfl (lv_at hl 1 rfl) ?_
    refine va_get (D := (dC, dI)) (ci := 0) (v := .ref aH) (C := RX0) (T := TX0) (N := 6) hx hb hts k1 hown hK hP 0 rfl rfl 3 (by decide) k3 (fun _ h9 => h9) rfl dX0_roomOf_13 ?_
    refine lv_iload_n hx hb dX0_roomOf_16 rfl (lv_at hl 0 rfl) ?_
    obtain ⟨t5, e9, h⟩ := bd h
    refine q_iald hx hb hK hP 9 0 rfl rfl e9 dX0_roomOf_17 ?_
    refine lv_aload_n hx hb dX0_roomOf_18 rfl (lv_at hl 1 rfl) ?_
    refine va_get (D := (dC, dI)) (ci := 0) (v := .ref aO) (C := RX0) (T := TX0) (N := 6) hx hb hts k1 hown hK hP 0 rfl rfl 1 (by decide) k0 (fun _ h9 => h9) rfl dX0_roomOf_19 ?_
    refine lv_iload_n hx hb dX0_roomOf_22 rfl (lv_at hl 0 rfl) ?_
    obtain ⟨t6, e9, h⟩ := bd h
    refine q_iald hx hb hK hP 7 0 rfl rfl e9 dX0_roomOf_23 ?_
    refine lv_isub hx hb dX0_roomOf_24 ?_
    refine lv_goto (tgt := 41) hx hb dX0_roomOf_25 (by decide) ?_
    cases h
    exact q_iret hQ hx hb hr hlocks hP hK hD hS dX0_roomOf_41
set_option maxHeartbeats 4000000 in
set_option maxRecDepth 100000 in
theorem c_X0_priceOf (l : Launch) (dC : Nat → ClassId) (dI : Nat → Nat → Nat) (cyI : ClassId) (cf nw aF aT aP aC aU aO aL aH aD aB : Nat) (sz : Nat) (nN nA : Int32) (nF nT nP nC nU cO cL cH cD cB : Nat → Int32) (p0 : Int32) (res : Int32) (h : pX0_priceOf nC nU cO p0 = some res) : Met l yX0_priceOf wsX0_priceOf { frames := 1, cells := 0, slots := 0, locals := 22 } (va_Pc [.ref cf, .int p0] (zPre (dC, dI) (wX0 cyI cf nw aF aT aP aC aU aO aL aH aD aB nN nA nF nT nP nC nU cO cL cH cD cB) [(cyI, .int)] sz)) (zQi (dC, dI) (wX0 cyI cf nw aF aT aP aC aU aO aL aH aD aB nN nA nF nT nP nC nU cO cL cH cD cB) [(cyI, .int)] (res) (va_A (wX0 cyI cf nw aF aT aP aC aU aO aL aH aD aB nN nA nF nT nP nC nU cO cL cH cD cB) sz)) 0 0 (va_A (wX0 cyI cf nw aF aT aP aC aU aO aL aH aD aB nN nA nF nT nP nC nU cO cL cH cD cB) sz) := by
  refine q_ofWi (cc := cX0_priceOf) (maxL := 3) (rt := (some .int)) (by decide) rfl (Nat.le_of_ble_eq_true rfl) ?_
  intro p e s m args below meth c ls A Q H locs hQ hx hb hr hts hown hlocks hml hA hK hP hD hS hl
  have hl : lv_has ls 3 [(0, .ref cf), (1, .int p0)] := hl
  have k0 := hts (.fieldLink RX0 27 "ConvexConduit$CheapestFlow" "network" "LConvexConduit$Network;") (by decide +kernel)
  have k1 : ∀ w ∈ u_ws RX0 TX0 6, w ∈ wsX0_priceOf := by decide +kernel
  have k2 := hts (.fieldLink RX0 9 "ConvexConduit$CheapestFlow" "on" "[I") (by decide +kernel)
  unfold pX0_priceOf at h
  refine lv_iload_n hx hb dX0_priceOf_0 rfl (lv_at hl 1 rfl) ?_
  obtain ⟨r1, e9, h⟩ := bd h
  refine q_callSi (ret := r1) (As := [.int p0]) ⟨hx, hb, hml, hown, hts⟩ (c_X2_arcOf l dC dI H.size p0 _ e9) (va_cwS 1 hts gX0_priceOf_X2_arcOf rfl rfl rfl (by decide +kernel) ⟨Nat.le_of_ble_eq_true rfl, Nat.le_of_ble_eq_true rfl⟩) hK hP hD hS hA [0, 1, 2, 3, 4, 5, 6, 7, 8, 9, 10, 11] rfl rfl rfl hl.1 (Nat.le_of_ble_eq_true rfl) (Nat.le_of_ble_eq_true rfl) (Nat.le_of_ble_eq_true rfl) rfl dX0_priceOf_1 (fun H locs hP hD hS => ?_)
  refine lv_istore_n (lv' := [(2, .int r1), (0, .ref cf), (1, .int p0)]) hx hb dX0_priceOf_4 rfl hl (by decide) rfl (fun ls hl => ?_)
  refine lv_iload_n hx hb dX0_priceOf_5 rfl (lv_at hl 2 rfl) ?_
  obtain ⟨b2, e9, h⟩ := bd h
  refine q_callSi (ret := b2i b2) (As := [.int p0]) ⟨hx, hb, hml, hown, hts⟩ (c_X2_goesAlong l dC dI H.size p0 _ e9) (va_cwS 1 hts gX0_priceOf_X2_goesAlong rfl rfl rfl (by decide +kernel) ⟨Nat.le_of_ble_eq_true rfl, Nat.le_of_ble_eq_true rfl⟩) hK hP hD hS hA [0, 1, 2, 3, 4, 5, 6, 7, 8, 9, 10, 11] rfl rfl rfl hl.1 (Nat.le_of_ble_eq_true rfl) (Nat.le_of_ble_eq_true rfl) (Nat.le_of_ble_eq_true rfl) rfl dX0_priceOf_6 (fun H locs hP hD hS => ?_)
  refine lv_if_eq (tgt := 31) hx hb dX0_priceOf_9 (by decide) (fun c9 => ?_) (fun c9 => ?_)
  · have h := ipos c9 h
    refine lv_aload_n hx hb dX0_priceOf_31 rfl (lv_at hl 1 rfl) ?_
    refine va_get (D := (dC, dI)) (ci := 0) (v := .ref nw) (C := RX0) (T := TX0) (N := 6) hx hb hts k1 hown hK hP 0 rfl rfl 0 (by decide) k0 (fun _ h9 => h9) rfl dX0_priceOf_32 ?_
    refine lv_iload_n hx hb dX0_priceOf_35 rfl (lv_at hl 0 rfl) ?_
    refine lv_aload_n hx hb dX0_priceOf_36 rfl (lv_at hl 1 rfl) ?_
    refine va_get (D := (dC, dI)) (ci := 0) (v := .ref aO) (C := RX0) (T := TX0) (N := 6) hx hb hts k1 hown hK hP 0 rfl rfl 1 (by decide) k2 (fun _ h9 => h9) rfl dX0_priceOf_37 ?_
    refine lv_iload_n hx hb dX0_priceOf_40 rfl (lv_at hl 0 rfl) ?_
    obtain ⟨t3, e9, h⟩ := bd h
    refine q_iald hx hb hK hP 7 0 rfl rfl e9 dX0_priceOf_41 ?_
    obtain ⟨r4, e9, h⟩ := bd h
    refine q_callVi (ret := r4) (As := [.int r1, .int t3]) (w1 := wX2 cyI nw aF aT aP aC aU nN nA nF nT nP nC nU) (ws2 := wX0 cyI cf nw aF aT aP aC aU aO aL aH aD aB nN nA nF nT nP nC nU cO cL cH cD cB) ⟨hx, hb, hml, hown, hts⟩ (c_X2_unitPrice l dC dI cyI nw aF aT aP aC aU H.size nN nA nF nT nP nC nU r1 t3 _ e9) (cwV 2 hts gX0_priceOf_X2_unitPrice rfl rfl rfl (by decide +kernel) ⟨Nat.le_of_ble_eq_true rfl, Nat.le_of_ble_eq_true rfl⟩) hK hP hD hS hA [1, 2, 3, 4, 5, 6] [0, 7, 8, 9, 10, 11] [0, 6, 7, 8, 9, 10, 11, 1, 2, 3, 4, 5] [0] rfl rfl rfl rfl (by decide) rfl rfl rfl 2 0 rfl rfl rfl hl.1 (Nat.le_of_ble_eq_true rfl) (Nat.le_of_ble_eq_true rfl) (Nat.le_of_ble_eq_true rfl) rfl dX0_priceOf_42 (fun H locs hP hD hS => ?_)
    refine lv_ineg hx hb dX0_priceOf_45 ?_
    cases h
    exact q_iret hQ hx hb hr hlocks hP hK hD hS dX0_priceOf_46
  · have h := ineg c9 h
    refine lv_aload_n hx hb dX0_priceOf_12 rfl (lv_at hl 1 rfl) ?_
    refine va_get (D := (dC, dI)) (ci := 0) (v := .ref nw) (C := RX0) (T := TX0) (N := 6) hx hb hts k1 hown hK hP 0 rfl rfl 0 (by decide) k0 (fun _ h9 => h9) rfl dX0_priceOf_13 ?_
    refine lv_iload_n hx hb dX0_priceOf_16 rfl (lv_at hl 0 rfl) ?_
    refine lv_aload_n hx hb dX0_priceOf_17 rfl (lv_at hl 1 rfl) ?_
    refine va_get (D := (dC, dI)) (ci := 0) (v := .ref aO) (C := RX0) (T := TX0) (N := 6) hx hb hts k1 hown hK hP 0 rfl rfl 1 (by decide) k2 (fun _ h9 => h9) rfl dX0_priceOf_18 ?_
    refine lv_iload_n hx hb dX0_priceOf_21 rfl (lv_at hl 0 rfl) ?_
    obtain ⟨t5, e9, h⟩ := bd h
    refine q_iald hx hb hK hP 7 0 rfl rfl e9 dX0_priceOf_22 ?_
    refine lv_iconst (v := 1) hx hb dX0_priceOf_23 (by decide) ?_
    refine lv_iadd hx hb dX0_priceOf_24 ?_
    obtain ⟨r6, e9, h⟩ := bd h
    refine q_callVi (ret := r6) (As := [.int r1, .int (t5 + 1)]) (w1 := wX2 cyI nw aF aT aP aC aU nN nA nF nT nP nC nU) (ws2 := wX0 cyI cf nw aF aT aP aC aU aO aL aH aD aB nN nA nF nT nP nC nU cO cL cH cD cB) ⟨hx, hb, hml, hown, hts⟩ (c_X2_unitPrice l dC dI cyI nw aF aT aP aC aU H.size nN nA nF nT nP nC nU r1 (t5 + 1) _ e9) (cwV 2 hts gX0_priceOf_X2_unitPrice rfl rfl rfl (by decide +kernel) ⟨Nat.le_of_ble_eq_true rfl, Nat.le_of_ble_eq_true rfl⟩) hK hP hD hS hA [1, 2, 3, 4, 5, 6] [0, 7, 8, 9, 10, 11] [0, 6, 7, 8, 9, 10, 11, 1, 2, 3, 4, 5] [0] rfl rfl rfl rfl (by decide) rfl rfl rfl 2 0 rfl rfl rfl hl.1 (Nat.le_of_ble_eq_true rfl) (Nat.le_of_ble_eq_true rfl) (Nat.le_of_ble_eq_true rfl) rfl dX0_priceOf_25 (fun H locs hP hD hS => ?_)
    refine lv_goto (tgt := 46) hx hb dX0_priceOf_28 (by decide) ?_
    cases h
    exact q_iret hQ hx hb hr hlocks hP hK hD hS dX0_priceOf_46
set_option maxHeartbeats 4000000 in
set_option maxRecDepth 100000 in
theorem c_X0_shorten (l : Launch) (dC : Nat → ClassId) (dI : Nat → Nat → Nat) (cyI : ClassId) (cf nw aF aT aP aC aU aO aL aH aD aB : Nat) (sz : Nat) (nN nA : Int32) (nF nT nP nC nU cO cL cH cD cB : Nat → Int32) (p0 : Int32) (res : Bool × (Nat → Int32) × (Nat → Int32)) (h : pX0_shorten nF nT nC nU cO cL cH cD cB p0 = some res) : Met l yX0_shorten wsX0_shorten { frames := 2, cells := 0, slots := 0, locals := 44 } (va_Pc [.ref cf, .int p0] (zPre (dC, dI) (wX0 cyI cf nw aF aT aP aC aU aO aL aH aD aB nN nA nF nT nP nC nU cO cL cH cD cB) [(cyI, .int)] sz)) (zQi (dC, dI) (wX0 cyI cf nw aF aT aP aC aU aO aL aH aD aB nN nA nF nT nP nC nU cO cL cH res.2.1 res.2.2) [(cyI, .int)] (b2i res.1) (va_A (wX0 cyI cf nw aF aT aP aC aU aO aL aH aD aB nN nA nF nT nP nC nU cO cL cH cD cB) sz)) 0 0 (va_A (wX0 cyI cf nw aF aT aP aC aU aO aL aH aD aB nN nA nF nT nP nC nU cO cL cH cD cB) sz) := by
  refine q_ofWi (cc := cX0_shorten) (maxL := 4) (rt := (some .boolean)) (by decide) rfl (Nat.le_of_ble_eq_true rfl) ?_
  intro p e s m args below meth c ls A Q H locs hQ hx hb hr hts hown hlocks hml hA hK hP hD hS hl
  have hl : lv_has ls 4 [(0, .ref cf), (1, .int p0)] := hl
  have k0 := hts (.fieldLink RX0 27 "ConvexConduit$CheapestFlow" "network" "LConvexConduit$Network;") (by decide +kernel)
  have k1 : ∀ w ∈ u_ws RX0 TX0 6, w ∈ wsX0_shorten := by decide +kernel
  have k2 := hts (.fieldLink RX0 21 "ConvexConduit$CheapestFlow" "distance" "[I") (by decide +kernel)
  have k3 := hts (.constant RX0 55 (1000000)) (by decide +kernel)
  have k4 := hts (.fieldLink RX0 24 "ConvexConduit$CheapestFlow" "cameBy" "[I") (by decide +kernel)
  unfold pX0_shorten at h
  refine lv_aload_n hx hb dX0_shorten_0 rfl (lv_at hl 0 rfl) ?_
  refine va_get (D := (dC, dI)) (ci := 0) (v := .ref nw) (C := RX0) (T := TX0) (N := 6) hx hb hts k1 hown hK hP 0 rfl rfl 0 (by decide) k0 (fun _ h9 => h9) rfl dX0_shorten_1 ?_
  refine lv_iload_n hx hb dX0_shorten_4 rfl (lv_at hl 1 rfl) ?_
  obtain ⟨r1, e9, h⟩ := bd h
  refine q_callVi (ret := r1) (As := [.int p0]) (w1 := wX2 cyI nw aF aT aP aC aU nN nA nF nT nP nC nU) (ws2 := wX0 cyI cf nw aF aT aP aC aU aO aL aH aD aB nN nA nF nT nP nC nU cO cL cH cD cB) ⟨hx, hb, hml, hown, hts⟩ (c_X2_start l dC dI cyI nw aF aT aP aC aU H.size nN nA nF nT nP nC nU p0 _ e9) (cwV 1 hts gX0_shorten_X2_start rfl rfl rfl (by decide +kernel) ⟨Nat.le_of_ble_eq_true rfl, Nat.le_of_ble_eq_true rfl⟩) hK hP hD hS hA [1, 2, 3, 4, 5, 6] [0, 7, 8, 9, 10, 11] [0, 6, 7, 8, 9, 10, 11, 1, 2, 3, 4, 5] [0] rfl rfl rfl rfl (by decide) rfl rfl rfl 2 0 rfl rfl rfl hl.1 (Nat.le_of_ble_eq_true rfl) (Nat.le_of_ble_eq_true rfl) (Nat.le_of_ble_eq_true rfl) rfl dX0_shorten_5 (fun H locs hP hD hS => ?_)
  refine lv_istore_n (lv' := [(2, .int r1), (0, .ref cf), (1, .int p0)]) hx hb dX0_shorten_8 rfl hl (by decide) rfl (fun ls hl => ?_)
  refine lv_aload_n hx hb dX0_shorten_9 rfl (lv_at hl 1 rfl) ?_
  refine va_get (D := (dC, dI)) (ci := 0) (v := .ref nw) (C := RX0) (T := TX0) (N := 6) hx hb hts k1 hown hK hP 0 rfl rfl 0 (by decide) k0 (fun _ h9 => h9) rfl dX0_shorten_10 ?_
  refine lv_iload_n hx hb dX0_shorten_13 rfl (lv_at hl 2 rfl) ?_
  obtain ⟨r2, e9, h⟩ := bd h
  refine q_callVi (ret := r2) (As := [.int p0]) (w1 := wX2 cyI nw aF aT aP aC aU nN nA nF nT nP nC nU) (ws2 := wX0 cyI cf nw aF aT aP aC aU aO aL aH aD aB nN nA nF nT nP nC nU cO cL cH cD cB) ⟨hx, hb, hml, hown, hts⟩ (c_X2_end l dC dI cyI nw aF aT aP aC aU H.size nN nA nF nT nP nC nU p0 _ e9) (cwV 1 hts gX0_shorten_X2_end rfl rfl rfl (by decide +kernel) ⟨Nat.le_of_ble_eq_true rfl, Nat.le_of_ble_eq_true rfl⟩) hK hP hD hS hA [1, 2, 3, 4, 5, 6] [0, 7, 8, 9, 10, 11] [0, 6, 7, 8, 9, 10, 11, 1, 2, 3, 4, 5] [0] rfl rfl rfl rfl (by decide) rfl rfl rfl 2 0 rfl rfl rfl hl.1 (Nat.le_of_ble_eq_true rfl) (Nat.le_of_ble_eq_true rfl) (Nat.le_of_ble_eq_true rfl) rfl dX0_shorten_14 (fun H locs hP hD hS => ?_)
  refine lv_istore_n (lv' := [(3, .int r2), (2, .int r1), (0, .ref cf), (1, .int p0)]) hx hb dX0_shorten_17 rfl hl (by decide) rfl (fun ls hl => ?_)
  refine lv_aload_n hx hb dX0_shorten_18 rfl (lv_at hl 2 rfl) ?_
  refine va_get (D := (dC, dI)) (ci := 0) (v := .ref aD) (C := RX0) (T := TX0) (N := 6) hx hb hts k1 hown hK hP 0 rfl rfl 4 (by decide) k2 (fun _ h9 => h9) rfl dX0_shorten_19 ?_
  refine lv_iload_n hx hb dX0_shorten_22 rfl (lv_at hl 1 rfl) ?_
  obtain ⟨t3, e9, h⟩ := bd h
  refine q_iald hx hb hK hP 10 0 rfl rfl e9 dX0_shorten_23 ?_
  refine lv_ldc (own := RX0) (v := 1000000) hx hb hown k3 dX0_shorten_24 ?_
  refine lv_icmp_ge (tgt := 58) hx hb dX0_shorten_26 (by decide) (fun c9 => ?_) (fun c9 => ?_)
  · have h := ipos c9 h
    refine lv_iconst (v := 0) hx hb dX0_shorten_58 (by decide) ?_
    cases h
    exact q_zret (b := false) hQ hx hb hr hlocks hP hK hD hS dX0_shorten_59
  · have h := ineg c9 h
    refine lv_aload_n hx hb dX0_shorten_29 rfl (lv_at hl 2 rfl) ?_
    refine lv_iload_n hx hb dX0_shorten_30 rfl (lv_at hl 3 rfl) ?_
    obtain ⟨r4, e9, h⟩ := bd h
    refine q_callVi (ret := r4) (As := [.int p0]) (w1 := wX0 cyI cf nw aF aT aP aC aU aO aL aH aD aB nN nA nF nT nP nC nU cO cL cH cD cB) (ws2 := wX0 cyI cf nw aF aT aP aC aU aO aL aH aD aB nN nA nF nT nP nC nU cO cL cH cD cB) ⟨hx, hb, hml, hown, hts⟩ (c_X0_roomOf l dC dI cyI cf nw aF aT aP aC aU aO aL aH aD aB H.size nN nA nF nT nP nC nU cO cL cH cD cB p0 _ e9) (cwV 1 hts gX0_shorten_X0_roomOf rfl rfl rfl (by decide +kernel) ⟨Nat.le_of_ble_eq_true rfl, Nat.le_of_ble_eq_true rfl⟩) hK hP hD hS hA [0, 1, 2, 3, 4, 5, 6, 7, 8, 9, 10, 11] [] [0, 1, 2, 3, 4, 5, 6, 7, 8, 9, 10, 11] [0] rfl rfl rfl rfl (by decide) rfl rfl rfl 0 0 rfl rfl rfl hl.1 (Nat.le_of_ble_eq_true rfl) (Nat.le_of_ble_eq_true rfl) (Nat.le_of_ble_eq_true rfl) rfl dX0_shorten_31 (fun H locs hP hD hS => ?_)
    refine lv_if_le (tgt := 58) hx hb dX0_shorten_34 (by decide) (fun c9 => ?_) (fun c9 => ?_)
    · have h := ipos c9 h
      refine lv_iconst (v := 0) hx hb dX0_shorten_58 (by decide) ?_
      cases h
      exact q_zret (b := false) hQ hx hb hr hlocks hP hK hD hS dX0_shorten_59
    · have h := ineg c9 h
      refine lv_aload_n hx hb dX0_shorten_37 rfl (lv_at hl 2 rfl) ?_
      refine va_get (D := (dC, dI)) (ci := 0) (v := .ref aD) (C := RX0) (T := TX0) (N := 6) hx hb hts k1 hown hK hP 0 rfl rfl 4 (by decide) k2 (fun _ h9 => h9) rfl dX0_shorten_38 ?_
      refine lv_iload_n hx hb dX0_shorten_41 rfl (lv_at hl 1 rfl) ?_
      obtain ⟨t5, e9, h⟩ := bd h
      refine q_iald hx hb hK hP 10 0 rfl rfl e9 dX0_shorten_42 ?_
      refine lv_aload_n hx hb dX0_shorten_43 rfl (lv_at hl 2 rfl) ?_
      refine lv_iload_n hx hb dX0_shorten_44 rfl (lv_at hl 3 rfl) ?_
      obtain ⟨r6, e9, h⟩ := bd h
      refine q_callVi (ret := r6) (As := [.int p0]) (w1 := wX0 cyI cf nw aF aT aP aC aU aO aL aH aD aB nN nA nF nT nP nC nU cO cL cH cD cB) (ws2 := wX0 cyI cf nw aF aT aP aC aU aO aL aH aD aB nN nA nF nT nP nC nU cO cL cH cD cB) ⟨hx, hb, hml, hown, hts⟩ (c_X0_priceOf l dC dI cyI cf nw aF aT aP aC aU aO aL aH aD aB H.size nN nA nF nT nP nC nU cO cL cH cD cB p0 _ e9) (cwV 1 hts gX0_shorten_X0_priceOf rfl rfl rfl (by decide +kernel) ⟨Nat.le_of_ble_eq_true rfl, Nat.le_of_ble_eq_true rfl⟩) hK hP hD hS hA [0, 1, 2, 3, 4, 5, 6, 7, 8, 9, 10, 11] [] [0, 1, 2, 3, 4, 5, 6, 7, 8, 9, 10, 11] [0] rfl rfl rfl rfl (by decide) rfl rfl rfl 0 0 rfl rfl rfl hl.1 (Nat.le_of_ble_eq_true rfl) (Nat.le_of_ble_eq_true rfl) (Nat.le_of_ble_eq_true rfl) rfl dX0_shorten_45 (fun H locs hP hD hS => ?_)
      refine lv_iadd hx hb dX0_shorten_48 ?_
      refine lv_aload_n hx hb dX0_shorten_49 rfl (lv_at hl 2 rfl) ?_
      refine va_get (D := (dC, dI)) (ci := 0) (v := .ref aD) (C := RX0) (T := TX0) (N := 6) hx hb hts k1 hown hK hP 0 rfl rfl 4 (by decide) k2 (fun _ h9 => h9) rfl dX0_shorten_50 ?_
      refine lv_iload_n hx hb dX0_shorten_53 rfl (lv_at hl 0 rfl) ?_
      obtain ⟨t7, e9, h⟩ := bd h
      refine q_iald hx hb hK hP 10 0 rfl rfl e9 dX0_shorten_54 ?_
      refine lv_icmp_lt (tgt := 60) hx hb dX0_shorten_55 (by decide) (fun c9 => ?_) (fun c9 => ?_)
      · have h := ipos c9 h
        refine lv_aload_n hx hb dX0_shorten_60 rfl (lv_at hl 2 rfl) ?_
        refine va_get (D := (dC, dI)) (ci := 0) (v := .ref aD) (C := RX0) (T := TX0) (N := 6) hx hb hts k1 hown hK hP 0 rfl rfl 4 (by decide) k2 (fun _ h9 => h9) rfl dX0_shorten_61 ?_
        refine lv_iload_n hx hb dX0_shorten_64 rfl (lv_at hl 0 rfl) ?_
        refine lv_aload_n hx hb dX0_shorten_65 rfl (lv_at hl 2 rfl) ?_
        refine va_get (D := (dC, dI)) (ci := 0) (v := .ref aD) (C := RX0) (T := TX0) (N := 6) hx hb hts k1 hown hK hP 0 rfl rfl 4 (by decide) k2 (fun _ h9 => h9) rfl dX0_shorten_66 ?_
        refine lv_iload_n hx hb dX0_shorten_69 rfl (lv_at hl 1 rfl) ?_
        obtain ⟨t8, e9, h⟩ := bd h
        refine q_iald hx hb hK hP 10 0 rfl rfl e9 dX0_shorten_70 ?_
        refine lv_aload_n hx hb dX0_shorten_71 rfl (lv_at hl 2 rfl) ?_
        refine lv_iload_n hx hb dX0_shorten_72 rfl (lv_at hl 3 rfl) ?_
        obtain ⟨r9, e9, h⟩ := bd h
        refine q_callVi (ret := r9) (As := [.int p0]) (w1 := wX0 cyI cf nw aF aT aP aC aU aO aL aH aD aB nN nA nF nT nP nC nU cO cL cH cD cB) (ws2 := wX0 cyI cf nw aF aT aP aC aU aO aL aH aD aB nN nA nF nT nP nC nU cO cL cH cD cB) ⟨hx, hb, hml, hown, hts⟩ (c_X0_priceOf l dC dI cyI cf nw aF aT aP aC aU aO aL aH aD aB H.size nN nA nF nT nP nC nU cO cL cH cD cB p0 _ e9) (cwV 1 hts gX0_shorten_X0_priceOf rfl rfl rfl (by decide +kernel) ⟨Nat.le_of_ble_eq_true rfl, Nat.le_of_ble_eq_true rfl⟩) hK hP hD hS hA [0, 1, 2, 3, 4, 5, 6, 7, 8, 9, 10, 11] [] [0, 1, 2, 3, 4, 5, 6, 7, 8, 9, 10, 11] [0] rfl rfl rfl rfl (by decide) rfl rfl rfl 0 0 rfl rfl rfl hl.1 (Nat.le_of_ble_eq_true rfl) (Nat.le_of_ble_eq_true rfl) (Nat.le_of_ble_eq_true rfl) rfl dX0_shorten_73 (fun H locs hP hD hS => ?_)
        refine lv_iadd hx hb dX0_shorten_76 ?_
        obtain ⟨cD_10, e9, h⟩ := bd h
        refine q_iast (ws2 := wX0 cyI cf nw aF aT aP aC aU aO aL aH aD aB nN nA nF nT nP nC nU cO cL cH cD_10 cB) hx hb hK hP hD hS 10 0 rfl rfl e9 dX0_shorten_77 rfl (fun H locs hP hD hS => ?_)
        refine lv_aload_n hx hb dX0_shorten_78 rfl (lv_at hl 2 rfl) ?_
        refine va_get (D := (dC, dI)) (ci := 0) (v := .ref aB) (C := RX0) (T := TX0) (N := 6) hx hb hts k1 hown hK hP 0 rfl rfl 5 (by decide) k4 (fun _ h9 => h9) rfl dX0_shorten_79 ?_
        refine lv_iload_n hx hb dX0_shorten_82 rfl (lv_at hl 0 rfl) ?_
        refine lv_iload_n hx hb dX0_shorten_83 rfl (lv_at hl 3 rfl) ?_
        obtain ⟨cB_11, e9, h⟩ := bd h
        refine q_iast (ws2 := wX0 cyI cf nw aF aT aP aC aU aO aL aH aD aB nN nA nF nT nP nC nU cO cL cH cD_10 cB_11) hx hb hK hP hD hS 11 0 rfl rfl e9 dX0_shorten_84 rfl (fun H locs hP hD hS => ?_)
        refine lv_iconst (v := 1) hx hb dX0_shorten_85 (by decide) ?_
        cases h
        exact q_zret (b := true) hQ hx hb hr hlocks hP hK hD hS dX0_shorten_86
      · have h := ineg c9 h
        refine lv_iconst (v := 0) hx hb dX0_shorten_58 (by decide) ?_
        cases h
        exact q_zret (b := false) hQ hx hb hr hlocks hP hK hD hS dX0_shorten_59
set_option maxHeartbeats 4000000 in
set_option maxRecDepth 100000 in
theorem c_X0_widen (l : Launch) (dC : Nat → ClassId) (dI : Nat → Nat → Nat) (cyI : ClassId) (cf nw aF aT aP aC aU aO aL aH aD aB : Nat) (sz : Nat) (nN nA : Int32) (nF nT nP nC nU cO cL cH cD cB : Nat → Int32) (p0 p1 : Int32) (res : Bool × (Nat → Int32)) (h : pX0_widen nF nT cO cL cH cB p0 p1 = some res) : Met l yX0_widen wsX0_widen { frames := 2, cells := 0, slots := 0, locals := 42 } (va_Pc [.ref cf, .int p0, .int p1] (zPre (dC, dI) (wX0 cyI cf nw aF aT aP aC aU aO aL aH aD aB nN nA nF nT nP nC nU cO cL cH cD cB) [(cyI, .int)] sz)) (zQi (dC, dI) (wX0 cyI cf nw aF aT aP aC aU aO aL aH aD aB nN nA nF nT nP nC nU cO cL cH cD res.2) [(cyI, .int)] (b2i res.1) (va_A (wX0 cyI cf nw aF aT aP aC aU aO aL aH aD aB nN nA nF nT nP nC nU cO cL cH cD cB) sz)) 0 0 (va_A (wX0 cyI cf nw aF aT aP aC aU aO aL aH aD aB nN nA nF nT nP nC nU cO cL cH cD cB) sz) := by
  refine q_ofWi (cc := cX0_widen) (maxL := 6) (rt := (some .boolean)) (by decide) rfl (Nat.le_of_ble_eq_true rfl) ?_
  intro p e s m args below meth c ls A Q H locs hQ hx hb hr hts hown hlocks hml hA hK hP hD hS hl
  have hl : lv_has ls 6 [(0, .ref cf), (1, .int p0), (2, .int p1)] := hl
  have k0 := hts (.fieldLink RX0 27 "ConvexConduit$CheapestFlow" "network" "LConvexConduit$Network;") (by decide +kernel)
  have k1 : ∀ w ∈ u_ws RX0 TX0 6, w ∈ wsX0_widen := by decide +kernel
  have k2 := hts (.fieldLink RX0 24 "ConvexConduit$CheapestFlow" "cameBy" "[I") (by decide +kernel)
  unfold pX0_widen at h
  refine lv_aload_n hx hb dX0_widen_0 rfl (lv_at hl 0 rfl) ?_
  refine va_get (D := (dC, dI)) (ci := 0) (v := .ref nw) (C := RX0) (T := TX0) (N := 6) hx hb hts k1 hown hK hP 0 rfl rfl 0 (by decide) k0 (fun _ h9 => h9) rfl dX0_widen_1 ?_
  refine lv_iload_n hx hb dX0_widen_4 rfl (lv_at hl 2 rfl) ?_
  obtain ⟨r1, e9, h⟩ := bd h
  refine q_callVi (ret := r1) (As := [.int p1]) (w1 := wX2 cyI nw aF aT aP aC aU nN nA nF nT nP nC nU) (ws2 := wX0 cyI cf nw aF aT aP aC aU aO aL aH aD aB nN nA nF nT nP nC nU cO cL cH cD cB) ⟨hx, hb, hml, hown, hts⟩ (c_X2_start l dC dI cyI nw aF aT aP aC aU H.size nN nA nF nT nP nC nU p1 _ e9) (cwV 1 hts gX0_widen_X2_start rfl rfl rfl (by decide +kernel) ⟨Nat.le_of_ble_eq_true rfl, Nat.le_of_ble_eq_true rfl⟩) hK hP hD hS hA [1, 2, 3, 4, 5, 6] [0, 7, 8, 9, 10, 11] [0, 6, 7, 8, 9, 10, 11, 1, 2, 3, 4, 5] [0] rfl rfl rfl rfl (by decide) rfl rfl rfl 2 0 rfl rfl rfl hl.1 (Nat.le_of_ble_eq_true rfl) (Nat.le_of_ble_eq_true rfl) (Nat.le_of_ble_eq_true rfl) rfl dX0_widen_5 (fun H locs hP hD hS => ?_)
  refine lv_istore_n (lv' := [(3, .int r1), (0, .ref cf), (1, .int p0), (2, .int p1)]) hx hb dX0_widen_8 rfl hl (by decide) rfl (fun ls hl => ?_)
  refine lv_aload_n hx hb dX0_widen_9 rfl (lv_at hl 1 rfl) ?_
  refine va_get (D := (dC, dI)) (ci := 0) (v := .ref nw) (C := RX0) (T := TX0) (N := 6) hx hb hts k1 hown hK hP 0 rfl rfl 0 (by decide) k0 (fun _ h9 => h9) rfl dX0_widen_10 ?_
  refine lv_iload_n hx hb dX0_widen_13 rfl (lv_at hl 3 rfl) ?_
  obtain ⟨r2, e9, h⟩ := bd h
  refine q_callVi (ret := r2) (As := [.int p1]) (w1 := wX2 cyI nw aF aT aP aC aU nN nA nF nT nP nC nU) (ws2 := wX0 cyI cf nw aF aT aP aC aU aO aL aH aD aB nN nA nF nT nP nC nU cO cL cH cD cB) ⟨hx, hb, hml, hown, hts⟩ (c_X2_end l dC dI cyI nw aF aT aP aC aU H.size nN nA nF nT nP nC nU p1 _ e9) (cwV 1 hts gX0_widen_X2_end rfl rfl rfl (by decide +kernel) ⟨Nat.le_of_ble_eq_true rfl, Nat.le_of_ble_eq_true rfl⟩) hK hP hD hS hA [1, 2, 3, 4, 5, 6] [0, 7, 8, 9, 10, 11] [0, 6, 7, 8, 9, 10, 11, 1, 2, 3, 4, 5] [0] rfl rfl rfl rfl (by decide) rfl rfl rfl 2 0 rfl rfl rfl hl.1 (Nat.le_of_ble_eq_true rfl) (Nat.le_of_ble_eq_true rfl) (Nat.le_of_ble_eq_true rfl) rfl dX0_widen_14 (fun H locs hP hD hS => ?_)
  refine lv_istore (lv' := [(4, .int r2), (3, .int r1), (0, .ref cf), (1, .int p0), (2, .int p1)]) hx hb dX0_widen_17 hl (by decide) rfl (fun ls hl => ?_)
  refine lv_iload_n hx hb dX0_widen_19 rfl (lv_at hl 1 rfl) ?_
  refine lv_iload_n hx hb dX0_widen_20 rfl (lv_at hl 3 rfl) ?_
  refine lv_icmp_eq (tgt := 34) hx hb dX0_widen_21 (by decide) (fun c9 => ?_) (fun c9 => ?_)
  · have h := ipos c9 h
    refine lv_iconst (v := 1) hx hb dX0_widen_34 (by decide) ?_
    refine lv_goto (tgt := 39) hx hb dX0_widen_35 (by decide) ?_
    refine lv_istore (lv' := [(5, .int 1), (4, .int r2), (3, .int r1), (0, .ref cf), (1, .int p0), (2, .int p1)]) hx hb dX0_widen_39 hl (by decide) rfl (fun ls hl => ?_)
    refine lv_iload hx hb dX0_widen_41 (lv_at hl 0 rfl) ?_
    refine lv_if_eq (tgt := 71) hx hb dX0_widen_43 (by decide) (fun c9 => absurd c9 (by decide)) (fun _ => ?_)
    refine lv_iload hx hb dX0_widen_46 (lv_at hl 1 rfl) ?_
    refine lv_iload_n hx hb dX0_widen_48 rfl (lv_at hl 4 rfl) ?_
    refine lv_icmp_eq (tgt := 71) hx hb dX0_widen_49 (by decide) (fun c9 => ?_) (fun c9 => ?_)
    · have h := ipos c9 h
      refine lv_iconst (v := 0) hx hb dX0_widen_71 (by decide) ?_
      cases h
      exact q_zret (b := false) hQ hx hb hr hlocks hP hK hD hS dX0_widen_72
    · have h := ineg c9 h
      refine lv_aload_n hx hb dX0_widen_52 rfl (lv_at hl 3 rfl) ?_
      refine va_get (D := (dC, dI)) (ci := 0) (v := .ref aB) (C := RX0) (T := TX0) (N := 6) hx hb hts k1 hown hK hP 0 rfl rfl 5 (by decide) k2 (fun _ h9 => h9) rfl dX0_widen_53 ?_
      refine lv_iload hx hb dX0_widen_56 (lv_at hl 1 rfl) ?_
      obtain ⟨t3, e9, h⟩ := bd h
      refine q_iald hx hb hK hP 11 0 rfl rfl e9 dX0_widen_58 ?_
      refine lv_iconst (v := -1) hx hb dX0_widen_59 (by decide) ?_
      refine lv_icmp_ne (tgt := 71) hx hb dX0_widen_60 (by decide) (fun c9 => ?_) (fun c9 => ?_)
      · have h := ineg c9 h
        refine lv_iconst (v := 0) hx hb dX0_widen_71 (by decide) ?_
        cases h
        exact q_zret (b := false) hQ hx hb hr hlocks hP hK hD hS dX0_widen_72
      · have h := ipos c9 h
        refine lv_aload_n hx hb dX0_widen_63 rfl (lv_at hl 3 rfl) ?_
        refine lv_iload_n hx hb dX0_widen_64 rfl (lv_at hl 5 rfl) ?_
        obtain ⟨r4, e9, h⟩ := bd h
        refine q_callVi (ret := r4) (As := [.int p1]) (w1 := wX0 cyI cf nw aF aT aP aC aU aO aL aH aD aB nN nA nF nT nP nC nU cO cL cH cD cB) (ws2 := wX0 cyI cf nw aF aT aP aC aU aO aL aH aD aB nN nA nF nT nP nC nU cO cL cH cD cB) ⟨hx, hb, hml, hown, hts⟩ (c_X0_roomOf l dC dI cyI cf nw aF aT aP aC aU aO aL aH aD aB H.size nN nA nF nT nP nC nU cO cL cH cD cB p1 _ e9) (cwV 1 hts gX0_widen_X0_roomOf rfl rfl rfl (by decide +kernel) ⟨Nat.le_of_ble_eq_true rfl, Nat.le_of_ble_eq_true rfl⟩) hK hP hD hS hA [0, 1, 2, 3, 4, 5, 6, 7, 8, 9, 10, 11] [] [0, 1, 2, 3, 4, 5, 6, 7, 8, 9, 10, 11] [0] rfl rfl rfl rfl (by decide) rfl rfl rfl 0 0 rfl rfl rfl hl.1 (Nat.le_of_ble_eq_true rfl) (Nat.le_of_ble_eq_true rfl) (Nat.le_of_ble_eq_true rfl) rfl dX0_widen_65 (fun H locs hP hD hS => ?_)
        refine lv_if_gt (tgt := 73) hx hb dX0_widen_68 (by decide) (fun c9 => ?_) (fun c9 => ?_)
        · have h := ipos c9 h
          refine lv_aload_n hx hb dX0_widen_73 rfl (lv_at hl 3 rfl) ?_
          refine va_get (D := (dC, dI)) (ci := 0) (v := .ref aB) (C := RX0) (T := TX0) (N := 6) hx hb hts k1 hown hK hP 0 rfl rfl 5 (by decide) k2 (fun _ h9 => h9) rfl dX0_widen_74 ?_
          refine lv_iload hx hb dX0_widen_77 (lv_at hl 1 rfl) ?_
          refine lv_iload_n hx hb dX0_widen_79 rfl (lv_at hl 5 rfl) ?_
          obtain ⟨cB_5, e9, h⟩ := bd h
          refine q_iast (ws2 := wX0 cyI cf nw aF aT aP aC aU aO aL aH aD aB nN nA nF nT nP nC nU cO cL cH cD cB_5) hx hb hK hP hD hS 11 0 rfl rfl e9 dX0_widen_80 rfl (fun H locs hP hD hS => ?_)
          refine lv_iconst (v := 1) hx hb dX0_widen_81 (by decide) ?_
          cases h
          exact q_zret (b := true) hQ hx hb hr hlocks hP hK hD hS dX0_widen_82
        · have h := ineg c9 h
          refine lv_iconst (v := 0) hx hb dX0_widen_71 (by decide) ?_
          cases h
          exact q_zret (b := false) hQ hx hb hr hlocks hP hK hD hS dX0_widen_72
  · have h := ineg c9 h
    refine lv_aload_n hx hb dX0_widen_24 rfl (lv_at hl 2 rfl) ?_
    refine va_get (D := (dC, dI)) (ci := 0) (v := .ref aB) (C := RX0) (T := TX0) (N := 6) hx hb hts k1 hown hK hP 0 rfl rfl 5 (by decide) k2 (fun _ h9 => h9) rfl dX0_widen_25 ?_
    refine lv_iload_n hx hb dX0_widen_28 rfl (lv_at hl 1 rfl) ?_
    obtain ⟨t6, e9, h⟩ := bd h
    refine q_iald hx hb hK hP 11 0 rfl rfl e9 dX0_widen_29 ?_
    refine lv_iconst (v := -1) hx hb dX0_widen_30 (by decide) ?_
    refine lv_icmp_eq (tgt := 38) hx hb dX0_widen_31 (by decide) (fun c9 => ?_) (fun c9 => ?_)
    · have h := ipos c9 h
      refine lv_iconst (v := 0) hx hb dX0_widen_38 (by decide) ?_
      refine lv_istore (lv' := [(5, .int 0), (4, .int r2), (3, .int r1), (0, .ref cf), (1, .int p0), (2, .int p1)]) hx hb dX0_widen_39 hl (by decide) rfl (fun ls hl => ?_)
      refine lv_iload hx hb dX0_widen_41 (lv_at hl 0 rfl) ?_
      refine lv_if_eq (tgt := 71) hx hb dX0_widen_43 (by decide) (fun _ => ?_) (fun c9 => absurd (by decide) c9)
      refine lv_iconst (v := 0) hx hb dX0_widen_71 (by decide) ?_
      cases h
      exact q_zret (b := false) hQ hx hb hr hlocks hP hK hD hS dX0_widen_72
    · have h := ineg c9 h
      refine lv_iconst (v := 1) hx hb dX0_widen_34 (by decide) ?_
      refine lv_goto (tgt := 39) hx hb dX0_widen_35 (by decide) ?_
      refine lv_istore (lv' := [(5, .int 1), (4, .int r2), (3, .int r1), (0, .ref cf), (1, .int p0), (2, .int p1)]) hx hb dX0_widen_39 hl (by decide) rfl (fun ls hl => ?_)
      refine lv_iload hx hb dX0_widen_41 (lv_at hl 0 rfl) ?_
      refine lv_if_eq (tgt := 71) hx hb dX0_widen_43 (by decide) (fun c9 => absurd c9 (by decide)) (fun _ => ?_)
      refine lv_iload hx hb dX0_widen_46 (lv_at hl 1 rfl) ?_
      refine lv_iload_n hx hb dX0_widen_48 rfl (lv_at hl 4 rfl) ?_
      refine lv_icmp_eq (tgt := 71) hx hb dX0_widen_49 (by decide) (fun c9 => ?_) (fun c9 => ?_)
      · have h := ipos c9 h
        refine lv_iconst (v := 0) hx hb dX0_widen_71 (by decide) ?_
        cases h
        exact q_zret (b := false) hQ hx hb hr hlocks hP hK hD hS dX0_widen_72
      · have h := ineg c9 h
        refine lv_aload_n hx hb dX0_widen_52 rfl (lv_at hl 3 rfl) ?_
        refine va_get (D := (dC, dI)) (ci := 0) (v := .ref aB) (C := RX0) (T := TX0) (N := 6) hx hb hts k1 hown hK hP 0 rfl rfl 5 (by decide) k2 (fun _ h9 => h9) rfl dX0_widen_53 ?_
        refine lv_iload hx hb dX0_widen_56 (lv_at hl 1 rfl) ?_
        obtain ⟨t7, e9, h⟩ := bd h
        refine q_iald hx hb hK hP 11 0 rfl rfl e9 dX0_widen_58 ?_
        refine lv_iconst (v := -1) hx hb dX0_widen_59 (by decide) ?_
        refine lv_icmp_ne (tgt := 71) hx hb dX0_widen_60 (by decide) (fun c9 => ?_) (fun c9 => ?_)
        · have h := ineg c9 h
          refine lv_iconst (v := 0) hx hb dX0_widen_71 (by decide) ?_
          cases h
          exact q_zret (b := false) hQ hx hb hr hlocks hP hK hD hS dX0_widen_72
        · have h := ipos c9 h
          refine lv_aload_n hx hb dX0_widen_63 rfl (lv_at hl 3 rfl) ?_
          refine lv_iload_n hx hb dX0_widen_64 rfl (lv_at hl 5 rfl) ?_
          obtain ⟨r8, e9, h⟩ := bd h
          refine q_callVi (ret := r8) (As := [.int p1]) (w1 := wX0 cyI cf nw aF aT aP aC aU aO aL aH aD aB nN nA nF nT nP nC nU cO cL cH cD cB) (ws2 := wX0 cyI cf nw aF aT aP aC aU aO aL aH aD aB nN nA nF nT nP nC nU cO cL cH cD cB) ⟨hx, hb, hml, hown, hts⟩ (c_X0_roomOf l dC dI cyI cf nw aF aT aP aC aU aO aL aH aD aB H.size nN nA nF nT nP nC nU cO cL cH cD cB p1 _ e9) (cwV 1 hts gX0_widen_X0_roomOf rfl rfl rfl (by decide +kernel) ⟨Nat.le_of_ble_eq_true rfl, Nat.le_of_ble_eq_true rfl⟩) hK hP hD hS hA [0, 1, 2, 3, 4, 5, 6, 7, 8, 9, 10, 11] [] [0, 1, 2, 3, 4, 5, 6, 7, 8, 9, 10, 11] [0] rfl rfl rfl rfl (by decide) rfl rfl rfl 0 0 rfl rfl rfl hl.1 (Nat.le_of_ble_eq_true rfl) (Nat.le_of_ble_eq_true rfl) (Nat.le_of_ble_eq_true rfl) rfl dX0_widen_65 (fun H locs hP hD hS => ?_)
          refine lv_if_gt (tgt := 73) hx hb dX0_widen_68 (by decide) (fun c9 => ?_) (fun c9 => ?_)
          · have h := ipos c9 h
            refine lv_aload_n hx hb dX0_widen_73 rfl (lv_at hl 3 rfl) ?_
            refine va_get (D := (dC, dI)) (ci := 0) (v := .ref aB) (C := RX0) (T := TX0) (N := 6) hx hb hts k1 hown hK hP 0 rfl rfl 5 (by decide) k2 (fun _ h9 => h9) rfl dX0_widen_74 ?_
            refine lv_iload hx hb dX0_widen_77 (lv_at hl 1 rfl) ?_
            refine lv_iload_n hx hb dX0_widen_79 rfl (lv_at hl 5 rfl) ?_
            obtain ⟨cB_9, e9, h⟩ := bd h
            refine q_iast (ws2 := wX0 cyI cf nw aF aT aP aC aU aO aL aH aD aB nN nA nF nT nP nC nU cO cL cH cD cB_9) hx hb hK hP hD hS 11 0 rfl rfl e9 dX0_widen_80 rfl (fun H locs hP hD hS => ?_)
            refine lv_iconst (v := 1) hx hb dX0_widen_81 (by decide) ?_
            cases h
            exact q_zret (b := true) hQ hx hb hr hlocks hP hK hD hS dX0_widen_82
          · have h := ineg c9 h
            refine lv_iconst (v := 0) hx hb dX0_widen_71 (by decide) ?_
            cases h
            exact q_zret (b := false) hQ hx hb hr hlocks hP hK hD hS dX0_widen_72
set_option maxHeartbeats 4000000 in
set_option maxRecDepth 100000 in
theorem c_X0_measure (l : Launch) (dC : Nat → ClassId) (dI : Nat → Nat → Nat) (cyI : ClassId) (cf nw aF aT aP aC aU aO aL aH aD aB : Nat) (sz : Nat) (nN nA : Int32) (nF nT nP nC nU cO cL cH cD cB : Nat → Int32) (N : Nat) (res : (Nat → Int32) × (Nat → Int32)) (h : pX0_measure N nN nA nF nT nC nU cO cL cH cD cB = some res) : Met l yX0_measure wsX0_measure { frames := 3, cells := 0, slots := 0, locals := 67 } (va_Pc [.ref cf] (zPre (dC, dI) (wX0 cyI cf nw aF aT aP aC aU aO aL aH aD aB nN nA nF nT nP nC nU cO cL cH cD cB) [(cyI, .int)] sz)) (zQv (dC, dI) (wX0 cyI cf nw aF aT aP aC aU aO aL aH aD aB nN nA nF nT nP nC nU cO cL cH res.1 res.2) [(cyI, .int)] (va_A (wX0 cyI cf nw aF aT aP aC aU aO aL aH aD aB nN nA nF nT nP nC nU cO cL cH cD cB) sz)) 0 0 (va_A (wX0 cyI cf nw aF aT aP aC aU aO aL aH aD aB nN nA nF nT nP nC nU cO cL cH cD cB) sz) := by
  refine q_ofWv (cc := cX0_measure) (maxL := 4) (rt := none) (by decide) rfl (Nat.le_of_ble_eq_true rfl) ?_
  intro p e s m args below meth c ls A Q H locs hQ hx hb hr hts hown hlocks hml hA hK hP hD hS hl
  have hl : lv_has ls 4 [(0, .ref cf)] := hl
  have k0 := hts (.fieldLink RX0 27 "ConvexConduit$CheapestFlow" "network" "LConvexConduit$Network;") (by decide +kernel)
  have k1 : ∀ w ∈ u_ws RX0 TX0 6, w ∈ wsX0_measure := by decide +kernel
  have k2 := hts (.fieldLink RX0 82 "ConvexConduit$Network" "nodes" "I") (by decide +kernel)
  have k3 : ∀ w ∈ u_ws RX2 TX2 7, w ∈ wsX0_measure := by decide +kernel
  unfold pX0_measure at h
  refine lv_iconst (v := 1) hx hb dX0_measure_0 (by decide) ?_
  refine lv_istore_n (lv' := [(1, .int 1), (0, .ref cf)]) hx hb dX0_measure_1 rfl hl (by decide) rfl (fun ls hl => ?_)
  refine lv_iconst (v := 0) hx hb dX0_measure_2 (by decide) ?_
  refine lv_istore_n (lv' := [(2, .int 0), (1, .int 1), (0, .ref cf)]) hx hb dX0_measure_3 rfl hl (by decide) rfl (fun ls hl => ?_)
  obtain ⟨x1_17, x2_18, cD_19, cB_20, e0, h⟩ := bd4 h
  have hT0 : ∀ (H : Heap) (locs : List Loc), va_P (dC, dI) vwCl (wX0 cyI cf nw aF aT aP aC aU aO aL aH aD aB nN nA nF nT nP nC nU cO cL cH cD_19 cB_20) H → va_D A (wX0 cyI cf nw aF aT aP aC aU aO aL aH aD aB nN nA nF nT nP nC nU cO cL cH cD_19 cB_20) → va_S A s.heap H locs → ∀ ls : Array Slot, lv_has ls 4 [(0, .ref cf), (1, .int x1_17), (2, .int x2_18)] → W p l e { frames := 3, cells := 0, slots := 0, locals := 67 } s m args below meth c H locs 0 0 Q (F0 m 54 ls []) := by
    intro H locs hP hD hS ls hl
    cases h
    exact q_vret hQ hx hb hr hlocks hP hK hD hS dX0_measure_54
  have hL0 : ∀ (n9 : Nat) (x1_1 : Int32) (x2_2 : Int32) (cD_3 : Nat → Int32) (cB_4 : Nat → Int32), lp (un4 (pX0_measure_l4 N cH cL cO nA nC nF nN nT nU)) n9 ((x1_1, x2_2, cD_3, cB_4)) = some ((x1_17, x2_18, cD_19, cB_20)) → ∀ (H : Heap) (locs : List Loc), va_P (dC, dI) vwCl (wX0 cyI cf nw aF aT aP aC aU aO aL aH aD aB nN nA nF nT nP nC nU cO cL cH cD_3 cB_4) H → va_D A (wX0 cyI cf nw aF aT aP aC aU aO aL aH aD aB nN nA nF nT nP nC nU cO cL cH cD_3 cB_4) → va_S A s.heap H locs → ∀ ls : Array Slot, lv_has ls 4 [(0, .ref cf), (1, .int x1_1), (2, .int x2_2)] → W p l e { frames := 3, cells := 0, slots := 0, locals := 67 } s m args below meth c H locs 0 0 Q (F0 m 4 ls []) := by
    intro n9
    induction n9 with
    | zero =>
      intro x1_1 x2_2 cD_3 cB_4 h
      exact lp0 h
    | succ n9 ih0 =>
      intro x1_1 x2_2 cD_3 cB_4 h H locs hP hD hS ls hl
      obtain ⟨o9, g, h⟩ := lps h
      replace g : pX0_measure_l4 N cH cL cO nA nC nF nN nT nU x1_1 x2_2 cD_3 cB_4 = some o9 := g
      unfold pX0_measure_l4 at g
      refine lv_iload_n hx hb dX0_measure_4 rfl (lv_at hl 2 rfl) ?_
      refine lv_aload_n hx hb dX0_measure_5 rfl (lv_at hl 0 rfl) ?_
      refine va_get (D := (dC, dI)) (ci := 0) (v := .ref nw) (C := RX0) (T := TX0) (N := 6) hx hb hts k1 hown hK hP 0 rfl rfl 0 (by decide) k0 (fun _ h9 => h9) rfl dX0_measure_6 ?_
      refine va_get (D := (dC, dI)) (ci := 2) (v := .int nN) (C := RX2) (T := TX2) (N := 7) hx hb hts k3 hown hK hP 1 rfl rfl 0 (by decide) k2 (fun _ h9 => h9) rfl dX0_measure_9 ?_
      refine lv_icmp_ge (tgt := 54) hx hb dX0_measure_12 (by decide) (fun c9 => ?_) (fun c9 => ?_)
      · have g := ipos c9 g
        cases g
        have h := lpx h
        cases h
        exact hT0 _ _ hP hD hS _ (lv_sub hl [0, 1, 2] rfl)
      · have g := ineg c9 g
        refine lv_iload_n hx hb dX0_measure_15 rfl (lv_at hl 1 rfl) ?_
        refine lv_if_eq (tgt := 54) hx hb dX0_measure_16 (by decide) (fun c9 => ?_) (fun c9 => ?_)
        · have g := ipos c9 g
          cases g
          have h := lpx h
          cases h
          exact hT0 _ _ hP hD hS _ (lv_sub hl [0, 1, 2] rfl)
        · have g := ineg c9 g
          refine lv_iconst (v := 0) hx hb dX0_measure_19 (by decide) ?_
          refine lv_istore_n (lv' := [(1, .int 0), (0, .ref cf), (2, .int x2_2)]) hx hb dX0_measure_20 rfl hl (by decide) rfl (fun ls hl => ?_)
          refine lv_iconst (v := 0) hx hb dX0_measure_21 (by decide) ?_
          refine lv_istore_n (lv' := [(3, .int 0), (1, .int 0), (0, .ref cf), (2, .int x2_2)]) hx hb dX0_measure_22 rfl hl (by decide) rfl (fun ls hl => ?_)
          obtain ⟨x1_13, x3_14, cD_15, cB_16, e1, g⟩ := bd4 g
          have hT1 : ∀ (H : Heap) (locs : List Loc), va_P (dC, dI) vwCl (wX0 cyI cf nw aF aT aP aC aU aO aL aH aD aB nN nA nF nT nP nC nU cO cL cH cD_15 cB_16) H → va_D A (wX0 cyI cf nw aF aT aP aC aU aO aL aH aD aB nN nA nF nT nP nC nU cO cL cH cD_15 cB_16) → va_S A s.heap H locs → ∀ ls : Array Slot, lv_has ls 4 [(0, .ref cf), (1, .int x1_13), (2, .int x2_2), (3, .int x3_14)] → W p l e { frames := 3, cells := 0, slots := 0, locals := 67 } s m args below meth c H locs 0 0 Q (F0 m 48 ls []) := by
            intro H locs hP hD hS ls hl
            refine lv_iinc (v := x2_2 + 1) (lv' := [(2, .int (x2_2 + 1)), (0, .ref cf), (1, .int x1_13), (3, .int x3_14)]) hx hb dX0_measure_48 hl (k := 2) rfl (by rfl) (by decide) rfl (fun ls hl => ?_)
            refine lv_goto (tgt := 4) hx hb dX0_measure_51 (by decide) ?_
            cases g
            exact ih0 _ _ _ _ h _ _ hP hD hS _ (lv_sub hl [1, 2, 0] rfl)
          have hL1 : ∀ (n9 : Nat) (x1_5 : Int32) (x3_6 : Int32) (cD_7 : Nat → Int32) (cB_8 : Nat → Int32), lp (un4 (pX0_measure_l23 cH cL cO nA nC nF nT nU)) n9 ((x1_5, x3_6, cD_7, cB_8)) = some ((x1_13, x3_14, cD_15, cB_16)) → ∀ (H : Heap) (locs : List Loc), va_P (dC, dI) vwCl (wX0 cyI cf nw aF aT aP aC aU aO aL aH aD aB nN nA nF nT nP nC nU cO cL cH cD_7 cB_8) H → va_D A (wX0 cyI cf nw aF aT aP aC aU aO aL aH aD aB nN nA nF nT nP nC nU cO cL cH cD_7 cB_8) → va_S A s.heap H locs → ∀ ls : Array Slot, lv_has ls 4 [(0, .ref cf), (1, .int x1_5), (2, .int x2_2), (3, .int x3_6)] → W p l e { frames := 3, cells := 0, slots := 0, locals := 67 } s m args below meth c H locs 0 0 Q (F0 m 23 ls []) := by
            intro n9
            induction n9 with
            | zero =>
              intro x1_5 x3_6 cD_7 cB_8 h
              exact lp0 h
            | succ n9 ih1 =>
              intro x1_5 x3_6 cD_7 cB_8 h H locs hP hD hS ls hl
              obtain ⟨o9, g, h⟩ := lps h
              replace g : pX0_measure_l23 cH cL cO nA nC nF nT nU x1_5 x3_6 cD_7 cB_8 = some o9 := g
              unfold pX0_measure_l23 at g
              refine lv_iload_n hx hb dX0_measure_23 rfl (lv_at hl 3 rfl) ?_
              refine lv_aload_n hx hb dX0_measure_24 rfl (lv_at hl 0 rfl) ?_
              refine va_get (D := (dC, dI)) (ci := 0) (v := .ref nw) (C := RX0) (T := TX0) (N := 6) hx hb hts k1 hown hK hP 0 rfl rfl 0 (by decide) k0 (fun _ h9 => h9) rfl dX0_measure_25 ?_
              obtain ⟨r9, e9, g⟩ := bd g
              refine q_callVi (ret := r9) (As := []) (w1 := wX2 cyI nw aF aT aP aC aU nN nA nF nT nP nC nU) (ws2 := wX0 cyI cf nw aF aT aP aC aU aO aL aH aD aB nN nA nF nT nP nC nU cO cL cH cD_7 cB_8) ⟨hx, hb, hml, hown, hts⟩ (c_X2_steps l dC dI cyI nw aF aT aP aC aU H.size nN nA nF nT nP nC nU _ e9) (cwV 0 hts gX0_measure_X2_steps rfl rfl rfl (by decide +kernel) ⟨Nat.le_of_ble_eq_true rfl, Nat.le_of_ble_eq_true rfl⟩) hK hP hD hS hA [1, 2, 3, 4, 5, 6] [0, 7, 8, 9, 10, 11] [0, 6, 7, 8, 9, 10, 11, 1, 2, 3, 4, 5] [0] rfl rfl rfl rfl (by decide) rfl rfl rfl 2 0 rfl rfl rfl hl.1 (Nat.le_of_ble_eq_true rfl) (Nat.le_of_ble_eq_true rfl) (Nat.le_of_ble_eq_true rfl) rfl dX0_measure_28 (fun H locs hP hD hS => ?_)
              refine lv_icmp_ge (tgt := 48) hx hb dX0_measure_31 (by decide) (fun c9 => ?_) (fun c9 => ?_)
              · have g := ipos c9 g
                cases g
                have h := lpx h
                cases h
                exact hT1 _ _ hP hD hS _ (lv_sub hl [0, 1, 2, 3] rfl)
              · have g := ineg c9 g
                refine lv_iload_n hx hb dX0_measure_34 rfl (lv_at hl 1 rfl) ?_
                refine lv_aload_n hx hb dX0_measure_35 rfl (lv_at hl 0 rfl) ?_
                refine lv_iload_n hx hb dX0_measure_36 rfl (lv_at hl 3 rfl) ?_
                obtain ⟨b10, cD_11, cB_12, e9, g⟩ := bd3 g
                refine q_callVi (ret := b2i b10) (As := [.int x3_6]) (w1 := wX0 cyI cf nw aF aT aP aC aU aO aL aH aD aB nN nA nF nT nP nC nU cO cL cH cD_11 cB_12) (ws2 := wX0 cyI cf nw aF aT aP aC aU aO aL aH aD aB nN nA nF nT nP nC nU cO cL cH cD_11 cB_12) ⟨hx, hb, hml, hown, hts⟩ (c_X0_shorten l dC dI cyI cf nw aF aT aP aC aU aO aL aH aD aB H.size nN nA nF nT nP nC nU cO cL cH cD_7 cB_8 x3_6 _ e9) (cwV 1 hts gX0_measure_X0_shorten rfl rfl rfl (by decide +kernel) ⟨Nat.le_of_ble_eq_true rfl, Nat.le_of_ble_eq_true rfl⟩) hK hP hD hS hA [0, 1, 2, 3, 4, 5, 6, 7, 8, 9, 10, 11] [] [0, 1, 2, 3, 4, 5, 6, 7, 8, 9, 10, 11] [0] rfl rfl rfl rfl (by decide) rfl rfl rfl 0 0 rfl rfl rfl hl.1 (Nat.le_of_ble_eq_true rfl) (Nat.le_of_ble_eq_true rfl) (Nat.le_of_ble_eq_true rfl) rfl dX0_measure_37 (fun H locs hP hD hS => ?_)
                refine lv_ior hx hb dX0_measure_40 ?_
                refine lv_istore_n (lv' := [(1, .int (x1_5 ||| (b2i b10))), (0, .ref cf), (2, .int x2_2), (3, .int x3_6)]) hx hb dX0_measure_41 rfl hl (by decide) rfl (fun ls hl => ?_)
                refine lv_iinc (v := x3_6 + 1) (lv' := [(3, .int (x3_6 + 1)), (1, .int (x1_5 ||| (b2i b10))), (0, .ref cf), (2, .int x2_2)]) hx hb dX0_measure_42 hl (k := 3) rfl (by rfl) (by decide) rfl (fun ls hl => ?_)
                refine lv_goto (tgt := 23) hx hb dX0_measure_45 (by decide) ?_
                cases g
                exact ih1 _ _ _ _ h _ _ hP hD hS _ (lv_sub hl [2, 1, 3, 0] rfl)
          exact hL1 N _ _ _ _  e1 _ _ hP hD hS _ (lv_sub hl [2, 1, 3, 0] rfl)
  exact hL0 N _ _ _ _  e0 _ _ hP hD hS _ (lv_sub hl [2, 1, 0] rfl)
set_option maxHeartbeats 4000000 in
set_option maxRecDepth 100000 in
theorem c_X0_measureFrom (l : Launch) (dC : Nat → ClassId) (dI : Nat → Nat → Nat) (cyI : ClassId) (cf nw aF aT aP aC aU aO aL aH aD aB : Nat) (sz : Nat) (nN nA : Int32) (nF nT nP nC nU cO cL cH cD cB : Nat → Int32) (p0 : Int32) (N : Nat) (res : (Nat → Int32) × (Nat → Int32)) (h : pX0_measureFrom N nN nA nF nT nC nU cO cL cH cD cB p0 = some res) : Met l yX0_measureFrom wsX0_measureFrom { frames := 4, cells := 0, slots := 0, locals := 90 } (va_Pc [.ref cf, .int p0] (zPre (dC, dI) (wX0 cyI cf nw aF aT aP aC aU aO aL aH aD aB nN nA nF nT nP nC nU cO cL cH cD cB) [(cyI, .int)] sz)) (zQv (dC, dI) (wX0 cyI cf nw aF aT aP aC aU aO aL aH aD aB nN nA nF nT nP nC nU cO cL cH res.1 res.2) [(cyI, .int)] (va_A (wX0 cyI cf nw aF aT aP aC aU aO aL aH aD aB nN nA nF nT nP nC nU cO cL cH cD cB) sz)) 0 0 (va_A (wX0 cyI cf nw aF aT aP aC aU aO aL aH aD aB nN nA nF nT nP nC nU cO cL cH cD cB) sz) := by
  refine q_ofWv (cc := cX0_measureFrom) (maxL := 3) (rt := none) (by decide) rfl (Nat.le_of_ble_eq_true rfl) ?_
  intro p e s m args below meth c ls A Q H locs hQ hx hb hr hts hown hlocks hml hA hK hP hD hS hl
  have hl : lv_has ls 3 [(0, .ref cf), (1, .int p0)] := hl
  have k0 := hts (.fieldLink RX0 27 "ConvexConduit$CheapestFlow" "network" "LConvexConduit$Network;") (by decide +kernel)
  have k1 : ∀ w ∈ u_ws RX0 TX0 6, w ∈ wsX0_measureFrom := by decide +kernel
  have k2 := hts (.fieldLink RX0 82 "ConvexConduit$Network" "nodes" "I") (by decide +kernel)
  have k3 : ∀ w ∈ u_ws RX2 TX2 7, w ∈ wsX0_measureFrom := by decide +kernel
  have k4 := hts (.fieldLink RX0 21 "ConvexConduit$CheapestFlow" "distance" "[I") (by decide +kernel)
  have k5 := hts (.constant RX0 55 (1000000)) (by decide +kernel)
  have k6 := hts (.fieldLink RX0 24 "ConvexConduit$CheapestFlow" "cameBy" "[I") (by decide +kernel)
  unfold pX0_measureFrom at h
  refine lv_iconst (v := 0) hx hb dX0_measureFrom_0 (by decide) ?_
  refine lv_istore_n (lv' := [(2, .int 0), (0, .ref cf), (1, .int p0)]) hx hb dX0_measureFrom_1 rfl hl (by decide) rfl (fun ls hl => ?_)
  obtain ⟨x2_8, cD_9, cB_10, e0, h⟩ := bd3 h
  have hT0 : ∀ (H : Heap) (locs : List Loc), va_P (dC, dI) vwCl (wX0 cyI cf nw aF aT aP aC aU aO aL aH aD aB nN nA nF nT nP nC nU cO cL cH cD_9 cB_10) H → va_D A (wX0 cyI cf nw aF aT aP aC aU aO aL aH aD aB nN nA nF nT nP nC nU cO cL cH cD_9 cB_10) → va_S A s.heap H locs → ∀ ls : Array Slot, lv_has ls 3 [(0, .ref cf), (1, .int p0), (2, .int x2_8)] → W p l e { frames := 4, cells := 0, slots := 0, locals := 90 } s m args below meth c H locs 0 0 Q (F0 m 43 ls []) := by
    intro H locs hP hD hS ls hl
    refine lv_aload_n hx hb dX0_measureFrom_43 rfl (lv_at hl 0 rfl) ?_
    obtain ⟨cD_11, cB_12, e9, h⟩ := bd2 h
    refine q_callVv (As := []) (w1 := wX0 cyI cf nw aF aT aP aC aU aO aL aH aD aB nN nA nF nT nP nC nU cO cL cH cD_11 cB_12) (ws2 := wX0 cyI cf nw aF aT aP aC aU aO aL aH aD aB nN nA nF nT nP nC nU cO cL cH cD_11 cB_12) ⟨hx, hb, hml, hown, hts⟩ (c_X0_measure l dC dI cyI cf nw aF aT aP aC aU aO aL aH aD aB H.size nN nA nF nT nP nC nU cO cL cH cD_9 cB_10 N _ e9) (cwV 0 hts gX0_measureFrom_X0_measure rfl rfl rfl (by decide +kernel) ⟨Nat.le_of_ble_eq_true rfl, Nat.le_of_ble_eq_true rfl⟩) hK hP hD hS hA [0, 1, 2, 3, 4, 5, 6, 7, 8, 9, 10, 11] [] [0, 1, 2, 3, 4, 5, 6, 7, 8, 9, 10, 11] [0] rfl rfl rfl rfl (by decide) rfl rfl rfl 0 0 rfl rfl rfl hl.1 (Nat.le_of_ble_eq_true rfl) (Nat.le_of_ble_eq_true rfl) (Nat.le_of_ble_eq_true rfl) rfl dX0_measureFrom_44 (fun H locs hP hD hS => ?_)
    cases h
    exact q_vret hQ hx hb hr hlocks hP hK hD hS dX0_measureFrom_47
  have hL0 : ∀ (n9 : Nat) (x2_1 : Int32) (cD_2 : Nat → Int32) (cB_3 : Nat → Int32), lp (un3 (pX0_measureFrom_l2 nN p0)) n9 ((x2_1, cD_2, cB_3)) = some ((x2_8, cD_9, cB_10)) → ∀ (H : Heap) (locs : List Loc), va_P (dC, dI) vwCl (wX0 cyI cf nw aF aT aP aC aU aO aL aH aD aB nN nA nF nT nP nC nU cO cL cH cD_2 cB_3) H → va_D A (wX0 cyI cf nw aF aT aP aC aU aO aL aH aD aB nN nA nF nT nP nC nU cO cL cH cD_2 cB_3) → va_S A s.heap H locs → ∀ ls : Array Slot, lv_has ls 3 [(0, .ref cf), (1, .int p0), (2, .int x2_1)] → W p l e { frames := 4, cells := 0, slots := 0, locals := 90 } s m args below meth c H locs 0 0 Q (F0 m 2 ls []) := by
    intro n9
    induction n9 with
    | zero =>
      intro x2_1 cD_2 cB_3 h
      exact lp0 h
    | succ n9 ih0 =>
      intro x2_1 cD_2 cB_3 h H locs hP hD hS ls hl
      obtain ⟨o9, g, h⟩ := lps h
      replace g : pX0_measureFrom_l2 nN p0 x2_1 cD_2 cB_3 = some o9 := g
      unfold pX0_measureFrom_l2 at g
      refine lv_iload_n hx hb dX0_measureFrom_2 rfl (lv_at hl 2 rfl) ?_
      refine lv_aload_n hx hb dX0_measureFrom_3 rfl (lv_at hl 0 rfl) ?_
      refine va_get (D := (dC, dI)) (ci := 0) (v := .ref nw) (C := RX0) (T := TX0) (N := 6) hx hb hts k1 hown hK hP 0 rfl rfl 0 (by decide) k0 (fun _ h9 => h9) rfl dX0_measureFrom_4 ?_
      refine va_get (D := (dC, dI)) (ci := 2) (v := .int nN) (C := RX2) (T := TX2) (N := 7) hx hb hts k3 hown hK hP 1 rfl rfl 0 (by decide) k2 (fun _ h9 => h9) rfl dX0_measureFrom_7 ?_
      refine lv_icmp_ge (tgt := 43) hx hb dX0_measureFrom_10 (by decide) (fun c9 => ?_) (fun c9 => ?_)
      · have g := ipos c9 g
        cases g
        have h := lpx h
        cases h
        exact hT0 _ _ hP hD hS _ (lv_sub hl [0, 1, 2] rfl)
      · have g := ineg c9 g
        refine lv_aload_n hx hb dX0_measureFrom_13 rfl (lv_at hl 0 rfl) ?_
        refine va_get (D := (dC, dI)) (ci := 0) (v := .ref aD) (C := RX0) (T := TX0) (N := 6) hx hb hts k1 hown hK hP 0 rfl rfl 4 (by decide) k4 (fun _ h9 => h9) rfl dX0_measureFrom_14 ?_
        refine lv_iload_n hx hb dX0_measureFrom_17 rfl (lv_at hl 2 rfl) ?_
        refine lv_iload_n hx hb dX0_measureFrom_18 rfl (lv_at hl 2 rfl) ?_
        refine lv_iload_n hx hb dX0_measureFrom_19 rfl (lv_at hl 1 rfl) ?_
        refine lv_icmp_ne (tgt := 27) hx hb dX0_measureFrom_20 (by decide) (fun c9 => ?_) (fun c9 => ?_)
        · have g := ineg c9 g
          refine lv_ldc (own := RX0) (v := 1000000) hx hb hown k5 dX0_measureFrom_27 ?_
          obtain ⟨cD_4, e9, g⟩ := bd g
          refine q_iast (ws2 := wX0 cyI cf nw aF aT aP aC aU aO aL aH aD aB nN nA nF nT nP nC nU cO cL cH cD_4 cB_3) hx hb hK hP hD hS 10 0 rfl rfl e9 dX0_measureFrom_29 rfl (fun H locs hP hD hS => ?_)
          refine lv_aload_n hx hb dX0_measureFrom_30 rfl (lv_at hl 0 rfl) ?_
          refine va_get (D := (dC, dI)) (ci := 0) (v := .ref aB) (C := RX0) (T := TX0) (N := 6) hx hb hts k1 hown hK hP 0 rfl rfl 5 (by decide) k6 (fun _ h9 => h9) rfl dX0_measureFrom_31 ?_
          refine lv_iload_n hx hb dX0_measureFrom_34 rfl (lv_at hl 2 rfl) ?_
          refine lv_iconst (v := -1) hx hb dX0_measureFrom_35 (by decide) ?_
          obtain ⟨cB_5, e9, g⟩ := bd g
          refine q_iast (ws2 := wX0 cyI cf nw aF aT aP aC aU aO aL aH aD aB nN nA nF nT nP nC nU cO cL cH cD_4 cB_5) hx hb hK hP hD hS 11 0 rfl rfl e9 dX0_measureFrom_36 rfl (fun H locs hP hD hS => ?_)
          refine lv_iinc (v := x2_1 + 1) (lv' := [(2, .int (x2_1 + 1)), (0, .ref cf), (1, .int p0)]) hx hb dX0_measureFrom_37 hl (k := 2) rfl (by rfl) (by decide) rfl (fun ls hl => ?_)
          refine lv_goto (tgt := 2) hx hb dX0_measureFrom_40 (by decide) ?_
          cases g
          exact ih0 _ _ _ h _ _ hP hD hS _ (lv_sub hl [1, 2, 0] rfl)
        · have g := ipos c9 g
          refine lv_iconst (v := 0) hx hb dX0_measureFrom_23 (by decide) ?_
          refine lv_goto (tgt := 29) hx hb dX0_measureFrom_24 (by decide) ?_
          obtain ⟨cD_6, e9, g⟩ := bd g
          refine q_iast (ws2 := wX0 cyI cf nw aF aT aP aC aU aO aL aH aD aB nN nA nF nT nP nC nU cO cL cH cD_6 cB_3) hx hb hK hP hD hS 10 0 rfl rfl e9 dX0_measureFrom_29 rfl (fun H locs hP hD hS => ?_)
          refine lv_aload_n hx hb dX0_measureFrom_30 rfl (lv_at hl 0 rfl) ?_
          refine va_get (D := (dC, dI)) (ci := 0) (v := .ref aB) (C := RX0) (T := TX0) (N := 6) hx hb hts k1 hown hK hP 0 rfl rfl 5 (by decide) k6 (fun _ h9 => h9) rfl dX0_measureFrom_31 ?_
          refine lv_iload_n hx hb dX0_measureFrom_34 rfl (lv_at hl 2 rfl) ?_
          refine lv_iconst (v := -1) hx hb dX0_measureFrom_35 (by decide) ?_
          obtain ⟨cB_7, e9, g⟩ := bd g
          refine q_iast (ws2 := wX0 cyI cf nw aF aT aP aC aU aO aL aH aD aB nN nA nF nT nP nC nU cO cL cH cD_6 cB_7) hx hb hK hP hD hS 11 0 rfl rfl e9 dX0_measureFrom_36 rfl (fun H locs hP hD hS => ?_)
          refine lv_iinc (v := x2_1 + 1) (lv' := [(2, .int (x2_1 + 1)), (0, .ref cf), (1, .int p0)]) hx hb dX0_measureFrom_37 hl (k := 2) rfl (by rfl) (by decide) rfl (fun ls hl => ?_)
          refine lv_goto (tgt := 2) hx hb dX0_measureFrom_40 (by decide) ?_
          cases g
          exact ih0 _ _ _ h _ _ hP hD hS _ (lv_sub hl [1, 2, 0] rfl)
  exact hL0 N _ _ _  e0 _ _ hP hD hS _ (lv_sub hl [1, 2, 0] rfl)
set_option maxHeartbeats 4000000 in
set_option maxRecDepth 100000 in
theorem c_X0_measureFromAll (l : Launch) (dC : Nat → ClassId) (dI : Nat → Nat → Nat) (cyI : ClassId) (cf nw aF aT aP aC aU aO aL aH aD aB : Nat) (sz : Nat) (nN nA : Int32) (nF nT nP nC nU cO cL cH cD cB : Nat → Int32) (N : Nat) (res : (Nat → Int32) × (Nat → Int32)) (h : pX0_measureFromAll N nN nA nF nT nC nU cO cL cH cD cB = some res) : Met l yX0_measureFromAll wsX0_measureFromAll { frames := 4, cells := 0, slots := 0, locals := 90 } (va_Pc [.ref cf] (zPre (dC, dI) (wX0 cyI cf nw aF aT aP aC aU aO aL aH aD aB nN nA nF nT nP nC nU cO cL cH cD cB) [(cyI, .int)] sz)) (zQv (dC, dI) (wX0 cyI cf nw aF aT aP aC aU aO aL aH aD aB nN nA nF nT nP nC nU cO cL cH res.1 res.2) [(cyI, .int)] (va_A (wX0 cyI cf nw aF aT aP aC aU aO aL aH aD aB nN nA nF nT nP nC nU cO cL cH cD cB) sz)) 0 0 (va_A (wX0 cyI cf nw aF aT aP aC aU aO aL aH aD aB nN nA nF nT nP nC nU cO cL cH cD cB) sz) := by
  refine q_ofWv (cc := cX0_measureFromAll) (maxL := 2) (rt := none) (by decide) rfl (Nat.le_of_ble_eq_true rfl) ?_
  intro p e s m args below meth c ls A Q H locs hQ hx hb hr hts hown hlocks hml hA hK hP hD hS hl
  have hl : lv_has ls 2 [(0, .ref cf)] := hl
  have k0 := hts (.fieldLink RX0 27 "ConvexConduit$CheapestFlow" "network" "LConvexConduit$Network;") (by decide +kernel)
  have k1 : ∀ w ∈ u_ws RX0 TX0 6, w ∈ wsX0_measureFromAll := by decide +kernel
  have k2 := hts (.fieldLink RX0 82 "ConvexConduit$Network" "nodes" "I") (by decide +kernel)
  have k3 : ∀ w ∈ u_ws RX2 TX2 7, w ∈ wsX0_measureFromAll := by decide +kernel
  have k4 := hts (.fieldLink RX0 21 "ConvexConduit$CheapestFlow" "distance" "[I") (by decide +kernel)
  have k5 := hts (.fieldLink RX0 24 "ConvexConduit$CheapestFlow" "cameBy" "[I") (by decide +kernel)
  unfold pX0_measureFromAll at h
  refine lv_iconst (v := 0) hx hb dX0_measureFromAll_0 (by decide) ?_
  refine lv_istore_n (lv' := [(1, .int 0), (0, .ref cf)]) hx hb dX0_measureFromAll_1 rfl hl (by decide) rfl (fun ls hl => ?_)
  obtain ⟨x1_6, cD_7, cB_8, e0, h⟩ := bd3 h
  have hT0 : ∀ (H : Heap) (locs : List Loc), va_P (dC, dI) vwCl (wX0 cyI cf nw aF aT aP aC aU aO aL aH aD aB nN nA nF nT nP nC nU cO cL cH cD_7 cB_8) H → va_D A (wX0 cyI cf nw aF aT aP aC aU aO aL aH aD aB nN nA nF nT nP nC nU cO cL cH cD_7 cB_8) → va_S A s.heap H locs → ∀ ls : Array Slot, lv_has ls 2 [(0, .ref cf), (1, .int x1_6)] → W p l e { frames := 4, cells := 0, slots := 0, locals := 90 } s m args below meth c H locs 0 0 Q (F0 m 33 ls []) := by
    intro H locs hP hD hS ls hl
    refine lv_aload_n hx hb dX0_measureFromAll_33 rfl (lv_at hl 0 rfl) ?_
    obtain ⟨cD_9, cB_10, e9, h⟩ := bd2 h
    refine q_callVv (As := []) (w1 := wX0 cyI cf nw aF aT aP aC aU aO aL aH aD aB nN nA nF nT nP nC nU cO cL cH cD_9 cB_10) (ws2 := wX0 cyI cf nw aF aT aP aC aU aO aL aH aD aB nN nA nF nT nP nC nU cO cL cH cD_9 cB_10) ⟨hx, hb, hml, hown, hts⟩ (c_X0_measure l dC dI cyI cf nw aF aT aP aC aU aO aL aH aD aB H.size nN nA nF nT nP nC nU cO cL cH cD_7 cB_8 N _ e9) (cwV 0 hts gX0_measureFromAll_X0_measure rfl rfl rfl (by decide +kernel) ⟨Nat.le_of_ble_eq_true rfl, Nat.le_of_ble_eq_true rfl⟩) hK hP hD hS hA [0, 1, 2, 3, 4, 5, 6, 7, 8, 9, 10, 11] [] [0, 1, 2, 3, 4, 5, 6, 7, 8, 9, 10, 11] [0] rfl rfl rfl rfl (by decide) rfl rfl rfl 0 0 rfl rfl rfl hl.1 (Nat.le_of_ble_eq_true rfl) (Nat.le_of_ble_eq_true rfl) (Nat.le_of_ble_eq_true rfl) rfl dX0_measureFromAll_34 (fun H locs hP hD hS => ?_)
    cases h
    exact q_vret hQ hx hb hr hlocks hP hK hD hS dX0_measureFromAll_37
  have hL0 : ∀ (n9 : Nat) (x1_1 : Int32) (cD_2 : Nat → Int32) (cB_3 : Nat → Int32), lp (un3 (pX0_measureFromAll_l2 nN)) n9 ((x1_1, cD_2, cB_3)) = some ((x1_6, cD_7, cB_8)) → ∀ (H : Heap) (locs : List Loc), va_P (dC, dI) vwCl (wX0 cyI cf nw aF aT aP aC aU aO aL aH aD aB nN nA nF nT nP nC nU cO cL cH cD_2 cB_3) H → va_D A (wX0 cyI cf nw aF aT aP aC aU aO aL aH aD aB nN nA nF nT nP nC nU cO cL cH cD_2 cB_3) → va_S A s.heap H locs → ∀ ls : Array Slot, lv_has ls 2 [(0, .ref cf), (1, .int x1_1)] → W p l e { frames := 4, cells := 0, slots := 0, locals := 90 } s m args below meth c H locs 0 0 Q (F0 m 2 ls []) := by
    intro n9
    induction n9 with
    | zero =>
      intro x1_1 cD_2 cB_3 h
      exact lp0 h
    | succ n9 ih0 =>
      intro x1_1 cD_2 cB_3 h H locs hP hD hS ls hl
      obtain ⟨o9, g, h⟩ := lps h
      replace g : pX0_measureFromAll_l2 nN x1_1 cD_2 cB_3 = some o9 := g
      unfold pX0_measureFromAll_l2 at g
      refine lv_iload_n hx hb dX0_measureFromAll_2 rfl (lv_at hl 1 rfl) ?_
      refine lv_aload_n hx hb dX0_measureFromAll_3 rfl (lv_at hl 0 rfl) ?_
      refine va_get (D := (dC, dI)) (ci := 0) (v := .ref nw) (C := RX0) (T := TX0) (N := 6) hx hb hts k1 hown hK hP 0 rfl rfl 0 (by decide) k0 (fun _ h9 => h9) rfl dX0_measureFromAll_4 ?_
      refine va_get (D := (dC, dI)) (ci := 2) (v := .int nN) (C := RX2) (T := TX2) (N := 7) hx hb hts k3 hown hK hP 1 rfl rfl 0 (by decide) k2 (fun _ h9 => h9) rfl dX0_measureFromAll_7 ?_
      refine lv_icmp_ge (tgt := 33) hx hb dX0_measureFromAll_10 (by decide) (fun c9 => ?_) (fun c9 => ?_)
      · have g := ipos c9 g
        cases g
        have h := lpx h
        cases h
        exact hT0 _ _ hP hD hS _ (lv_sub hl [0, 1] rfl)
      · have g := ineg c9 g
        refine lv_aload_n hx hb dX0_measureFromAll_13 rfl (lv_at hl 0 rfl) ?_
        refine va_get (D := (dC, dI)) (ci := 0) (v := .ref aD) (C := RX0) (T := TX0) (N := 6) hx hb hts k1 hown hK hP 0 rfl rfl 4 (by decide) k4 (fun _ h9 => h9) rfl dX0_measureFromAll_14 ?_
        refine lv_iload_n hx hb dX0_measureFromAll_17 rfl (lv_at hl 1 rfl) ?_
        refine lv_iconst (v := 0) hx hb dX0_measureFromAll_18 (by decide) ?_
        obtain ⟨cD_4, e9, g⟩ := bd g
        refine q_iast (ws2 := wX0 cyI cf nw aF aT aP aC aU aO aL aH aD aB nN nA nF nT nP nC nU cO cL cH cD_4 cB_3) hx hb hK hP hD hS 10 0 rfl rfl e9 dX0_measureFromAll_19 rfl (fun H locs hP hD hS => ?_)
        refine lv_aload_n hx hb dX0_measureFromAll_20 rfl (lv_at hl 0 rfl) ?_
        refine va_get (D := (dC, dI)) (ci := 0) (v := .ref aB) (C := RX0) (T := TX0) (N := 6) hx hb hts k1 hown hK hP 0 rfl rfl 5 (by decide) k5 (fun _ h9 => h9) rfl dX0_measureFromAll_21 ?_
        refine lv_iload_n hx hb dX0_measureFromAll_24 rfl (lv_at hl 1 rfl) ?_
        refine lv_iconst (v := -1) hx hb dX0_measureFromAll_25 (by decide) ?_
        obtain ⟨cB_5, e9, g⟩ := bd g
        refine q_iast (ws2 := wX0 cyI cf nw aF aT aP aC aU aO aL aH aD aB nN nA nF nT nP nC nU cO cL cH cD_4 cB_5) hx hb hK hP hD hS 11 0 rfl rfl e9 dX0_measureFromAll_26 rfl (fun H locs hP hD hS => ?_)
        refine lv_iinc (v := x1_1 + 1) (lv' := [(1, .int (x1_1 + 1)), (0, .ref cf)]) hx hb dX0_measureFromAll_27 hl (k := 1) rfl (by rfl) (by decide) rfl (fun ls hl => ?_)
        refine lv_goto (tgt := 2) hx hb dX0_measureFromAll_30 (by decide) ?_
        cases g
        exact ih0 _ _ _ h _ _ hP hD hS _ (lv_sub hl [1, 0] rfl)
  exact hL0 N _ _ _  e0 _ _ hP hD hS _ (lv_sub hl [1, 0] rfl)
set_option maxHeartbeats 4000000 in
set_option maxRecDepth 100000 in
theorem c_X0_spreadFrom (l : Launch) (dC : Nat → ClassId) (dI : Nat → Nat → Nat) (cyI : ClassId) (cf nw aF aT aP aC aU aO aL aH aD aB : Nat) (sz : Nat) (nN nA : Int32) (nF nT nP nC nU cO cL cH cD cB : Nat → Int32) (p0 : Int32) (N : Nat) (res : (Nat → Int32)) (h : pX0_spreadFrom N nN nA nF nT cO cL cH cB p0 = some res) : Met l yX0_spreadFrom wsX0_spreadFrom { frames := 3, cells := 0, slots := 0, locals := 67 } (va_Pc [.ref cf, .int p0] (zPre (dC, dI) (wX0 cyI cf nw aF aT aP aC aU aO aL aH aD aB nN nA nF nT nP nC nU cO cL cH cD cB) [(cyI, .int)] sz)) (zQv (dC, dI) (wX0 cyI cf nw aF aT aP aC aU aO aL aH aD aB nN nA nF nT nP nC nU cO cL cH cD res) [(cyI, .int)] (va_A (wX0 cyI cf nw aF aT aP aC aU aO aL aH aD aB nN nA nF nT nP nC nU cO cL cH cD cB) sz)) 0 0 (va_A (wX0 cyI cf nw aF aT aP aC aU aO aL aH aD aB nN nA nF nT nP nC nU cO cL cH cD cB) sz) := by
  refine q_ofWv (cc := cX0_spreadFrom) (maxL := 5) (rt := none) (by decide) rfl (Nat.le_of_ble_eq_true rfl) ?_
  intro p e s m args below meth c ls A Q H locs hQ hx hb hr hts hown hlocks hml hA hK hP hD hS hl
  have hl : lv_has ls 5 [(0, .ref cf), (1, .int p0)] := hl
  have k0 := hts (.fieldLink RX0 27 "ConvexConduit$CheapestFlow" "network" "LConvexConduit$Network;") (by decide +kernel)
  have k1 : ∀ w ∈ u_ws RX0 TX0 6, w ∈ wsX0_spreadFrom := by decide +kernel
  have k2 := hts (.fieldLink RX0 82 "ConvexConduit$Network" "nodes" "I") (by decide +kernel)
  have k3 : ∀ w ∈ u_ws RX2 TX2 7, w ∈ wsX0_spreadFrom := by decide +kernel
  have k4 := hts (.fieldLink RX0 24 "ConvexConduit$CheapestFlow" "cameBy" "[I") (by decide +kernel)
  unfold pX0_spreadFrom at h
  refine lv_iconst (v := 0) hx hb dX0_spreadFrom_0 (by decide) ?_
  refine lv_istore_n (lv' := [(2, .int 0), (0, .ref cf), (1, .int p0)]) hx hb dX0_spreadFrom_1 rfl hl (by decide) rfl (fun ls hl => ?_)
  obtain ⟨x2_4, cB_5, e0, h⟩ := bd2 h
  have hT0 : ∀ (H : Heap) (locs : List Loc), va_P (dC, dI) vwCl (wX0 cyI cf nw aF aT aP aC aU aO aL aH aD aB nN nA nF nT nP nC nU cO cL cH cD cB_5) H → va_D A (wX0 cyI cf nw aF aT aP aC aU aO aL aH aD aB nN nA nF nT nP nC nU cO cL cH cD cB_5) → va_S A s.heap H locs → ∀ ls : Array Slot, lv_has ls 5 [(0, .ref cf), (1, .int p0), (2, .int x2_4)] → W p l e { frames := 3, cells := 0, slots := 0, locals := 67 } s m args below meth c H locs 0 0 Q (F0 m 26 ls []) := by
    intro H locs hP hD hS ls hl
    refine lv_iconst (v := 1) hx hb dX0_spreadFrom_26 (by decide) ?_
    refine lv_istore_n (lv' := [(2, .int 1), (0, .ref cf), (1, .int p0)]) hx hb dX0_spreadFrom_27 rfl hl (by decide) rfl (fun ls hl => ?_)
    refine lv_iconst (v := 0) hx hb dX0_spreadFrom_28 (by decide) ?_
    refine lv_istore_n (lv' := [(3, .int 0), (2, .int 1), (0, .ref cf), (1, .int p0)]) hx hb dX0_spreadFrom_29 rfl hl (by decide) rfl (fun ls hl => ?_)
    obtain ⟨x2_18, x3_19, cB_20, e1, h⟩ := bd3 h
    have hT1 : ∀ (H : Heap) (locs : List Loc), va_P (dC, dI) vwCl (wX0 cyI cf nw aF aT aP aC aU aO aL aH aD aB nN nA nF nT nP nC nU cO cL cH cD cB_20) H → va_D A (wX0 cyI cf nw aF aT aP aC aU aO aL aH aD aB nN nA nF nT nP nC nU cO cL cH cD cB_20) → va_S A s.heap H locs → ∀ ls : Array Slot, lv_has ls 5 [(0, .ref cf), (1, .int p0), (2, .int x2_18), (3, .int x3_19)] → W p l e { frames := 3, cells := 0, slots := 0, locals := 67 } s m args below meth c H locs 0 0 Q (F0 m 84 ls []) := by
      intro H locs hP hD hS ls hl
      cases h
      exact q_vret hQ hx hb hr hlocks hP hK hD hS dX0_spreadFrom_84
    have hL1 : ∀ (n9 : Nat) (x2_6 : Int32) (x3_7 : Int32) (cB_8 : Nat → Int32), lp (un3 (pX0_spreadFrom_l30 N cH cL cO nA nF nN nT p0)) n9 ((x2_6, x3_7, cB_8)) = some ((x2_18, x3_19, cB_20)) → ∀ (H : Heap) (locs : List Loc), va_P (dC, dI) vwCl (wX0 cyI cf nw aF aT aP aC aU aO aL aH aD aB nN nA nF nT nP nC nU cO cL cH cD cB_8) H → va_D A (wX0 cyI cf nw aF aT aP aC aU aO aL aH aD aB nN nA nF nT nP nC nU cO cL cH cD cB_8) → va_S A s.heap H locs → ∀ ls : Array Slot, lv_has ls 5 [(0, .ref cf), (1, .int p0), (2, .int x2_6), (3, .int x3_7)] → W p l e { frames := 3, cells := 0, slots := 0, locals := 67 } s m args below meth c H locs 0 0 Q (F0 m 30 ls []) := by
      intro n9
      induction n9 with
      | zero =>
        intro x2_6 x3_7 cB_8 h
        exact lp0 h
      | succ n9 ih1 =>
        intro x2_6 x3_7 cB_8 h H locs hP hD hS ls hl
        obtain ⟨o9, g, h⟩ := lps h
        replace g : pX0_spreadFrom_l30 N cH cL cO nA nF nN nT p0 x2_6 x3_7 cB_8 = some o9 := g
        unfold pX0_spreadFrom_l30 at g
        refine lv_iload_n hx hb dX0_spreadFrom_30 rfl (lv_at hl 3 rfl) ?_
        refine lv_aload_n hx hb dX0_spreadFrom_31 rfl (lv_at hl 0 rfl) ?_
        refine va_get (D := (dC, dI)) (ci := 0) (v := .ref nw) (C := RX0) (T := TX0) (N := 6) hx hb hts k1 hown hK hP 0 rfl rfl 0 (by decide) k0 (fun _ h9 => h9) rfl dX0_spreadFrom_32 ?_
        refine va_get (D := (dC, dI)) (ci := 2) (v := .int nN) (C := RX2) (T := TX2) (N := 7) hx hb hts k3 hown hK hP 1 rfl rfl 0 (by decide) k2 (fun _ h9 => h9) rfl dX0_spreadFrom_35 ?_
        refine lv_icmp_ge (tgt := 84) hx hb dX0_spreadFrom_38 (by decide) (fun c9 => ?_) (fun c9 => ?_)
        · have g := ipos c9 g
          cases g
          have h := lpx h
          cases h
          exact hT1 _ _ hP hD hS _ (lv_sub hl [0, 1, 2, 3] rfl)
        · have g := ineg c9 g
          refine lv_iload_n hx hb dX0_spreadFrom_41 rfl (lv_at hl 2 rfl) ?_
          refine lv_if_eq (tgt := 84) hx hb dX0_spreadFrom_42 (by decide) (fun c9 => ?_) (fun c9 => ?_)
          · have g := ipos c9 g
            cases g
            have h := lpx h
            cases h
            exact hT1 _ _ hP hD hS _ (lv_sub hl [0, 1, 2, 3] rfl)
          · have g := ineg c9 g
            refine lv_iconst (v := 0) hx hb dX0_spreadFrom_45 (by decide) ?_
            refine lv_istore_n (lv' := [(2, .int 0), (0, .ref cf), (1, .int p0), (3, .int x3_7)]) hx hb dX0_spreadFrom_46 rfl hl (by decide) rfl (fun ls hl => ?_)
            refine lv_iconst (v := 0) hx hb dX0_spreadFrom_47 (by decide) ?_
            refine lv_istore (lv' := [(4, .int 0), (2, .int 0), (0, .ref cf), (1, .int p0), (3, .int x3_7)]) hx hb dX0_spreadFrom_48 hl (by decide) rfl (fun ls hl => ?_)
            obtain ⟨x2_15, x4_16, cB_17, e2, g⟩ := bd3 g
            have hT2 : ∀ (H : Heap) (locs : List Loc), va_P (dC, dI) vwCl (wX0 cyI cf nw aF aT aP aC aU aO aL aH aD aB nN nA nF nT nP nC nU cO cL cH cD cB_17) H → va_D A (wX0 cyI cf nw aF aT aP aC aU aO aL aH aD aB nN nA nF nT nP nC nU cO cL cH cD cB_17) → va_S A s.heap H locs → ∀ ls : Array Slot, lv_has ls 5 [(0, .ref cf), (1, .int p0), (2, .int x2_15), (3, .int x3_7), (4, .int x4_16)] → W p l e { frames := 3, cells := 0, slots := 0, locals := 67 } s m args below meth c H locs 0 0 Q (F0 m 78 ls []) := by
              intro H locs hP hD hS ls hl
              refine lv_iinc (v := x3_7 + 1) (lv' := [(3, .int (x3_7 + 1)), (0, .ref cf), (1, .int p0), (2, .int x2_15), (4, .int x4_16)]) hx hb dX0_spreadFrom_78 hl (k := 3) rfl (by rfl) (by decide) rfl (fun ls hl => ?_)
              refine lv_goto (tgt := 30) hx hb dX0_spreadFrom_81 (by decide) ?_
              cases g
              exact ih1 _ _ _ h _ _ hP hD hS _ (lv_sub hl [1, 2, 3, 0] rfl)
            have hL2 : ∀ (n9 : Nat) (x2_9 : Int32) (x4_10 : Int32) (cB_11 : Nat → Int32), lp (un3 (pX0_spreadFrom_l50 cH cL cO nA nF nT p0)) n9 ((x2_9, x4_10, cB_11)) = some ((x2_15, x4_16, cB_17)) → ∀ (H : Heap) (locs : List Loc), va_P (dC, dI) vwCl (wX0 cyI cf nw aF aT aP aC aU aO aL aH aD aB nN nA nF nT nP nC nU cO cL cH cD cB_11) H → va_D A (wX0 cyI cf nw aF aT aP aC aU aO aL aH aD aB nN nA nF nT nP nC nU cO cL cH cD cB_11) → va_S A s.heap H locs → ∀ ls : Array Slot, lv_has ls 5 [(0, .ref cf), (1, .int p0), (2, .int x2_9), (3, .int x3_7), (4, .int x4_10)] → W p l e { frames := 3, cells := 0, slots := 0, locals := 67 } s m args below meth c H locs 0 0 Q (F0 m 50 ls []) := by
              intro n9
              induction n9 with
              | zero =>
                intro x2_9 x4_10 cB_11 h
                exact lp0 h
              | succ n9 ih2 =>
                intro x2_9 x4_10 cB_11 h H locs hP hD hS ls hl
                obtain ⟨o9, g, h⟩ := lps h
                replace g : pX0_spreadFrom_l50 cH cL cO nA nF nT p0 x2_9 x4_10 cB_11 = some o9 := g
                unfold pX0_spreadFrom_l50 at g
                refine lv_iload hx hb dX0_spreadFrom_50 (lv_at hl 4 rfl) ?_
                refine lv_aload_n hx hb dX0_spreadFrom_52 rfl (lv_at hl 0 rfl) ?_
                refine va_get (D := (dC, dI)) (ci := 0) (v := .ref nw) (C := RX0) (T := TX0) (N := 6) hx hb hts k1 hown hK hP 0 rfl rfl 0 (by decide) k0 (fun _ h9 => h9) rfl dX0_spreadFrom_53 ?_
                obtain ⟨r12, e9, g⟩ := bd g
                refine q_callVi (ret := r12) (As := []) (w1 := wX2 cyI nw aF aT aP aC aU nN nA nF nT nP nC nU) (ws2 := wX0 cyI cf nw aF aT aP aC aU aO aL aH aD aB nN nA nF nT nP nC nU cO cL cH cD cB_11) ⟨hx, hb, hml, hown, hts⟩ (c_X2_steps l dC dI cyI nw aF aT aP aC aU H.size nN nA nF nT nP nC nU _ e9) (cwV 0 hts gX0_spreadFrom_X2_steps rfl rfl rfl (by decide +kernel) ⟨Nat.le_of_ble_eq_true rfl, Nat.le_of_ble_eq_true rfl⟩) hK hP hD hS hA [1, 2, 3, 4, 5, 6] [0, 7, 8, 9, 10, 11] [0, 6, 7, 8, 9, 10, 11, 1, 2, 3, 4, 5] [0] rfl rfl rfl rfl (by decide) rfl rfl rfl 2 0 rfl rfl rfl hl.1 (Nat.le_of_ble_eq_true rfl) (Nat.le_of_ble_eq_true rfl) (Nat.le_of_ble_eq_true rfl) rfl dX0_spreadFrom_56 (fun H locs hP hD hS => ?_)
                refine lv_icmp_ge (tgt := 78) hx hb dX0_spreadFrom_59 (by decide) (fun c9 => ?_) (fun c9 => ?_)
                · have g := ipos c9 g
                  cases g
                  have h := lpx h
                  cases h
                  exact hT2 _ _ hP hD hS _ (lv_sub hl [0, 1, 2, 3, 4] rfl)
                · have g := ineg c9 g
                  refine lv_iload_n hx hb dX0_spreadFrom_62 rfl (lv_at hl 2 rfl) ?_
                  refine lv_aload_n hx hb dX0_spreadFrom_63 rfl (lv_at hl 0 rfl) ?_
                  refine lv_iload_n hx hb dX0_spreadFrom_64 rfl (lv_at hl 1 rfl) ?_
                  refine lv_iload hx hb dX0_spreadFrom_65 (lv_at hl 4 rfl) ?_
                  obtain ⟨b13, cB_14, e9, g⟩ := bd2 g
                  refine q_callVi (ret := b2i b13) (As := [.int p0, .int x4_10]) (w1 := wX0 cyI cf nw aF aT aP aC aU aO aL aH aD aB nN nA nF nT nP nC nU cO cL cH cD cB_14) (ws2 := wX0 cyI cf nw aF aT aP aC aU aO aL aH aD aB nN nA nF nT nP nC nU cO cL cH cD cB_14) ⟨hx, hb, hml, hown, hts⟩ (c_X0_widen l dC dI cyI cf nw aF aT aP aC aU aO aL aH aD aB H.size nN nA nF nT nP nC nU cO cL cH cD cB_11 p0 x4_10 _ e9) (cwV 2 hts gX0_spreadFrom_X0_widen rfl rfl rfl (by decide +kernel) ⟨Nat.le_of_ble_eq_true rfl, Nat.le_of_ble_eq_true rfl⟩) hK hP hD hS hA [0, 1, 2, 3, 4, 5, 6, 7, 8, 9, 10, 11] [] [0, 1, 2, 3, 4, 5, 6, 7, 8, 9, 10, 11] [0] rfl rfl rfl rfl (by decide) rfl rfl rfl 0 0 rfl rfl rfl hl.1 (Nat.le_of_ble_eq_true rfl) (Nat.le_of_ble_eq_true rfl) (Nat.le_of_ble_eq_true rfl) rfl dX0_spreadFrom_67 (fun H locs hP hD hS => ?_)
                  refine lv_ior hx hb dX0_spreadFrom_70 ?_
                  refine lv_istore_n (lv' := [(2, .int (x2_9 ||| (b2i b13))), (0, .ref cf), (1, .int p0), (3, .int x3_7), (4, .int x4_10)]) hx hb dX0_spreadFrom_71 rfl hl (by decide) rfl (fun ls hl => ?_)
                  refine lv_iinc (v := x4_10 + 1) (lv' := [(4, .int (x4_10 + 1)), (2, .int (x2_9 ||| (b2i b13))), (0, .ref cf), (1, .int p0), (3, .int x3_7)]) hx hb dX0_spreadFrom_72 hl (k := 4) rfl (by rfl) (by decide) rfl (fun ls hl => ?_)
                  refine lv_goto (tgt := 50) hx hb dX0_spreadFrom_75 (by decide) ?_
                  cases g
                  exact ih2 _ _ _ h _ _ hP hD hS _ (lv_sub hl [2, 3, 1, 4, 0] rfl)
            exact hL2 N _ _ _  e2 _ _ hP hD hS _ (lv_sub hl [2, 3, 1, 4, 0] rfl)
    exact hL1 N _ _ _  e1 _ _ hP hD hS _ (lv_sub hl [2, 3, 1, 0] rfl)
  have hL0 : ∀ (n9 : Nat) (x2_1 : Int32) (cB_2 : Nat → Int32), lp (un2 (pX0_spreadFrom_l2 nN)) n9 ((x2_1, cB_2)) = some ((x2_4, cB_5)) → ∀ (H : Heap) (locs : List Loc), va_P (dC, dI) vwCl (wX0 cyI cf nw aF aT aP aC aU aO aL aH aD aB nN nA nF nT nP nC nU cO cL cH cD cB_2) H → va_D A (wX0 cyI cf nw aF aT aP aC aU aO aL aH aD aB nN nA nF nT nP nC nU cO cL cH cD cB_2) → va_S A s.heap H locs → ∀ ls : Array Slot, lv_has ls 5 [(0, .ref cf), (1, .int p0), (2, .int x2_1)] → W p l e { frames := 3, cells := 0, slots := 0, locals := 67 } s m args below meth c H locs 0 0 Q (F0 m 2 ls []) := by
    intro n9
    induction n9 with
    | zero =>
      intro x2_1 cB_2 h
      exact lp0 h
    | succ n9 ih0 =>
      intro x2_1 cB_2 h H locs hP hD hS ls hl
      obtain ⟨o9, g, h⟩ := lps h
      replace g : pX0_spreadFrom_l2 nN x2_1 cB_2 = some o9 := g
      unfold pX0_spreadFrom_l2 at g
      refine lv_iload_n hx hb dX0_spreadFrom_2 rfl (lv_at hl 2 rfl) ?_
      refine lv_aload_n hx hb dX0_spreadFrom_3 rfl (lv_at hl 0 rfl) ?_
      refine va_get (D := (dC, dI)) (ci := 0) (v := .ref nw) (C := RX0) (T := TX0) (N := 6) hx hb hts k1 hown hK hP 0 rfl rfl 0 (by decide) k0 (fun _ h9 => h9) rfl dX0_spreadFrom_4 ?_
      refine va_get (D := (dC, dI)) (ci := 2) (v := .int nN) (C := RX2) (T := TX2) (N := 7) hx hb hts k3 hown hK hP 1 rfl rfl 0 (by decide) k2 (fun _ h9 => h9) rfl dX0_spreadFrom_7 ?_
      refine lv_icmp_ge (tgt := 26) hx hb dX0_spreadFrom_10 (by decide) (fun c9 => ?_) (fun c9 => ?_)
      · have g := ipos c9 g
        cases g
        have h := lpx h
        cases h
        exact hT0 _ _ hP hD hS _ (lv_sub hl [0, 1, 2] rfl)
      · have g := ineg c9 g
        refine lv_aload_n hx hb dX0_spreadFrom_13 rfl (lv_at hl 0 rfl) ?_
        refine va_get (D := (dC, dI)) (ci := 0) (v := .ref aB) (C := RX0) (T := TX0) (N := 6) hx hb hts k1 hown hK hP 0 rfl rfl 5 (by decide) k4 (fun _ h9 => h9) rfl dX0_spreadFrom_14 ?_
        refine lv_iload_n hx hb dX0_spreadFrom_17 rfl (lv_at hl 2 rfl) ?_
        refine lv_iconst (v := -1) hx hb dX0_spreadFrom_18 (by decide) ?_
        obtain ⟨cB_3, e9, g⟩ := bd g
        refine q_iast (ws2 := wX0 cyI cf nw aF aT aP aC aU aO aL aH aD aB nN nA nF nT nP nC nU cO cL cH cD cB_3) hx hb hK hP hD hS 11 0 rfl rfl e9 dX0_spreadFrom_19 rfl (fun H locs hP hD hS => ?_)
        refine lv_iinc (v := x2_1 + 1) (lv' := [(2, .int (x2_1 + 1)), (0, .ref cf), (1, .int p0)]) hx hb dX0_spreadFrom_20 hl (k := 2) rfl (by rfl) (by decide) rfl (fun ls hl => ?_)
        refine lv_goto (tgt := 2) hx hb dX0_spreadFrom_23 (by decide) ?_
        cases g
        exact ih0 _ _ h _ _ hP hD hS _ (lv_sub hl [1, 2, 0] rfl)
  exact hL0 N _ _  e0 _ _ hP hD hS _ (lv_sub hl [1, 2, 0] rfl)
set_option maxHeartbeats 4000000 in
set_option maxRecDepth 100000 in
theorem c_X0_roomOnWay (l : Launch) (dC : Nat → ClassId) (dI : Nat → Nat → Nat) (cyI : ClassId) (cf nw aF aT aP aC aU aO aL aH aD aB : Nat) (sz : Nat) (nN nA : Int32) (nF nT nP nC nU cO cL cH cD cB : Nat → Int32) (p0 p1 : Int32) (N : Nat) (res : Int32) (h : pX0_roomOnWay N nN nF nT cO cL cH cB p0 p1 = some res) : Met l yX0_roomOnWay wsX0_roomOnWay { frames := 2, cells := 0, slots := 0, locals := 42 } (va_Pc [.ref cf, .int p0, .int p1] (zPre (dC, dI) (wX0 cyI cf nw aF aT aP aC aU aO aL aH aD aB nN nA nF nT nP nC nU cO cL cH cD cB) [(cyI, .int)] sz)) (zQi (dC, dI) (wX0 cyI cf nw aF aT aP aC aU aO aL aH aD aB nN nA nF nT nP nC nU cO cL cH cD cB) [(cyI, .int)] (res) (va_A (wX0 cyI cf nw aF aT aP aC aU aO aL aH aD aB nN nA nF nT nP nC nU cO cL cH cD cB) sz)) 0 0 (va_A (wX0 cyI cf nw aF aT aP aC aU aO aL aH aD aB nN nA nF nT nP nC nU cO cL cH cD cB) sz) := by
  refine q_ofWi (cc := cX0_roomOnWay) (maxL := 7) (rt := (some .int)) (by decide) rfl (Nat.le_of_ble_eq_true rfl) ?_
  intro p e s m args below meth c ls A Q H locs hQ hx hb hr hts hown hlocks hml hA hK hP hD hS hl
  have hl : lv_has ls 7 [(0, .ref cf), (1, .int p0), (2, .int p1)] := hl
  have k0 := hts (.constant RX0 55 (1000000)) (by decide +kernel)
  have k1 := hts (.fieldLink RX0 27 "ConvexConduit$CheapestFlow" "network" "LConvexConduit$Network;") (by decide +kernel)
  have k2 : ∀ w ∈ u_ws RX0 TX0 6, w ∈ wsX0_roomOnWay := by decide +kernel
  have k3 := hts (.fieldLink RX0 82 "ConvexConduit$Network" "nodes" "I") (by decide +kernel)
  have k4 : ∀ w ∈ u_ws RX2 TX2 7, w ∈ wsX0_roomOnWay := by decide +kernel
  have k5 := hts (.fieldLink RX0 24 "ConvexConduit$CheapestFlow" "cameBy" "[I") (by decide +kernel)
  have k6 := hts (.methodLink RX0 77 Lib.Math.min.name) (by decide +kernel)
  have k7 := hts (.static Lib.Math.min.name) (by decide +kernel)
  have k8 := hts (.initialized "java/lang/Math") (by decide +kernel)
  have k9 := hts (.code Lib.Math.min.name Lib.Math.min.code 2 (some .int)) (by decide +kernel)
  unfold pX0_roomOnWay at h
  refine lv_ldc (own := RX0) (v := 1000000) hx hb hown k0 dX0_roomOnWay_0 ?_
  refine lv_istore_n (lv' := [(3, .int 1000000), (0, .ref cf), (1, .int p0), (2, .int p1)]) hx hb dX0_roomOnWay_2 rfl hl (by decide) rfl (fun ls hl => ?_)
  refine lv_iload_n hx hb dX0_roomOnWay_3 rfl (lv_at hl 3 rfl) ?_
  refine lv_istore (lv' := [(4, .int p1), (3, .int 1000000), (0, .ref cf), (1, .int p0), (2, .int p1)]) hx hb dX0_roomOnWay_4 hl (by decide) rfl (fun ls hl => ?_)
  refine lv_iconst (v := 0) hx hb dX0_roomOnWay_6 (by decide) ?_
  refine lv_istore (lv' := [(5, .int 0), (4, .int p1), (3, .int 1000000), (0, .ref cf), (1, .int p0), (2, .int p1)]) hx hb dX0_roomOnWay_7 hl (by decide) rfl (fun ls hl => ?_)
  obtain ⟨o0, e0, h8⟩ := bd h
  have hT0 : ∀ (x3_7 : Int32) (x4_8 : Int32) (x5_9 : Int32), o0 = .inl ((x3_7, x4_8, x5_9)) → ∀ (H : Heap) (locs : List Loc), va_P (dC, dI) vwCl (wX0 cyI cf nw aF aT aP aC aU aO aL aH aD aB nN nA nF nT nP nC nU cO cL cH cD cB) H → va_D A (wX0 cyI cf nw aF aT aP aC aU aO aL aH aD aB nN nA nF nT nP nC nU cO cL cH cD cB) → va_S A s.heap H locs → ∀ ls : Array Slot, lv_has ls 7 [(0, .ref cf), (1, .int p0), (2, .int p1), (3, .int x3_7), (4, .int x4_8), (5, .int x5_9)] → W p l e { frames := 2, cells := 0, slots := 0, locals := 42 } s m args below meth c H locs 0 0 Q (F0 m 72 ls []) := by
    intro x3_7 x4_8 x5_9 ho H locs hP hD hS ls hl
    rw [ho] at h8
    have h := h8
    refine lv_iload hx hb dX0_roomOnWay_72 (lv_at hl 4 rfl) ?_
    refine lv_iload_n hx hb dX0_roomOnWay_74 rfl (lv_at hl 1 rfl) ?_
    refine lv_icmp_ne (tgt := 82) hx hb dX0_roomOnWay_75 (by decide) (fun c9 => ?_) (fun c9 => ?_)
    · have h := ineg c9 h
      refine lv_iconst (v := 0) hx hb dX0_roomOnWay_82 (by decide) ?_
      cases h
      exact q_iret hQ hx hb hr hlocks hP hK hD hS dX0_roomOnWay_83
    · have h := ipos c9 h
      refine lv_iload_n hx hb dX0_roomOnWay_78 rfl (lv_at hl 3 rfl) ?_
      refine lv_goto (tgt := 83) hx hb dX0_roomOnWay_79 (by decide) ?_
      cases h
      exact q_iret hQ hx hb hr hlocks hP hK hD hS dX0_roomOnWay_83
  have hL0 : ∀ (n9 : Nat) (x3_1 : Int32) (x4_2 : Int32) (x5_3 : Int32), lp (un3 (pX0_roomOnWay_l9 cB cH cL cO nF nN nT p0)) n9 ((x3_1, x4_2, x5_3)) = some o0 → ∀ (H : Heap) (locs : List Loc), va_P (dC, dI) vwCl (wX0 cyI cf nw aF aT aP aC aU aO aL aH aD aB nN nA nF nT nP nC nU cO cL cH cD cB) H → va_D A (wX0 cyI cf nw aF aT aP aC aU aO aL aH aD aB nN nA nF nT nP nC nU cO cL cH cD cB) → va_S A s.heap H locs → ∀ ls : Array Slot, lv_has ls 7 [(0, .ref cf), (1, .int p0), (2, .int p1), (3, .int x3_1), (4, .int x4_2), (5, .int x5_3)] → W p l e { frames := 2, cells := 0, slots := 0, locals := 42 } s m args below meth c H locs 0 0 Q (F0 m 9 ls []) := by
    intro n9
    induction n9 with
    | zero =>
      intro x3_1 x4_2 x5_3 h
      exact lp0 h
    | succ n9 ih0 =>
      intro x3_1 x4_2 x5_3 h H locs hP hD hS ls hl
      obtain ⟨o9, g, h⟩ := lps h
      replace g : pX0_roomOnWay_l9 cB cH cL cO nF nN nT p0 x3_1 x4_2 x5_3 = some o9 := g
      unfold pX0_roomOnWay_l9 at g
      refine lv_iload hx hb dX0_roomOnWay_9 (lv_at hl 5 rfl) ?_
      refine lv_aload_n hx hb dX0_roomOnWay_11 rfl (lv_at hl 0 rfl) ?_
      refine va_get (D := (dC, dI)) (ci := 0) (v := .ref nw) (C := RX0) (T := TX0) (N := 6) hx hb hts k2 hown hK hP 0 rfl rfl 0 (by decide) k1 (fun _ h9 => h9) rfl dX0_roomOnWay_12 ?_
      refine va_get (D := (dC, dI)) (ci := 2) (v := .int nN) (C := RX2) (T := TX2) (N := 7) hx hb hts k4 hown hK hP 1 rfl rfl 0 (by decide) k3 (fun _ h9 => h9) rfl dX0_roomOnWay_15 ?_
      refine lv_icmp_ge (tgt := 72) hx hb dX0_roomOnWay_18 (by decide) (fun c9 => ?_) (fun c9 => ?_)
      · have g := ipos c9 g
        cases g
        have h := lpx h
        subst h
        exact hT0 _ _ _ rfl _ _ hP hD hS _ (lv_sub hl [0, 1, 2, 3, 4, 5] rfl)
      · have g := ineg c9 g
        refine lv_iload hx hb dX0_roomOnWay_21 (lv_at hl 4 rfl) ?_
        refine lv_iload_n hx hb dX0_roomOnWay_23 rfl (lv_at hl 1 rfl) ?_
        refine lv_icmp_eq (tgt := 72) hx hb dX0_roomOnWay_24 (by decide) (fun c9 => ?_) (fun c9 => ?_)
        · have g := ipos c9 g
          cases g
          have h := lpx h
          subst h
          exact hT0 _ _ _ rfl _ _ hP hD hS _ (lv_sub hl [0, 1, 2, 3, 4, 5] rfl)
        · have g := ineg c9 g
          refine lv_aload_n hx hb dX0_roomOnWay_27 rfl (lv_at hl 0 rfl) ?_
          refine va_get (D := (dC, dI)) (ci := 0) (v := .ref aB) (C := RX0) (T := TX0) (N := 6) hx hb hts k2 hown hK hP 0 rfl rfl 5 (by decide) k5 (fun _ h9 => h9) rfl dX0_roomOnWay_28 ?_
          refine lv_iload hx hb dX0_roomOnWay_31 (lv_at hl 4 rfl) ?_
          obtain ⟨t4, e9, g⟩ := bd g
          refine q_iald hx hb hK hP 11 0 rfl rfl e9 dX0_roomOnWay_33 ?_
          refine lv_istore (lv' := [(6, .int t4), (0, .ref cf), (1, .int p0), (2, .int p1), (3, .int x3_1), (4, .int x4_2), (5, .int x5_3)]) hx hb dX0_roomOnWay_34 hl (by decide) rfl (fun ls hl => ?_)
          refine lv_iload hx hb dX0_roomOnWay_36 (lv_at hl 0 rfl) ?_
          refine lv_iconst (v := -1) hx hb dX0_roomOnWay_38 (by decide) ?_
          refine lv_icmp_ne (tgt := 44) hx hb dX0_roomOnWay_39 (by decide) (fun c9 => ?_) (fun c9 => ?_)
          · have g := ineg c9 g
            refine lv_iload_n hx hb dX0_roomOnWay_44 rfl (lv_at hl 4 rfl) ?_
            refine lv_aload_n hx hb dX0_roomOnWay_45 rfl (lv_at hl 1 rfl) ?_
            refine lv_iload hx hb dX0_roomOnWay_46 (lv_at hl 0 rfl) ?_
            obtain ⟨r5, e9, g⟩ := bd g
            refine q_callVi (ret := r5) (As := [.int t4]) (w1 := wX0 cyI cf nw aF aT aP aC aU aO aL aH aD aB nN nA nF nT nP nC nU cO cL cH cD cB) (ws2 := wX0 cyI cf nw aF aT aP aC aU aO aL aH aD aB nN nA nF nT nP nC nU cO cL cH cD cB) ⟨hx, hb, hml, hown, hts⟩ (c_X0_roomOf l dC dI cyI cf nw aF aT aP aC aU aO aL aH aD aB H.size nN nA nF nT nP nC nU cO cL cH cD cB t4 _ e9) (cwV 1 hts gX0_roomOnWay_X0_roomOf rfl rfl rfl (by decide +kernel) ⟨Nat.le_of_ble_eq_true rfl, Nat.le_of_ble_eq_true rfl⟩) hK hP hD hS hA [0, 1, 2, 3, 4, 5, 6, 7, 8, 9, 10, 11] [] [0, 1, 2, 3, 4, 5, 6, 7, 8, 9, 10, 11] [0] rfl rfl rfl rfl (by decide) rfl rfl rfl 0 0 rfl rfl rfl hl.1 (Nat.le_of_ble_eq_true rfl) (Nat.le_of_ble_eq_true rfl) (Nat.le_of_ble_eq_true rfl) rfl dX0_roomOnWay_48 (fun H locs hP hD hS => ?_)
            refine va_mmin hx hb (hml.trans hl.1.symm) hown k6 k7 k8 k9 (Nat.le_of_ble_eq_true rfl) (Nat.le_of_ble_eq_true rfl) (Nat.le_of_ble_eq_true rfl) (Nat.le_of_ble_eq_true rfl) dX0_roomOnWay_51 ?_
            refine lv_istore_n (lv' := [(3, .int (imin x3_1 r5)), (6, .int t4), (0, .ref cf), (1, .int p0), (2, .int p1), (4, .int x4_2), (5, .int x5_3)]) hx hb dX0_roomOnWay_54 rfl hl (by decide) rfl (fun ls hl => ?_)
            refine lv_aload_n hx hb dX0_roomOnWay_55 rfl (lv_at hl 2 rfl) ?_
            refine va_get (D := (dC, dI)) (ci := 0) (v := .ref nw) (C := RX0) (T := TX0) (N := 6) hx hb hts k2 hown hK hP 0 rfl rfl 0 (by decide) k1 (fun _ h9 => h9) rfl dX0_roomOnWay_56 ?_
            refine lv_iload hx hb dX0_roomOnWay_59 (lv_at hl 1 rfl) ?_
            obtain ⟨r6, e9, g⟩ := bd g
            refine q_callVi (ret := r6) (As := [.int t4]) (w1 := wX2 cyI nw aF aT aP aC aU nN nA nF nT nP nC nU) (ws2 := wX0 cyI cf nw aF aT aP aC aU aO aL aH aD aB nN nA nF nT nP nC nU cO cL cH cD cB) ⟨hx, hb, hml, hown, hts⟩ (c_X2_start l dC dI cyI nw aF aT aP aC aU H.size nN nA nF nT nP nC nU t4 _ e9) (cwV 1 hts gX0_roomOnWay_X2_start rfl rfl rfl (by decide +kernel) ⟨Nat.le_of_ble_eq_true rfl, Nat.le_of_ble_eq_true rfl⟩) hK hP hD hS hA [1, 2, 3, 4, 5, 6] [0, 7, 8, 9, 10, 11] [0, 6, 7, 8, 9, 10, 11, 1, 2, 3, 4, 5] [0] rfl rfl rfl rfl (by decide) rfl rfl rfl 2 0 rfl rfl rfl hl.1 (Nat.le_of_ble_eq_true rfl) (Nat.le_of_ble_eq_true rfl) (Nat.le_of_ble_eq_true rfl) rfl dX0_roomOnWay_61 (fun H locs hP hD hS => ?_)
            refine lv_istore (lv' := [(4, .int r6), (3, .int (imin x3_1 r5)), (6, .int t4), (0, .ref cf), (1, .int p0), (2, .int p1), (5, .int x5_3)]) hx hb dX0_roomOnWay_64 hl (by decide) rfl (fun ls hl => ?_)
            refine lv_iinc (v := x5_3 + 1) (lv' := [(5, .int (x5_3 + 1)), (4, .int r6), (3, .int (imin x3_1 r5)), (6, .int t4), (0, .ref cf), (1, .int p0), (2, .int p1)]) hx hb dX0_roomOnWay_66 hl (k := 6) rfl (by rfl) (by decide) rfl (fun ls hl => ?_)
            refine lv_goto (tgt := 9) hx hb dX0_roomOnWay_69 (by decide) ?_
            cases g
            exact ih0 _ _ _ h _ _ hP hD hS _ (lv_sub hl [4, 5, 6, 2, 1, 0] rfl)
          · have g := ipos c9 g
            refine lv_iconst (v := 0) hx hb dX0_roomOnWay_42 (by decide) ?_
            cases g
            have h := lpx h
            subst h
            have h := selr h8
            cases h
            exact q_iret hQ hx hb hr hlocks hP hK hD hS dX0_roomOnWay_43
  exact hL0 N _ _ _  e0 _ _ hP hD hS _ (lv_sub hl [3, 4, 5, 2, 1, 0] rfl)
set_option maxHeartbeats 4000000 in
set_option maxRecDepth 100000 in
theorem c_X0_sendOnWay (l : Launch) (dC : Nat → ClassId) (dI : Nat → Nat → Nat) (cyI : ClassId) (cf nw aF aT aP aC aU aO aL aH aD aB : Nat) (sz : Nat) (nN nA : Int32) (nF nT nP nC nU cO cL cH cD cB : Nat → Int32) (p0 p1 p2 : Int32) (N : Nat) (res : Int32 × (Nat → Int32)) (h : pX0_sendOnWay N nN nF nT cO cL cH cB p0 p1 p2 = some res) : Met l yX0_sendOnWay wsX0_sendOnWay { frames := 3, cells := 0, slots := 0, locals := 68 } (va_Pc [.ref cf, .int p0, .int p1, .int p2] (zPre (dC, dI) (wX0 cyI cf nw aF aT aP aC aU aO aL aH aD aB nN nA nF nT nP nC nU cO cL cH cD cB) [(cyI, .int)] sz)) (zQi (dC, dI) (wX0 cyI cf nw aF aT aP aC aU aO aL aH aD aB nN nA nF nT nP nC nU res.2 cL cH cD cB) [(cyI, .int)] (res.1) (va_A (wX0 cyI cf nw aF aT aP aC aU aO aL aH aD aB nN nA nF nT nP nC nU cO cL cH cD cB) sz)) 0 0 (va_A (wX0 cyI cf nw aF aT aP aC aU aO aL aH aD aB nN nA nF nT nP nC nU cO cL cH cD cB) sz) := by
  refine q_ofWi (cc := cX0_sendOnWay) (maxL := 8) (rt := (some .int)) (by decide) rfl (Nat.le_of_ble_eq_true rfl) ?_
  intro p e s m args below meth c ls A Q H locs hQ hx hb hr hts hown hlocks hml hA hK hP hD hS hl
  have hl : lv_has ls 8 [(0, .ref cf), (1, .int p0), (2, .int p1), (3, .int p2)] := hl
  have k0 := hts (.methodLink RX0 77 Lib.Math.min.name) (by decide +kernel)
  have k1 := hts (.static Lib.Math.min.name) (by decide +kernel)
  have k2 := hts (.initialized "java/lang/Math") (by decide +kernel)
  have k3 := hts (.code Lib.Math.min.name Lib.Math.min.code 2 (some .int)) (by decide +kernel)
  have k4 := hts (.fieldLink RX0 27 "ConvexConduit$CheapestFlow" "network" "LConvexConduit$Network;") (by decide +kernel)
  have k5 : ∀ w ∈ u_ws RX0 TX0 6, w ∈ wsX0_sendOnWay := by decide +kernel
  have k6 := hts (.fieldLink RX0 82 "ConvexConduit$Network" "nodes" "I") (by decide +kernel)
  have k7 : ∀ w ∈ u_ws RX2 TX2 7, w ∈ wsX0_sendOnWay := by decide +kernel
  have k8 := hts (.fieldLink RX0 24 "ConvexConduit$CheapestFlow" "cameBy" "[I") (by decide +kernel)
  have k9 := hts (.fieldLink RX0 9 "ConvexConduit$CheapestFlow" "on" "[I") (by decide +kernel)
  unfold pX0_sendOnWay at h
  refine lv_iload_n hx hb dX0_sendOnWay_0 rfl (lv_at hl 3 rfl) ?_
  refine lv_aload_n hx hb dX0_sendOnWay_1 rfl (lv_at hl 0 rfl) ?_
  refine lv_iload_n hx hb dX0_sendOnWay_2 rfl (lv_at hl 1 rfl) ?_
  refine lv_iload_n hx hb dX0_sendOnWay_3 rfl (lv_at hl 2 rfl) ?_
  obtain ⟨r1, e9, h⟩ := bd h
  refine q_callVi (ret := r1) (As := [.int p0, .int p1]) (w1 := wX0 cyI cf nw aF aT aP aC aU aO aL aH aD aB nN nA nF nT nP nC nU cO cL cH cD cB) (ws2 := wX0 cyI cf nw aF aT aP aC aU aO aL aH aD aB nN nA nF nT nP nC nU cO cL cH cD cB) ⟨hx, hb, hml, hown, hts⟩ (c_X0_roomOnWay l dC dI cyI cf nw aF aT aP aC aU aO aL aH aD aB H.size nN nA nF nT nP nC nU cO cL cH cD cB p0 p1 N _ e9) (cwV 2 hts gX0_sendOnWay_X0_roomOnWay rfl rfl rfl (by decide +kernel) ⟨Nat.le_of_ble_eq_true rfl, Nat.le_of_ble_eq_true rfl⟩) hK hP hD hS hA [0, 1, 2, 3, 4, 5, 6, 7, 8, 9, 10, 11] [] [0, 1, 2, 3, 4, 5, 6, 7, 8, 9, 10, 11] [0] rfl rfl rfl rfl (by decide) rfl rfl rfl 0 0 rfl rfl rfl hl.1 (Nat.le_of_ble_eq_true rfl) (Nat.le_of_ble_eq_true rfl) (Nat.le_of_ble_eq_true rfl) rfl dX0_sendOnWay_4 (fun H locs hP hD hS => ?_)
  refine va_mmin hx hb (hml.trans hl.1.symm) hown k0 k1 k2 k3 (Nat.le_of_ble_eq_true rfl) (Nat.le_of_ble_eq_true rfl) (Nat.le_of_ble_eq_true rfl) (Nat.le_of_ble_eq_true rfl) dX0_sendOnWay_7 ?_
  refine lv_istore (lv' := [(4, .int (imin p2 r1)), (0, .ref cf), (1, .int p0), (2, .int p1), (3, .int p2)]) hx hb dX0_sendOnWay_10 hl (by decide) rfl (fun ls hl => ?_)
  refine lv_iload_n hx hb dX0_sendOnWay_12 rfl (lv_at hl 3 rfl) ?_
  refine lv_istore (lv' := [(5, .int p1), (4, .int (imin p2 r1)), (0, .ref cf), (1, .int p0), (2, .int p1), (3, .int p2)]) hx hb dX0_sendOnWay_13 hl (by decide) rfl (fun ls hl => ?_)
  refine lv_iconst (v := 0) hx hb dX0_sendOnWay_15 (by decide) ?_
  refine lv_istore (lv' := [(6, .int 0), (5, .int p1), (4, .int (imin p2 r1)), (0, .ref cf), (1, .int p0), (2, .int p1), (3, .int p2)]) hx hb dX0_sendOnWay_16 hl (by decide) rfl (fun ls hl => ?_)
  obtain ⟨x5_13, x6_14, cO_15, e0, h⟩ := bd3 h
  have hT0 : ∀ (H : Heap) (locs : List Loc), va_P (dC, dI) vwCl (wX0 cyI cf nw aF aT aP aC aU aO aL aH aD aB nN nA nF nT nP nC nU cO_15 cL cH cD cB) H → va_D A (wX0 cyI cf nw aF aT aP aC aU aO aL aH aD aB nN nA nF nT nP nC nU cO_15 cL cH cD cB) → va_S A s.heap H locs → ∀ ls : Array Slot, lv_has ls 8 [(0, .ref cf), (1, .int p0), (2, .int p1), (3, .int p2), (4, .int (imin p2 r1)), (5, .int x5_13), (6, .int x6_14)] → W p l e { frames := 3, cells := 0, slots := 0, locals := 68 } s m args below meth c H locs 0 0 Q (F0 m 96 ls []) := by
    intro H locs hP hD hS ls hl
    refine lv_iload hx hb dX0_sendOnWay_96 (lv_at hl 4 rfl) ?_
    cases h
    exact q_iret hQ hx hb hr hlocks hP hK hD hS dX0_sendOnWay_98
  have hL0 : ∀ (n9 : Nat) (x5_2 : Int32) (x6_3 : Int32) (cO_4 : Nat → Int32), lp (un3 (pX0_sendOnWay_l18 cB nF nN nT p0 p2 r1)) n9 ((x5_2, x6_3, cO_4)) = some ((x5_13, x6_14, cO_15)) → ∀ (H : Heap) (locs : List Loc), va_P (dC, dI) vwCl (wX0 cyI cf nw aF aT aP aC aU aO aL aH aD aB nN nA nF nT nP nC nU cO_4 cL cH cD cB) H → va_D A (wX0 cyI cf nw aF aT aP aC aU aO aL aH aD aB nN nA nF nT nP nC nU cO_4 cL cH cD cB) → va_S A s.heap H locs → ∀ ls : Array Slot, lv_has ls 8 [(0, .ref cf), (1, .int p0), (2, .int p1), (3, .int p2), (4, .int (imin p2 r1)), (5, .int x5_2), (6, .int x6_3)] → W p l e { frames := 3, cells := 0, slots := 0, locals := 68 } s m args below meth c H locs 0 0 Q (F0 m 18 ls []) := by
    intro n9
    induction n9 with
    | zero =>
      intro x5_2 x6_3 cO_4 h
      exact lp0 h
    | succ n9 ih0 =>
      intro x5_2 x6_3 cO_4 h H locs hP hD hS ls hl
      obtain ⟨o9, g, h⟩ := lps h
      replace g : pX0_sendOnWay_l18 cB nF nN nT p0 p2 r1 x5_2 x6_3 cO_4 = some o9 := g
      unfold pX0_sendOnWay_l18 at g
      refine lv_iload hx hb dX0_sendOnWay_18 (lv_at hl 6 rfl) ?_
      refine lv_aload_n hx hb dX0_sendOnWay_20 rfl (lv_at hl 0 rfl) ?_
      refine va_get (D := (dC, dI)) (ci := 0) (v := .ref nw) (C := RX0) (T := TX0) (N := 6) hx hb hts k5 hown hK hP 0 rfl rfl 0 (by decide) k4 (fun _ h9 => h9) rfl dX0_sendOnWay_21 ?_
      refine va_get (D := (dC, dI)) (ci := 2) (v := .int nN) (C := RX2) (T := TX2) (N := 7) hx hb hts k7 hown hK hP 1 rfl rfl 0 (by decide) k6 (fun _ h9 => h9) rfl dX0_sendOnWay_24 ?_
      refine lv_icmp_ge (tgt := 96) hx hb dX0_sendOnWay_27 (by decide) (fun c9 => ?_) (fun c9 => ?_)
      · have g := ipos c9 g
        cases g
        have h := lpx h
        cases h
        exact hT0 _ _ hP hD hS _ (lv_sub hl [0, 1, 2, 3, 4, 5, 6] rfl)
      · have g := ineg c9 g
        refine lv_iload hx hb dX0_sendOnWay_30 (lv_at hl 5 rfl) ?_
        refine lv_iload_n hx hb dX0_sendOnWay_32 rfl (lv_at hl 1 rfl) ?_
        refine lv_icmp_eq (tgt := 96) hx hb dX0_sendOnWay_33 (by decide) (fun c9 => ?_) (fun c9 => ?_)
        · have g := ipos c9 g
          cases g
          have h := lpx h
          cases h
          exact hT0 _ _ hP hD hS _ (lv_sub hl [0, 1, 2, 3, 4, 5, 6] rfl)
        · have g := ineg c9 g
          refine lv_iload hx hb dX0_sendOnWay_36 (lv_at hl 4 rfl) ?_
          refine lv_if_le (tgt := 96) hx hb dX0_sendOnWay_38 (by decide) (fun c9 => ?_) (fun c9 => ?_)
          · have g := ipos c9 g
            cases g
            have h := lpx h
            cases h
            exact hT0 _ _ hP hD hS _ (lv_sub hl [0, 1, 2, 3, 4, 5, 6] rfl)
          · have g := ineg c9 g
            refine lv_aload_n hx hb dX0_sendOnWay_41 rfl (lv_at hl 0 rfl) ?_
            refine va_get (D := (dC, dI)) (ci := 0) (v := .ref aB) (C := RX0) (T := TX0) (N := 6) hx hb hts k5 hown hK hP 0 rfl rfl 5 (by decide) k8 (fun _ h9 => h9) rfl dX0_sendOnWay_42 ?_
            refine lv_iload hx hb dX0_sendOnWay_45 (lv_at hl 5 rfl) ?_
            obtain ⟨t5, e9, g⟩ := bd g
            refine q_iald hx hb hK hP 11 0 rfl rfl e9 dX0_sendOnWay_47 ?_
            refine lv_istore (lv' := [(7, .int t5), (0, .ref cf), (1, .int p0), (2, .int p1), (3, .int p2), (4, .int (imin p2 r1)), (5, .int x5_2), (6, .int x6_3)]) hx hb dX0_sendOnWay_48 hl (by decide) rfl (fun ls hl => ?_)
            refine lv_aload_n hx hb dX0_sendOnWay_50 rfl (lv_at hl 1 rfl) ?_
            refine va_get (D := (dC, dI)) (ci := 0) (v := .ref aO) (C := RX0) (T := TX0) (N := 6) hx hb hts k5 hown hK hP 0 rfl rfl 1 (by decide) k9 (fun _ h9 => h9) rfl dX0_sendOnWay_51 ?_
            refine lv_iload hx hb dX0_sendOnWay_54 (lv_at hl 0 rfl) ?_
            obtain ⟨r6, e9, g⟩ := bd g
            refine q_callSi (ret := r6) (As := [.int t5]) ⟨hx, hb, hml, hown, hts⟩ (c_X2_arcOf l dC dI H.size t5 _ e9) (va_cwS 1 hts gX0_sendOnWay_X2_arcOf rfl rfl rfl (by decide +kernel) ⟨Nat.le_of_ble_eq_true rfl, Nat.le_of_ble_eq_true rfl⟩) hK hP hD hS hA [0, 1, 2, 3, 4, 5, 6, 7, 8, 9, 10, 11] rfl rfl rfl hl.1 (Nat.le_of_ble_eq_true rfl) (Nat.le_of_ble_eq_true rfl) (Nat.le_of_ble_eq_true rfl) rfl dX0_sendOnWay_56 (fun H locs hP hD hS => ?_)
            refine lv_dup2_11 hx hb dX0_sendOnWay_59 rfl rfl ?_
            obtain ⟨t7, e9, g⟩ := bd g
            refine q_iald hx hb hK hP 7 0 rfl rfl e9 dX0_sendOnWay_60 ?_
            refine lv_iload hx hb dX0_sendOnWay_61 (lv_at hl 0 rfl) ?_
            obtain ⟨b8, e9, g⟩ := bd g
            refine q_callSi (ret := b2i b8) (As := [.int t5]) ⟨hx, hb, hml, hown, hts⟩ (c_X2_goesAlong l dC dI H.size t5 _ e9) (va_cwS 1 hts gX0_sendOnWay_X2_goesAlong rfl rfl rfl (by decide +kernel) ⟨Nat.le_of_ble_eq_true rfl, Nat.le_of_ble_eq_true rfl⟩) hK hP hD hS hA [0, 1, 2, 3, 4, 5, 6, 7, 8, 9, 10, 11] rfl rfl rfl hl.1 (Nat.le_of_ble_eq_true rfl) (Nat.le_of_ble_eq_true rfl) (Nat.le_of_ble_eq_true rfl) rfl dX0_sendOnWay_63 (fun H locs hP hD hS => ?_)
            refine lv_if_eq (tgt := 74) hx hb dX0_sendOnWay_66 (by decide) (fun c9 => ?_) (fun c9 => ?_)
            · have g := ipos c9 g
              refine lv_iload hx hb dX0_sendOnWay_74 (lv_at hl 5 rfl) ?_
              refine lv_ineg hx hb dX0_sendOnWay_76 ?_
              refine lv_iadd hx hb dX0_sendOnWay_77 ?_
              obtain ⟨cO_9, e9, g⟩ := bd g
              refine q_iast (ws2 := wX0 cyI cf nw aF aT aP aC aU aO aL aH aD aB nN nA nF nT nP nC nU cO_9 cL cH cD cB) hx hb hK hP hD hS 7 0 rfl rfl e9 dX0_sendOnWay_78 rfl (fun H locs hP hD hS => ?_)
              refine lv_aload_n hx hb dX0_sendOnWay_79 rfl (lv_at hl 1 rfl) ?_
              refine va_get (D := (dC, dI)) (ci := 0) (v := .ref nw) (C := RX0) (T := TX0) (N := 6) hx hb hts k5 hown hK hP 0 rfl rfl 0 (by decide) k4 (fun _ h9 => h9) rfl dX0_sendOnWay_80 ?_
              refine lv_iload hx hb dX0_sendOnWay_83 (lv_at hl 0 rfl) ?_
              obtain ⟨r10, e9, g⟩ := bd g
              refine q_callVi (ret := r10) (As := [.int t5]) (w1 := wX2 cyI nw aF aT aP aC aU nN nA nF nT nP nC nU) (ws2 := wX0 cyI cf nw aF aT aP aC aU aO aL aH aD aB nN nA nF nT nP nC nU cO_9 cL cH cD cB) ⟨hx, hb, hml, hown, hts⟩ (c_X2_start l dC dI cyI nw aF aT aP aC aU H.size nN nA nF nT nP nC nU t5 _ e9) (cwV 1 hts gX0_sendOnWay_X2_start rfl rfl rfl (by decide +kernel) ⟨Nat.le_of_ble_eq_true rfl, Nat.le_of_ble_eq_true rfl⟩) hK hP hD hS hA [1, 2, 3, 4, 5, 6] [0, 7, 8, 9, 10, 11] [0, 6, 7, 8, 9, 10, 11, 1, 2, 3, 4, 5] [0] rfl rfl rfl rfl (by decide) rfl rfl rfl 2 0 rfl rfl rfl hl.1 (Nat.le_of_ble_eq_true rfl) (Nat.le_of_ble_eq_true rfl) (Nat.le_of_ble_eq_true rfl) rfl dX0_sendOnWay_85 (fun H locs hP hD hS => ?_)
              refine lv_istore (lv' := [(5, .int r10), (7, .int t5), (0, .ref cf), (1, .int p0), (2, .int p1), (3, .int p2), (4, .int (imin p2 r1)), (6, .int x6_3)]) hx hb dX0_sendOnWay_88 hl (by decide) rfl (fun ls hl => ?_)
              refine lv_iinc (v := x6_3 + 1) (lv' := [(6, .int (x6_3 + 1)), (5, .int r10), (7, .int t5), (0, .ref cf), (1, .int p0), (2, .int p1), (3, .int p2), (4, .int (imin p2 r1))]) hx hb dX0_sendOnWay_90 hl (k := 7) rfl (by rfl) (by decide) rfl (fun ls hl => ?_)
              refine lv_goto (tgt := 18) hx hb dX0_sendOnWay_93 (by decide) ?_
              cases g
              exact ih0 _ _ _ h _ _ hP hD hS _ (lv_sub hl [3, 4, 5, 6, 7, 1, 0] rfl)
            · have g := ineg c9 g
              refine lv_iload hx hb dX0_sendOnWay_69 (lv_at hl 5 rfl) ?_
              refine lv_goto (tgt := 77) hx hb dX0_sendOnWay_71 (by decide) ?_
              refine lv_iadd hx hb dX0_sendOnWay_77 ?_
              obtain ⟨cO_11, e9, g⟩ := bd g
              refine q_iast (ws2 := wX0 cyI cf nw aF aT aP aC aU aO aL aH aD aB nN nA nF nT nP nC nU cO_11 cL cH cD cB) hx hb hK hP hD hS 7 0 rfl rfl e9 dX0_sendOnWay_78 rfl (fun H locs hP hD hS => ?_)
              refine lv_aload_n hx hb dX0_sendOnWay_79 rfl (lv_at hl 1 rfl) ?_
              refine va_get (D := (dC, dI)) (ci := 0) (v := .ref nw) (C := RX0) (T := TX0) (N := 6) hx hb hts k5 hown hK hP 0 rfl rfl 0 (by decide) k4 (fun _ h9 => h9) rfl dX0_sendOnWay_80 ?_
              refine lv_iload hx hb dX0_sendOnWay_83 (lv_at hl 0 rfl) ?_
              obtain ⟨r12, e9, g⟩ := bd g
              refine q_callVi (ret := r12) (As := [.int t5]) (w1 := wX2 cyI nw aF aT aP aC aU nN nA nF nT nP nC nU) (ws2 := wX0 cyI cf nw aF aT aP aC aU aO aL aH aD aB nN nA nF nT nP nC nU cO_11 cL cH cD cB) ⟨hx, hb, hml, hown, hts⟩ (c_X2_start l dC dI cyI nw aF aT aP aC aU H.size nN nA nF nT nP nC nU t5 _ e9) (cwV 1 hts gX0_sendOnWay_X2_start rfl rfl rfl (by decide +kernel) ⟨Nat.le_of_ble_eq_true rfl, Nat.le_of_ble_eq_true rfl⟩) hK hP hD hS hA [1, 2, 3, 4, 5, 6] [0, 7, 8, 9, 10, 11] [0, 6, 7, 8, 9, 10, 11, 1, 2, 3, 4, 5] [0] rfl rfl rfl rfl (by decide) rfl rfl rfl 2 0 rfl rfl rfl hl.1 (Nat.le_of_ble_eq_true rfl) (Nat.le_of_ble_eq_true rfl) (Nat.le_of_ble_eq_true rfl) rfl dX0_sendOnWay_85 (fun H locs hP hD hS => ?_)
              refine lv_istore (lv' := [(5, .int r12), (7, .int t5), (0, .ref cf), (1, .int p0), (2, .int p1), (3, .int p2), (4, .int (imin p2 r1)), (6, .int x6_3)]) hx hb dX0_sendOnWay_88 hl (by decide) rfl (fun ls hl => ?_)
              refine lv_iinc (v := x6_3 + 1) (lv' := [(6, .int (x6_3 + 1)), (5, .int r12), (7, .int t5), (0, .ref cf), (1, .int p0), (2, .int p1), (3, .int p2), (4, .int (imin p2 r1))]) hx hb dX0_sendOnWay_90 hl (k := 7) rfl (by rfl) (by decide) rfl (fun ls hl => ?_)
              refine lv_goto (tgt := 18) hx hb dX0_sendOnWay_93 (by decide) ?_
              cases g
              exact ih0 _ _ _ h _ _ hP hD hS _ (lv_sub hl [3, 4, 5, 6, 7, 1, 0] rfl)
  exact hL0 N _ _ _  e0 _ _ hP hD hS _ (lv_sub hl [3, 4, 5, 6, 2, 1, 0] rfl)
set_option maxHeartbeats 4000000 in
set_option maxRecDepth 100000 in
theorem c_X0_send (l : Launch) (dC : Nat → ClassId) (dI : Nat → Nat → Nat) (cyI : ClassId) (cf nw aF aT aP aC aU aO aL aH aD aB : Nat) (sz : Nat) (nN nA : Int32) (nF nT nP nC nU cO cL cH cD cB : Nat → Int32) (p0 p1 p2 : Int32) (N : Nat) (res : Int32 × (Nat → Int32) × (Nat → Int32)) (h : pX0_send N nN nA nF nT cO cL cH cB p0 p1 p2 = some res) : Met l yX0_send wsX0_send { frames := 4, cells := 0, slots := 0, locals := 95 } (va_Pc [.ref cf, .int p0, .int p1, .int p2] (zPre (dC, dI) (wX0 cyI cf nw aF aT aP aC aU aO aL aH aD aB nN nA nF nT nP nC nU cO cL cH cD cB) [(cyI, .int)] sz)) (zQi (dC, dI) (wX0 cyI cf nw aF aT aP aC aU aO aL aH aD aB nN nA nF nT nP nC nU res.2.1 cL cH cD res.2.2) [(cyI, .int)] (res.1) (va_A (wX0 cyI cf nw aF aT aP aC aU aO aL aH aD aB nN nA nF nT nP nC nU cO cL cH cD cB) sz)) 0 0 (va_A (wX0 cyI cf nw aF aT aP aC aU aO aL aH aD aB nN nA nF nT nP nC nU cO cL cH cD cB) sz) := by
  refine q_ofWi (cc := cX0_send) (maxL := 7) (rt := (some .int)) (by decide) rfl (Nat.le_of_ble_eq_true rfl) ?_
  intro p e s m args below meth c ls A Q H locs hQ hx hb hr hts hown hlocks hml hA hK hP hD hS hl
  have hl : lv_has ls 7 [(0, .ref cf), (1, .int p0), (2, .int p1), (3, .int p2)] := hl
  unfold pX0_send at h
  refine lv_iconst (v := 0) hx hb dX0_send_0 (by decide) ?_
  refine lv_istore (lv' := [(4, .int 0), (0, .ref cf), (1, .int p0), (2, .int p1), (3, .int p2)]) hx hb dX0_send_1 hl (by decide) rfl (fun ls hl => ?_)
  refine lv_iconst (v := 0) hx hb dX0_send_3 (by decide) ?_
  refine lv_istore (lv' := [(5, .int 0), (4, .int 0), (0, .ref cf), (1, .int p0), (2, .int p1), (3, .int p2)]) hx hb dX0_send_4 hl (by decide) rfl (fun ls hl => ?_)
  obtain ⟨o0, e0, h8⟩ := bd h
  have hT0 : ∀ (x4_8 : Int32) (x5_9 : Int32) (cO_10 : Nat → Int32) (cB_11 : Nat → Int32), o0 = .inl ((x4_8, x5_9, cO_10, cB_11)) → ∀ (H : Heap) (locs : List Loc), va_P (dC, dI) vwCl (wX0 cyI cf nw aF aT aP aC aU aO aL aH aD aB nN nA nF nT nP nC nU cO_10 cL cH cD cB_11) H → va_D A (wX0 cyI cf nw aF aT aP aC aU aO aL aH aD aB nN nA nF nT nP nC nU cO_10 cL cH cD cB_11) → va_S A s.heap H locs → ∀ ls : Array Slot, lv_has ls 7 [(0, .ref cf), (1, .int p0), (2, .int p1), (3, .int p2), (4, .int x4_8), (5, .int x5_9)] → W p l e { frames := 4, cells := 0, slots := 0, locals := 95 } s m args below meth c H locs 0 0 Q (F0 m 56 ls []) := by
    intro x4_8 x5_9 cO_10 cB_11 ho H locs hP hD hS ls hl
    rw [ho] at h8
    have h := h8
    refine lv_iload hx hb dX0_send_56 (lv_at hl 4 rfl) ?_
    cases h
    exact q_iret hQ hx hb hr hlocks hP hK hD hS dX0_send_58
  have hL0 : ∀ (n9 : Nat) (x4_1 : Int32) (x5_2 : Int32) (cO_3 : Nat → Int32) (cB_4 : Nat → Int32), lp (un4 (pX0_send_l6 N cH cL nA nF nN nT p0 p1 p2)) n9 ((x4_1, x5_2, cO_3, cB_4)) = some o0 → ∀ (H : Heap) (locs : List Loc), va_P (dC, dI) vwCl (wX0 cyI cf nw aF aT aP aC aU aO aL aH aD aB nN nA nF nT nP nC nU cO_3 cL cH cD cB_4) H → va_D A (wX0 cyI cf nw aF aT aP aC aU aO aL aH aD aB nN nA nF nT nP nC nU cO_3 cL cH cD cB_4) → va_S A s.heap H locs → ∀ ls : Array Slot, lv_has ls 7 [(0, .ref cf), (1, .int p0), (2, .int p1), (3, .int p2), (4, .int x4_1), (5, .int x5_2)] → W p l e { frames := 4, cells := 0, slots := 0, locals := 95 } s m args below meth c H locs 0 0 Q (F0 m 6 ls []) := by
    intro n9
    induction n9 with
    | zero =>
      intro x4_1 x5_2 cO_3 cB_4 h
      exact lp0 h
    | succ n9 ih0 =>
      intro x4_1 x5_2 cO_3 cB_4 h H locs hP hD hS ls hl
      obtain ⟨o9, g, h⟩ := lps h
      replace g : pX0_send_l6 N cH cL nA nF nN nT p0 p1 p2 x4_1 x5_2 cO_3 cB_4 = some o9 := g
      unfold pX0_send_l6 at g
      refine lv_iload hx hb dX0_send_6 (lv_at hl 5 rfl) ?_
      refine lv_iload_n hx hb dX0_send_8 rfl (lv_at hl 3 rfl) ?_
      refine lv_icmp_ge (tgt := 56) hx hb dX0_send_9 (by decide) (fun c9 => ?_) (fun c9 => ?_)
      · have g := ipos c9 g
        cases g
        have h := lpx h
        subst h
        exact hT0 _ _ _ _ rfl _ _ hP hD hS _ (lv_sub hl [0, 1, 2, 3, 4, 5] rfl)
      · have g := ineg c9 g
        refine lv_iload hx hb dX0_send_12 (lv_at hl 4 rfl) ?_
        refine lv_iload_n hx hb dX0_send_14 rfl (lv_at hl 3 rfl) ?_
        refine lv_icmp_ge (tgt := 56) hx hb dX0_send_15 (by decide) (fun c9 => ?_) (fun c9 => ?_)
        · have g := ipos c9 g
          cases g
          have h := lpx h
          subst h
          exact hT0 _ _ _ _ rfl _ _ hP hD hS _ (lv_sub hl [0, 1, 2, 3, 4, 5] rfl)
        · have g := ineg c9 g
          refine lv_aload_n hx hb dX0_send_18 rfl (lv_at hl 0 rfl) ?_
          refine lv_iload_n hx hb dX0_send_19 rfl (lv_at hl 1 rfl) ?_
          obtain ⟨cB_5, e9, g⟩ := bd g
          refine q_callVv (As := [.int p0]) (w1 := wX0 cyI cf nw aF aT aP aC aU aO aL aH aD aB nN nA nF nT nP nC nU cO_3 cL cH cD cB_5) (ws2 := wX0 cyI cf nw aF aT aP aC aU aO aL aH aD aB nN nA nF nT nP nC nU cO_3 cL cH cD cB_5) ⟨hx, hb, hml, hown, hts⟩ (c_X0_spreadFrom l dC dI cyI cf nw aF aT aP aC aU aO aL aH aD aB H.size nN nA nF nT nP nC nU cO_3 cL cH cD cB_4 p0 N _ e9) (cwV 1 hts gX0_send_X0_spreadFrom rfl rfl rfl (by decide +kernel) ⟨Nat.le_of_ble_eq_true rfl, Nat.le_of_ble_eq_true rfl⟩) hK hP hD hS hA [0, 1, 2, 3, 4, 5, 6, 7, 8, 9, 10, 11] [] [0, 1, 2, 3, 4, 5, 6, 7, 8, 9, 10, 11] [0] rfl rfl rfl rfl (by decide) rfl rfl rfl 0 0 rfl rfl rfl hl.1 (Nat.le_of_ble_eq_true rfl) (Nat.le_of_ble_eq_true rfl) (Nat.le_of_ble_eq_true rfl) rfl dX0_send_20 (fun H locs hP hD hS => ?_)
          refine lv_aload_n hx hb dX0_send_23 rfl (lv_at hl 0 rfl) ?_
          refine lv_iload_n hx hb dX0_send_24 rfl (lv_at hl 1 rfl) ?_
          refine lv_iload_n hx hb dX0_send_25 rfl (lv_at hl 2 rfl) ?_
          refine lv_iload_n hx hb dX0_send_26 rfl (lv_at hl 3 rfl) ?_
          refine lv_iload hx hb dX0_send_27 (lv_at hl 4 rfl) ?_
          refine lv_isub hx hb dX0_send_29 ?_
          obtain ⟨r6, cO_7, e9, g⟩ := bd2 g
          refine q_callVi (ret := r6) (As := [.int p0, .int p1, .int (p2 - x4_1)]) (w1 := wX0 cyI cf nw aF aT aP aC aU aO aL aH aD aB nN nA nF nT nP nC nU cO_7 cL cH cD cB_5) (ws2 := wX0 cyI cf nw aF aT aP aC aU aO aL aH aD aB nN nA nF nT nP nC nU cO_7 cL cH cD cB_5) ⟨hx, hb, hml, hown, hts⟩ (c_X0_sendOnWay l dC dI cyI cf nw aF aT aP aC aU aO aL aH aD aB H.size nN nA nF nT nP nC nU cO_3 cL cH cD cB_5 p0 p1 (p2 - x4_1) N _ e9) (cwV 3 hts gX0_send_X0_sendOnWay rfl rfl rfl (by decide +kernel) ⟨Nat.le_of_ble_eq_true rfl, Nat.le_of_ble_eq_true rfl⟩) hK hP hD hS hA [0, 1, 2, 3, 4, 5, 6, 7, 8, 9, 10, 11] [] [0, 1, 2, 3, 4, 5, 6, 7, 8, 9, 10, 11] [0] rfl rfl rfl rfl (by decide) rfl rfl rfl 0 0 rfl rfl rfl hl.1 (Nat.le_of_ble_eq_true rfl) (Nat.le_of_ble_eq_true rfl) (Nat.le_of_ble_eq_true rfl) rfl dX0_send_30 (fun H locs hP hD hS => ?_)
          refine lv_istore (lv' := [(6, .int r6), (0, .ref cf), (1, .int p0), (2, .int p1), (3, .int p2), (4, .int x4_1), (5, .int x5_2)]) hx hb dX0_send_33 hl (by decide) rfl (fun ls hl => ?_)
          refine lv_iload hx hb dX0_send_35 (lv_at hl 0 rfl) ?_
          refine lv_if_ne (tgt := 43) hx hb dX0_send_37 (by decide) (fun c9 => ?_) (fun c9 => ?_)
          · have g := ineg c9 g
            refine lv_iload hx hb dX0_send_43 (lv_at hl 5 rfl) ?_
            refine lv_iload hx hb dX0_send_45 (lv_at hl 0 rfl) ?_
            refine lv_iadd hx hb dX0_send_47 ?_
            refine lv_istore (lv' := [(4, .int (x4_1 + r6)), (6, .int r6), (0, .ref cf), (1, .int p0), (2, .int p1), (3, .int p2), (5, .int x5_2)]) hx hb dX0_send_48 hl (by decide) rfl (fun ls hl => ?_)
            refine lv_iinc (v := x5_2 + 1) (lv' := [(5, .int (x5_2 + 1)), (4, .int (x4_1 + r6)), (6, .int r6), (0, .ref cf), (1, .int p0), (2, .int p1), (3, .int p2)]) hx hb dX0_send_50 hl (k := 6) rfl (by rfl) (by decide) rfl (fun ls hl => ?_)
            refine lv_goto (tgt := 6) hx hb dX0_send_53 (by decide) ?_
            cases g
            exact ih0 _ _ _ _ h _ _ hP hD hS _ (lv_sub hl [3, 4, 5, 6, 1, 0] rfl)
          · have g := ipos c9 g
            refine lv_iload hx hb dX0_send_40 (lv_at hl 5 rfl) ?_
            cases g
            have h := lpx h
            subst h
            have h := selr h8
            cases h
            exact q_iret hQ hx hb hr hlocks hP hK hD hS dX0_send_42
  exact hL0 N _ _ _ _  e0 _ _ hP hD hS _ (lv_sub hl [2, 3, 4, 5, 1, 0] rfl)
set_option maxHeartbeats 4000000 in
set_option maxRecDepth 100000 in
theorem c_X0_empty (l : Launch) (dC : Nat → ClassId) (dI : Nat → Nat → Nat) (cyI : ClassId) (cf nw aF aT aP aC aU aO aL aH aD aB : Nat) (sz : Nat) (nN nA : Int32) (nF nT nP nC nU cO cL cH cD cB : Nat → Int32) (N : Nat) (res : (Nat → Int32) × (Nat → Int32) × (Nat → Int32)) (h : pX0_empty N nA nC cO cL cH = some res) : Met l yX0_empty wsX0_empty { frames := 0, cells := 0, slots := 0, locals := 0 } (va_Pc [.ref cf] (zPre (dC, dI) (wX0 cyI cf nw aF aT aP aC aU aO aL aH aD aB nN nA nF nT nP nC nU cO cL cH cD cB) [(cyI, .int)] sz)) (zQv (dC, dI) (wX0 cyI cf nw aF aT aP aC aU aO aL aH aD aB nN nA nF nT nP nC nU res.1 res.2.1 res.2.2 cD cB) [(cyI, .int)] (va_A (wX0 cyI cf nw aF aT aP aC aU aO aL aH aD aB nN nA nF nT nP nC nU cO cL cH cD cB) sz)) 0 0 (va_A (wX0 cyI cf nw aF aT aP aC aU aO aL aH aD aB nN nA nF nT nP nC nU cO cL cH cD cB) sz) := by
  refine q_ofWv (cc := cX0_empty) (maxL := 2) (rt := none) (by decide) rfl (Nat.le_of_ble_eq_true rfl) ?_
  intro p e s m args below meth c ls A Q H locs hQ hx hb hr hts hown hlocks hml hA hK hP hD hS hl
  have hl : lv_has ls 2 [(0, .ref cf)] := hl
  have k0 := hts (.fieldLink RX0 27 "ConvexConduit$CheapestFlow" "network" "LConvexConduit$Network;") (by decide +kernel)
  have k1 : ∀ w ∈ u_ws RX0 TX0 6, w ∈ wsX0_empty := by decide +kernel
  have k2 := hts (.fieldLink RX0 45 "ConvexConduit$Network" "arcs" "I") (by decide +kernel)
  have k3 : ∀ w ∈ u_ws RX2 TX2 7, w ∈ wsX0_empty := by decide +kernel
  have k4 := hts (.fieldLink RX0 9 "ConvexConduit$CheapestFlow" "on" "[I") (by decide +kernel)
  have k5 := hts (.fieldLink RX0 15 "ConvexConduit$CheapestFlow" "low" "[I") (by decide +kernel)
  have k6 := hts (.fieldLink RX0 18 "ConvexConduit$CheapestFlow" "high" "[I") (by decide +kernel)
  have k7 := hts (.fieldLink RX0 65 "ConvexConduit$Network" "capacity" "[I") (by decide +kernel)
  unfold pX0_empty at h
  refine lv_iconst (v := 0) hx hb dX0_empty_0 (by decide) ?_
  refine lv_istore_n (lv' := [(1, .int 0), (0, .ref cf)]) hx hb dX0_empty_1 rfl hl (by decide) rfl (fun ls hl => ?_)
  obtain ⟨x1_9, cO_10, cL_11, cH_12, e0, h⟩ := bd4 h
  have hT0 : ∀ (H : Heap) (locs : List Loc), va_P (dC, dI) vwCl (wX0 cyI cf nw aF aT aP aC aU aO aL aH aD aB nN nA nF nT nP nC nU cO_10 cL_11 cH_12 cD cB) H → va_D A (wX0 cyI cf nw aF aT aP aC aU aO aL aH aD aB nN nA nF nT nP nC nU cO_10 cL_11 cH_12 cD cB) → va_S A s.heap H locs → ∀ ls : Array Slot, lv_has ls 2 [(0, .ref cf), (1, .int x1_9)] → W p l e { frames := 0, cells := 0, slots := 0, locals := 0 } s m args below meth c H locs 0 0 Q (F0 m 48 ls []) := by
    intro H locs hP hD hS ls hl
    cases h
    exact q_vret hQ hx hb hr hlocks hP hK hD hS dX0_empty_48
  have hL0 : ∀ (n9 : Nat) (x1_1 : Int32) (cO_2 : Nat → Int32) (cL_3 : Nat → Int32) (cH_4 : Nat → Int32), lp (un4 (pX0_empty_l2 nA nC)) n9 ((x1_1, cO_2, cL_3, cH_4)) = some ((x1_9, cO_10, cL_11, cH_12)) → ∀ (H : Heap) (locs : List Loc), va_P (dC, dI) vwCl (wX0 cyI cf nw aF aT aP aC aU aO aL aH aD aB nN nA nF nT nP nC nU cO_2 cL_3 cH_4 cD cB) H → va_D A (wX0 cyI cf nw aF aT aP aC aU aO aL aH aD aB nN nA nF nT nP nC nU cO_2 cL_3 cH_4 cD cB) → va_S A s.heap H locs → ∀ ls : Array Slot, lv_has ls 2 [(0, .ref cf), (1, .int x1_1)] → W p l e { frames := 0, cells := 0, slots := 0, locals := 0 } s m args below meth c H locs 0 0 Q (F0 m 2 ls []) := by
    intro n9
    induction n9 with
    | zero =>
      intro x1_1 cO_2 cL_3 cH_4 h
      exact lp0 h
    | succ n9 ih0 =>
      intro x1_1 cO_2 cL_3 cH_4 h H locs hP hD hS ls hl
      obtain ⟨o9, g, h⟩ := lps h
      replace g : pX0_empty_l2 nA nC x1_1 cO_2 cL_3 cH_4 = some o9 := g
      unfold pX0_empty_l2 at g
      refine lv_iload_n hx hb dX0_empty_2 rfl (lv_at hl 1 rfl) ?_
      refine lv_aload_n hx hb dX0_empty_3 rfl (lv_at hl 0 rfl) ?_
      refine va_get (D := (dC, dI)) (ci := 0) (v := .ref nw) (C := RX0) (T := TX0) (N := 6) hx hb hts k1 hown hK hP 0 rfl rfl 0 (by decide) k0 (fun _ h9 => h9) rfl dX0_empty_4 ?_
      refine va_get (D := (dC, dI)) (ci := 2) (v := .int nA) (C := RX2) (T := TX2) (N := 7) hx hb hts k3 hown hK hP 1 rfl rfl 1 (by decide) k2 (fun _ h9 => h9) rfl dX0_empty_7 ?_
      refine lv_icmp_ge (tgt := 48) hx hb dX0_empty_10 (by decide) (fun c9 => ?_) (fun c9 => ?_)
      · have g := ipos c9 g
        cases g
        have h := lpx h
        cases h
        exact hT0 _ _ hP hD hS _ (lv_sub hl [0, 1] rfl)
      · have g := ineg c9 g
        refine lv_aload_n hx hb dX0_empty_13 rfl (lv_at hl 0 rfl) ?_
        refine va_get (D := (dC, dI)) (ci := 0) (v := .ref aO) (C := RX0) (T := TX0) (N := 6) hx hb hts k1 hown hK hP 0 rfl rfl 1 (by decide) k4 (fun _ h9 => h9) rfl dX0_empty_14 ?_
        refine lv_iload_n hx hb dX0_empty_17 rfl (lv_at hl 1 rfl) ?_
        refine lv_iconst (v := 0) hx hb dX0_empty_18 (by decide) ?_
        obtain ⟨cO_5, e9, g⟩ := bd g
        refine q_iast (ws2 := wX0 cyI cf nw aF aT aP aC aU aO aL aH aD aB nN nA nF nT nP nC nU cO_5 cL_3 cH_4 cD cB) hx hb hK hP hD hS 7 0 rfl rfl e9 dX0_empty_19 rfl (fun H locs hP hD hS => ?_)
        refine lv_aload_n hx hb dX0_empty_20 rfl (lv_at hl 0 rfl) ?_
        refine va_get (D := (dC, dI)) (ci := 0) (v := .ref aL) (C := RX0) (T := TX0) (N := 6) hx hb hts k1 hown hK hP 0 rfl rfl 2 (by decide) k5 (fun _ h9 => h9) rfl dX0_empty_21 ?_
        refine lv_iload_n hx hb dX0_empty_24 rfl (lv_at hl 1 rfl) ?_
        refine lv_iconst (v := 0) hx hb dX0_empty_25 (by decide) ?_
        obtain ⟨cL_6, e9, g⟩ := bd g
        refine q_iast (ws2 := wX0 cyI cf nw aF aT aP aC aU aO aL aH aD aB nN nA nF nT nP nC nU cO_5 cL_6 cH_4 cD cB) hx hb hK hP hD hS 8 0 rfl rfl e9 dX0_empty_26 rfl (fun H locs hP hD hS => ?_)
        refine lv_aload_n hx hb dX0_empty_27 rfl (lv_at hl 0 rfl) ?_
        refine va_get (D := (dC, dI)) (ci := 0) (v := .ref aH) (C := RX0) (T := TX0) (N := 6) hx hb hts k1 hown hK hP 0 rfl rfl 3 (by decide) k6 (fun _ h9 => h9) rfl dX0_empty_28 ?_
        refine lv_iload_n hx hb dX0_empty_31 rfl (lv_at hl 1 rfl) ?_
        refine lv_aload_n hx hb dX0_empty_32 rfl (lv_at hl 0 rfl) ?_
        refine va_get (D := (dC, dI)) (ci := 0) (v := .ref nw) (C := RX0) (T := TX0) (N := 6) hx hb hts k1 hown hK hP 0 rfl rfl 0 (by decide) k0 (fun _ h9 => h9) rfl dX0_empty_33 ?_
        refine va_get (D := (dC, dI)) (ci := 2) (v := .ref aC) (C := RX2) (T := TX2) (N := 7) hx hb hts k3 hown hK hP 1 rfl rfl 5 (by decide) k7 (fun _ h9 => h9) rfl dX0_empty_36 ?_
        refine lv_iload_n hx hb dX0_empty_39 rfl (lv_at hl 1 rfl) ?_
        obtain ⟨t7, e9, g⟩ := bd g
        refine q_iald hx hb hK hP 5 0 rfl rfl e9 dX0_empty_40 ?_
        obtain ⟨cH_8, e9, g⟩ := bd g
        refine q_iast (ws2 := wX0 cyI cf nw aF aT aP aC aU aO aL aH aD aB nN nA nF nT nP nC nU cO_5 cL_6 cH_8 cD cB) hx hb hK hP hD hS 9 0 rfl rfl e9 dX0_empty_41 rfl (fun H locs hP hD hS => ?_)
        refine lv_iinc (v := x1_1 + 1) (lv' := [(1, .int (x1_1 + 1)), (0, .ref cf)]) hx hb dX0_empty_42 hl (k := 1) rfl (by rfl) (by decide) rfl (fun ls hl => ?_)
        refine lv_goto (tgt := 2) hx hb dX0_empty_45 (by decide) ?_
        cases g
        exact ih0 _ _ _ _ h _ _ hP hD hS _ (lv_sub hl [1, 0] rfl)
  exact hL0 N _ _ _ _  e0 _ _ hP hD hS _ (lv_sub hl [1, 0] rfl)
set_option maxHeartbeats 4000000 in
set_option maxRecDepth 100000 in
theorem c_X0_hold (l : Launch) (dC : Nat → ClassId) (dI : Nat → Nat → Nat) (cyI : ClassId) (cf nw aF aT aP aC aU aO aL aH aD aB : Nat) (sz : Nat) (nN nA : Int32) (nF nT nP nC nU cO cL cH cD cB : Nat → Int32) (p0 : Int32) (res : (Nat → Int32) × (Nat → Int32)) (h : pX0_hold cO cL cH p0 = some res) : Met l yX0_hold wsX0_hold { frames := 0, cells := 0, slots := 0, locals := 0 } (va_Pc [.ref cf, .int p0] (zPre (dC, dI) (wX0 cyI cf nw aF aT aP aC aU aO aL aH aD aB nN nA nF nT nP nC nU cO cL cH cD cB) [(cyI, .int)] sz)) (zQv (dC, dI) (wX0 cyI cf nw aF aT aP aC aU aO aL aH aD aB nN nA nF nT nP nC nU cO res.1 res.2 cD cB) [(cyI, .int)] (va_A (wX0 cyI cf nw aF aT aP aC aU aO aL aH aD aB nN nA nF nT nP nC nU cO cL cH cD cB) sz)) 0 0 (va_A (wX0 cyI cf nw aF aT aP aC aU aO aL aH aD aB nN nA nF nT nP nC nU cO cL cH cD cB) sz) := by
  refine q_ofWv (cc := cX0_hold) (maxL := 2) (rt := none) (by decide) rfl (Nat.le_of_ble_eq_true rfl) ?_
  intro p e s m args below meth c ls A Q H locs hQ hx hb hr hts hown hlocks hml hA hK hP hD hS hl
  have hl : lv_has ls 2 [(0, .ref cf), (1, .int p0)] := hl
  have k0 := hts (.fieldLink RX0 15 "ConvexConduit$CheapestFlow" "low" "[I") (by decide +kernel)
  have k1 : ∀ w ∈ u_ws RX0 TX0 6, w ∈ wsX0_hold := by decide +kernel
  have k2 := hts (.fieldLink RX0 9 "ConvexConduit$CheapestFlow" "on" "[I") (by decide +kernel)
  have k3 := hts (.fieldLink RX0 18 "ConvexConduit$CheapestFlow" "high" "[I") (by decide +kernel)
  unfold pX0_hold at h
  refine lv_aload_n hx hb dX0_hold_0 rfl (lv_at hl 0 rfl) ?_
  refine va_get (D := (dC, dI)) (ci := 0) (v := .ref aL) (C := RX0) (T := TX0) (N := 6) hx hb hts k1 hown hK hP 0 rfl rfl 2 (by decide) k0 (fun _ h9 => h9) rfl dX0_hold_1 ?_
  refine lv_iload_n hx hb dX0_hold_4 rfl (lv_at hl 1 rfl) ?_
  refine lv_aload_n hx hb dX0_hold_5 rfl (lv_at hl 0 rfl) ?_
  refine va_get (D := (dC, dI)) (ci := 0) (v := .ref aO) (C := RX0) (T := TX0) (N := 6) hx hb hts k1 hown hK hP 0 rfl rfl 1 (by decide) k2 (fun _ h9 => h9) rfl dX0_hold_6 ?_
  refine lv_iload_n hx hb dX0_hold_9 rfl (lv_at hl 1 rfl) ?_
  obtain ⟨t1, e9, h⟩ := bd h
  refine q_iald hx hb hK hP 7 0 rfl rfl e9 dX0_hold_10 ?_
  obtain ⟨cL_2, e9, h⟩ := bd h
  refine q_iast (ws2 := wX0 cyI cf nw aF aT aP aC aU aO aL aH aD aB nN nA nF nT nP nC nU cO cL_2 cH cD cB) hx hb hK hP hD hS 8 0 rfl rfl e9 dX0_hold_11 rfl (fun H locs hP hD hS => ?_)
  refine lv_aload_n hx hb dX0_hold_12 rfl (lv_at hl 0 rfl) ?_
  refine va_get (D := (dC, dI)) (ci := 0) (v := .ref aH) (C := RX0) (T := TX0) (N := 6) hx hb hts k1 hown hK hP 0 rfl rfl 3 (by decide) k3 (fun _ h9 => h9) rfl dX0_hold_13 ?_
  refine lv_iload_n hx hb dX0_hold_16 rfl (lv_at hl 1 rfl) ?_
  refine lv_aload_n hx hb dX0_hold_17 rfl (lv_at hl 0 rfl) ?_
  refine va_get (D := (dC, dI)) (ci := 0) (v := .ref aO) (C := RX0) (T := TX0) (N := 6) hx hb hts k1 hown hK hP 0 rfl rfl 1 (by decide) k2 (fun _ h9 => h9) rfl dX0_hold_18 ?_
  refine lv_iload_n hx hb dX0_hold_21 rfl (lv_at hl 1 rfl) ?_
  obtain ⟨t3, e9, h⟩ := bd h
  refine q_iald hx hb hK hP 7 0 rfl rfl e9 dX0_hold_22 ?_
  obtain ⟨cH_4, e9, h⟩ := bd h
  refine q_iast (ws2 := wX0 cyI cf nw aF aT aP aC aU aO aL aH aD aB nN nA nF nT nP nC nU cO cL_2 cH_4 cD cB) hx hb hK hP hD hS 9 0 rfl rfl e9 dX0_hold_23 rfl (fun H locs hP hD hS => ?_)
  cases h
  exact q_vret hQ hx hb hr hlocks hP hK hD hS dX0_hold_24
set_option maxHeartbeats 4000000 in
set_option maxRecDepth 100000 in
theorem c_X0_lower (l : Launch) (dC : Nat → ClassId) (dI : Nat → Nat → Nat) (cyI : ClassId) (cf nw aF aT aP aC aU aO aL aH aD aB : Nat) (sz : Nat) (nN nA : Int32) (nF nT nP nC nU cO cL cH cD cB : Nat → Int32) (p0 : Int32) (N : Nat) (res : Int32 × (Nat → Int32) × (Nat → Int32) × (Nat → Int32) × (Nat → Int32)) (h : pX0_lower N nN nA nF nT cO cL cH cB p0 = some res) : Met l yX0_lower wsX0_lower { frames := 5, cells := 0, slots := 0, locals := 121 } (va_Pc [.ref cf, .int p0] (zPre (dC, dI) (wX0 cyI cf nw aF aT aP aC aU aO aL aH aD aB nN nA nF nT nP nC nU cO cL cH cD cB) [(cyI, .int)] sz)) (zQi (dC, dI) (wX0 cyI cf nw aF aT aP aC aU aO aL aH aD aB nN nA nF nT nP nC nU res.2.1 res.2.2.1 res.2.2.2.1 cD res.2.2.2.2) [(cyI, .int)] (res.1) (va_A (wX0 cyI cf nw aF aT aP aC aU aO aL aH aD aB nN nA nF nT nP nC nU cO cL cH cD cB) sz)) 0 0 (va_A (wX0 cyI cf nw aF aT aP aC aU aO aL aH aD aB nN nA nF nT nP nC nU cO cL cH cD cB) sz) := by
  refine q_ofWi (cc := cX0_lower) (maxL := 3) (rt := (some .int)) (by decide) rfl (Nat.le_of_ble_eq_true rfl) ?_
  intro p e s m args below meth c ls A Q H locs hQ hx hb hr hts hown hlocks hml hA hK hP hD hS hl
  have hl : lv_has ls 3 [(0, .ref cf), (1, .int p0)] := hl
  have k0 := hts (.fieldLink RX0 9 "ConvexConduit$CheapestFlow" "on" "[I") (by decide +kernel)
  have k1 : ∀ w ∈ u_ws RX0 TX0 6, w ∈ wsX0_lower := by decide +kernel
  have k2 := hts (.fieldLink RX0 15 "ConvexConduit$CheapestFlow" "low" "[I") (by decide +kernel)
  have k3 := hts (.fieldLink RX0 27 "ConvexConduit$CheapestFlow" "network" "LConvexConduit$Network;") (by decide +kernel)
  have k4 := hts (.fieldLink RX0 62 "ConvexConduit$Network" "from" "[I") (by decide +kernel)
  have k5 : ∀ w ∈ u_ws RX2 TX2 7, w ∈ wsX0_lower := by decide +kernel
  have k6 := hts (.fieldLink RX0 59 "ConvexConduit$Network" "to" "[I") (by decide +kernel)
  unfold pX0_lower at h
  refine lv_aload_n hx hb dX0_lower_0 rfl (lv_at hl 0 rfl) ?_
  refine va_get (D := (dC, dI)) (ci := 0) (v := .ref aO) (C := RX0) (T := TX0) (N := 6) hx hb hts k1 hown hK hP 0 rfl rfl 1 (by decide) k0 (fun _ h9 => h9) rfl dX0_lower_1 ?_
  refine lv_iload_n hx hb dX0_lower_4 rfl (lv_at hl 1 rfl) ?_
  obtain ⟨t1, e9, h⟩ := bd h
  refine q_iald hx hb hK hP 7 0 rfl rfl e9 dX0_lower_5 ?_
  refine lv_aload_n hx hb dX0_lower_6 rfl (lv_at hl 0 rfl) ?_
  refine va_get (D := (dC, dI)) (ci := 0) (v := .ref aL) (C := RX0) (T := TX0) (N := 6) hx hb hts k1 hown hK hP 0 rfl rfl 2 (by decide) k2 (fun _ h9 => h9) rfl dX0_lower_7 ?_
  refine lv_iload_n hx hb dX0_lower_10 rfl (lv_at hl 1 rfl) ?_
  obtain ⟨t2, e9, h⟩ := bd h
  refine q_iald hx hb hK hP 8 0 rfl rfl e9 dX0_lower_11 ?_
  refine lv_isub hx hb dX0_lower_12 ?_
  refine lv_istore_n (lv' := [(2, .int (t1 - t2)), (0, .ref cf), (1, .int p0)]) hx hb dX0_lower_13 rfl hl (by decide) rfl (fun ls hl => ?_)
  refine lv_aload_n hx hb dX0_lower_14 rfl (lv_at hl 1 rfl) ?_
  refine lv_iload_n hx hb dX0_lower_15 rfl (lv_at hl 2 rfl) ?_
  obtain ⟨cL_3, cH_4, e9, h⟩ := bd2 h
  refine q_callVv (As := [.int p0]) (w1 := wX0 cyI cf nw aF aT aP aC aU aO aL aH aD aB nN nA nF nT nP nC nU cO cL_3 cH_4 cD cB) (ws2 := wX0 cyI cf nw aF aT aP aC aU aO aL aH aD aB nN nA nF nT nP nC nU cO cL_3 cH_4 cD cB) ⟨hx, hb, hml, hown, hts⟩ (c_X0_hold l dC dI cyI cf nw aF aT aP aC aU aO aL aH aD aB H.size nN nA nF nT nP nC nU cO cL cH cD cB p0 _ e9) (cwV 1 hts gX0_lower_X0_hold rfl rfl rfl (by decide +kernel) ⟨Nat.le_of_ble_eq_true rfl, Nat.le_of_ble_eq_true rfl⟩) hK hP hD hS hA [0, 1, 2, 3, 4, 5, 6, 7, 8, 9, 10, 11] [] [0, 1, 2, 3, 4, 5, 6, 7, 8, 9, 10, 11] [0] rfl rfl rfl rfl (by decide) rfl rfl rfl 0 0 rfl rfl rfl hl.1 (Nat.le_of_ble_eq_true rfl) (Nat.le_of_ble_eq_true rfl) (Nat.le_of_ble_eq_true rfl) rfl dX0_lower_16 (fun H locs hP hD hS => ?_)
  refine lv_aload_n hx hb dX0_lower_19 rfl (lv_at hl 1 rfl) ?_
  refine va_get (D := (dC, dI)) (ci := 0) (v := .ref aO) (C := RX0) (T := TX0) (N := 6) hx hb hts k1 hown hK hP 0 rfl rfl 1 (by decide) k0 (fun _ h9 => h9) rfl dX0_lower_20 ?_
  refine lv_iload_n hx hb dX0_lower_23 rfl (lv_at hl 2 rfl) ?_
  refine lv_dup2_11 hx hb dX0_lower_24 rfl rfl ?_
  obtain ⟨t5, e9, h⟩ := bd h
  refine q_iald hx hb hK hP 7 0 rfl rfl e9 dX0_lower_25 ?_
  refine lv_aload_n hx hb dX0_lower_26 rfl (lv_at hl 1 rfl) ?_
  refine lv_aload_n hx hb dX0_lower_27 rfl (lv_at hl 1 rfl) ?_
  refine va_get (D := (dC, dI)) (ci := 0) (v := .ref nw) (C := RX0) (T := TX0) (N := 6) hx hb hts k1 hown hK hP 0 rfl rfl 0 (by decide) k3 (fun _ h9 => h9) rfl dX0_lower_28 ?_
  refine va_get (D := (dC, dI)) (ci := 2) (v := .ref aF) (C := RX2) (T := TX2) (N := 7) hx hb hts k5 hown hK hP 1 rfl rfl 2 (by decide) k4 (fun _ h9 => h9) rfl dX0_lower_31 ?_
  refine lv_iload_n hx hb dX0_lower_34 rfl (lv_at hl 2 rfl) ?_
  obtain ⟨t6, e9, h⟩ := bd h
  refine q_iald hx hb hK hP 2 0 rfl rfl e9 dX0_lower_35 ?_
  refine lv_aload_n hx hb dX0_lower_36 rfl (lv_at hl 1 rfl) ?_
  refine va_get (D := (dC, dI)) (ci := 0) (v := .ref nw) (C := RX0) (T := TX0) (N := 6) hx hb hts k1 hown hK hP 0 rfl rfl 0 (by decide) k3 (fun _ h9 => h9) rfl dX0_lower_37 ?_
  refine va_get (D := (dC, dI)) (ci := 2) (v := .ref aT) (C := RX2) (T := TX2) (N := 7) hx hb hts k5 hown hK hP 1 rfl rfl 3 (by decide) k6 (fun _ h9 => h9) rfl dX0_lower_40 ?_
  refine lv_iload_n hx hb dX0_lower_43 rfl (lv_at hl 2 rfl) ?_
  obtain ⟨t7, e9, h⟩ := bd h
  refine q_iald hx hb hK hP 3 0 rfl rfl e9 dX0_lower_44 ?_
  refine lv_iload_n hx hb dX0_lower_45 rfl (lv_at hl 0 rfl) ?_
  obtain ⟨r8, cO_9, cB_10, e9, h⟩ := bd3 h
  refine q_callVi (ret := r8) (As := [.int t6, .int t7, .int (t1 - t2)]) (w1 := wX0 cyI cf nw aF aT aP aC aU aO aL aH aD aB nN nA nF nT nP nC nU cO_9 cL_3 cH_4 cD cB_10) (ws2 := wX0 cyI cf nw aF aT aP aC aU aO aL aH aD aB nN nA nF nT nP nC nU cO_9 cL_3 cH_4 cD cB_10) ⟨hx, hb, hml, hown, hts⟩ (c_X0_send l dC dI cyI cf nw aF aT aP aC aU aO aL aH aD aB H.size nN nA nF nT nP nC nU cO cL_3 cH_4 cD cB t6 t7 (t1 - t2) N _ e9) (cwV 3 hts gX0_lower_X0_send rfl rfl rfl (by decide +kernel) ⟨Nat.le_of_ble_eq_true rfl, Nat.le_of_ble_eq_true rfl⟩) hK hP hD hS hA [0, 1, 2, 3, 4, 5, 6, 7, 8, 9, 10, 11] [] [0, 1, 2, 3, 4, 5, 6, 7, 8, 9, 10, 11] [0] rfl rfl rfl rfl (by decide) rfl rfl rfl 0 0 rfl rfl rfl hl.1 (Nat.le_of_ble_eq_true rfl) (Nat.le_of_ble_eq_true rfl) (Nat.le_of_ble_eq_true rfl) rfl dX0_lower_46 (fun H locs hP hD hS => ?_)
  refine lv_isub hx hb dX0_lower_49 ?_
  obtain ⟨cO_11, e9, h⟩ := bd h
  refine q_iast (ws2 := wX0 cyI cf nw aF aT aP aC aU aO aL aH aD aB nN nA nF nT nP nC nU cO_11 cL_3 cH_4 cD cB_10) hx hb hK hP hD hS 7 0 rfl rfl e9 dX0_lower_50 rfl (fun H locs hP hD hS => ?_)
  refine lv_aload_n hx hb dX0_lower_51 rfl (lv_at hl 1 rfl) ?_
  refine lv_iload_n hx hb dX0_lower_52 rfl (lv_at hl 2 rfl) ?_
  obtain ⟨cL_12, cH_13, e9, h⟩ := bd2 h
  refine q_callVv (As := [.int p0]) (w1 := wX0 cyI cf nw aF aT aP aC aU aO aL aH aD aB nN nA nF nT nP nC nU cO_11 cL_12 cH_13 cD cB_10) (ws2 := wX0 cyI cf nw aF aT aP aC aU aO aL aH aD aB nN nA nF nT nP nC nU cO_11 cL_12 cH_13 cD cB_10) ⟨hx, hb, hml, hown, hts⟩ (c_X0_hold l dC dI cyI cf nw aF aT aP aC aU aO aL aH aD aB H.size nN nA nF nT nP nC nU cO_11 cL_3 cH_4 cD cB_10 p0 _ e9) (cwV 1 hts gX0_lower_X0_hold rfl rfl rfl (by decide +kernel) ⟨Nat.le_of_ble_eq_true rfl, Nat.le_of_ble_eq_true rfl⟩) hK hP hD hS hA [0, 1, 2, 3, 4, 5, 6, 7, 8, 9, 10, 11] [] [0, 1, 2, 3, 4, 5, 6, 7, 8, 9, 10, 11] [0] rfl rfl rfl rfl (by decide) rfl rfl rfl 0 0 rfl rfl rfl hl.1 (Nat.le_of_ble_eq_true rfl) (Nat.le_of_ble_eq_true rfl) (Nat.le_of_ble_eq_true rfl) rfl dX0_lower_53 (fun H locs hP hD hS => ?_)
  refine lv_aload_n hx hb dX0_lower_56 rfl (lv_at hl 1 rfl) ?_
  refine va_get (D := (dC, dI)) (ci := 0) (v := .ref aO) (C := RX0) (T := TX0) (N := 6) hx hb hts k1 hown hK hP 0 rfl rfl 1 (by decide) k0 (fun _ h9 => h9) rfl dX0_lower_57 ?_
  refine lv_iload_n hx hb dX0_lower_60 rfl (lv_at hl 2 rfl) ?_
  obtain ⟨t14, e9, h⟩ := bd h
  refine q_iald hx hb hK hP 7 0 rfl rfl e9 dX0_lower_61 ?_
  cases h
  exact q_iret hQ hx hb hr hlocks hP hK hD hS dX0_lower_62
set_option maxHeartbeats 4000000 in
set_option maxRecDepth 100000 in
theorem c_X0_raise (l : Launch) (dC : Nat → ClassId) (dI : Nat → Nat → Nat) (cyI : ClassId) (cf nw aF aT aP aC aU aO aL aH aD aB : Nat) (sz : Nat) (nN nA : Int32) (nF nT nP nC nU cO cL cH cD cB : Nat → Int32) (p0 : Int32) (N : Nat) (res : Int32 × (Nat → Int32) × (Nat → Int32) × (Nat → Int32) × (Nat → Int32)) (h : pX0_raise N nN nA nF nT cO cL cH cB p0 = some res) : Met l yX0_raise wsX0_raise { frames := 5, cells := 0, slots := 0, locals := 121 } (va_Pc [.ref cf, .int p0] (zPre (dC, dI) (wX0 cyI cf nw aF aT aP aC aU aO aL aH aD aB nN nA nF nT nP nC nU cO cL cH cD cB) [(cyI, .int)] sz)) (zQi (dC, dI) (wX0 cyI cf nw aF aT aP aC aU aO aL aH aD aB nN nA nF nT nP nC nU res.2.1 res.2.2.1 res.2.2.2.1 cD res.2.2.2.2) [(cyI, .int)] (res.1) (va_A (wX0 cyI cf nw aF aT aP aC aU aO aL aH aD aB nN nA nF nT nP nC nU cO cL cH cD cB) sz)) 0 0 (va_A (wX0 cyI cf nw aF aT aP aC aU aO aL aH aD aB nN nA nF nT nP nC nU cO cL cH cD cB) sz) := by
  refine q_ofWi (cc := cX0_raise) (maxL := 3) (rt := (some .int)) (by decide) rfl (Nat.le_of_ble_eq_true rfl) ?_
  intro p e s m args below meth c ls A Q H locs hQ hx hb hr hts hown hlocks hml hA hK hP hD hS hl
  have hl : lv_has ls 3 [(0, .ref cf), (1, .int p0)] := hl
  have k0 := hts (.fieldLink RX0 18 "ConvexConduit$CheapestFlow" "high" "[I") (by decide +kernel)
  have k1 : ∀ w ∈ u_ws RX0 TX0 6, w ∈ wsX0_raise := by decide +kernel
  have k2 := hts (.fieldLink RX0 9 "ConvexConduit$CheapestFlow" "on" "[I") (by decide +kernel)
  have k3 := hts (.fieldLink RX0 27 "ConvexConduit$CheapestFlow" "network" "LConvexConduit$Network;") (by decide +kernel)
  have k4 := hts (.fieldLink RX0 59 "ConvexConduit$Network" "to" "[I") (by decide +kernel)
  have k5 : ∀ w ∈ u_ws RX2 TX2 7, w ∈ wsX0_raise := by decide +kernel
  have k6 := hts (.fieldLink RX0 62 "ConvexConduit$Network" "from" "[I") (by decide +kernel)
  unfold pX0_raise at h
  refine lv_aload_n hx hb dX0_raise_0 rfl (lv_at hl 0 rfl) ?_
  refine va_get (D := (dC, dI)) (ci := 0) (v := .ref aH) (C := RX0) (T := TX0) (N := 6) hx hb hts k1 hown hK hP 0 rfl rfl 3 (by decide) k0 (fun _ h9 => h9) rfl dX0_raise_1 ?_
  refine lv_iload_n hx hb dX0_raise_4 rfl (lv_at hl 1 rfl) ?_
  obtain ⟨t1, e9, h⟩ := bd h
  refine q_iald hx hb hK hP 9 0 rfl rfl e9 dX0_raise_5 ?_
  refine lv_aload_n hx hb dX0_raise_6 rfl (lv_at hl 0 rfl) ?_
  refine va_get (D := (dC, dI)) (ci := 0) (v := .ref aO) (C := RX0) (T := TX0) (N := 6) hx hb hts k1 hown hK hP 0 rfl rfl 1 (by decide) k2 (fun _ h9 => h9) rfl dX0_raise_7 ?_
  refine lv_iload_n hx hb dX0_raise_10 rfl (lv_at hl 1 rfl) ?_
  obtain ⟨t2, e9, h⟩ := bd h
  refine q_iald hx hb hK hP 7 0 rfl rfl e9 dX0_raise_11 ?_
  refine lv_isub hx hb dX0_raise_12 ?_
  refine lv_istore_n (lv' := [(2, .int (t1 - t2)), (0, .ref cf), (1, .int p0)]) hx hb dX0_raise_13 rfl hl (by decide) rfl (fun ls hl => ?_)
  refine lv_aload_n hx hb dX0_raise_14 rfl (lv_at hl 1 rfl) ?_
  refine lv_iload_n hx hb dX0_raise_15 rfl (lv_at hl 2 rfl) ?_
  obtain ⟨cL_3, cH_4, e9, h⟩ := bd2 h
  refine q_callVv (As := [.int p0]) (w1 := wX0 cyI cf nw aF aT aP aC aU aO aL aH aD aB nN nA nF nT nP nC nU cO cL_3 cH_4 cD cB) (ws2 := wX0 cyI cf nw aF aT aP aC aU aO aL aH aD aB nN nA nF nT nP nC nU cO cL_3 cH_4 cD cB) ⟨hx, hb, hml, hown, hts⟩ (c_X0_hold l dC dI cyI cf nw aF aT aP aC aU aO aL aH aD aB H.size nN nA nF nT nP nC nU cO cL cH cD cB p0 _ e9) (cwV 1 hts gX0_raise_X0_hold rfl rfl rfl (by decide +kernel) ⟨Nat.le_of_ble_eq_true rfl, Nat.le_of_ble_eq_true rfl⟩) hK hP hD hS hA [0, 1, 2, 3, 4, 5, 6, 7, 8, 9, 10, 11] [] [0, 1, 2, 3, 4, 5, 6, 7, 8, 9, 10, 11] [0] rfl rfl rfl rfl (by decide) rfl rfl rfl 0 0 rfl rfl rfl hl.1 (Nat.le_of_ble_eq_true rfl) (Nat.le_of_ble_eq_true rfl) (Nat.le_of_ble_eq_true rfl) rfl dX0_raise_16 (fun H locs hP hD hS => ?_)
  refine lv_aload_n hx hb dX0_raise_19 rfl (lv_at hl 1 rfl) ?_
  refine va_get (D := (dC, dI)) (ci := 0) (v := .ref aO) (C := RX0) (T := TX0) (N := 6) hx hb hts k1 hown hK hP 0 rfl rfl 1 (by decide) k2 (fun _ h9 => h9) rfl dX0_raise_20 ?_
  refine lv_iload_n hx hb dX0_raise_23 rfl (lv_at hl 2 rfl) ?_
  refine lv_dup2_11 hx hb dX0_raise_24 rfl rfl ?_
  obtain ⟨t5, e9, h⟩ := bd h
  refine q_iald hx hb hK hP 7 0 rfl rfl e9 dX0_raise_25 ?_
  refine lv_aload_n hx hb dX0_raise_26 rfl (lv_at hl 1 rfl) ?_
  refine lv_aload_n hx hb dX0_raise_27 rfl (lv_at hl 1 rfl) ?_
  refine va_get (D := (dC, dI)) (ci := 0) (v := .ref nw) (C := RX0) (T := TX0) (N := 6) hx hb hts k1 hown hK hP 0 rfl rfl 0 (by decide) k3 (fun _ h9 => h9) rfl dX0_raise_28 ?_
  refine va_get (D := (dC, dI)) (ci := 2) (v := .ref aT) (C := RX2) (T := TX2) (N := 7) hx hb hts k5 hown hK hP 1 rfl rfl 3 (by decide) k4 (fun _ h9 => h9) rfl dX0_raise_31 ?_
  refine lv_iload_n hx hb dX0_raise_34 rfl (lv_at hl 2 rfl) ?_
  obtain ⟨t6, e9, h⟩ := bd h
  refine q_iald hx hb hK hP 3 0 rfl rfl e9 dX0_raise_35 ?_
  refine lv_aload_n hx hb dX0_raise_36 rfl (lv_at hl 1 rfl) ?_
  refine va_get (D := (dC, dI)) (ci := 0) (v := .ref nw) (C := RX0) (T := TX0) (N := 6) hx hb hts k1 hown hK hP 0 rfl rfl 0 (by decide) k3 (fun _ h9 => h9) rfl dX0_raise_37 ?_
  refine va_get (D := (dC, dI)) (ci := 2) (v := .ref aF) (C := RX2) (T := TX2) (N := 7) hx hb hts k5 hown hK hP 1 rfl rfl 2 (by decide) k6 (fun _ h9 => h9) rfl dX0_raise_40 ?_
  refine lv_iload_n hx hb dX0_raise_43 rfl (lv_at hl 2 rfl) ?_
  obtain ⟨t7, e9, h⟩ := bd h
  refine q_iald hx hb hK hP 2 0 rfl rfl e9 dX0_raise_44 ?_
  refine lv_iload_n hx hb dX0_raise_45 rfl (lv_at hl 0 rfl) ?_
  obtain ⟨r8, cO_9, cB_10, e9, h⟩ := bd3 h
  refine q_callVi (ret := r8) (As := [.int t6, .int t7, .int (t1 - t2)]) (w1 := wX0 cyI cf nw aF aT aP aC aU aO aL aH aD aB nN nA nF nT nP nC nU cO_9 cL_3 cH_4 cD cB_10) (ws2 := wX0 cyI cf nw aF aT aP aC aU aO aL aH aD aB nN nA nF nT nP nC nU cO_9 cL_3 cH_4 cD cB_10) ⟨hx, hb, hml, hown, hts⟩ (c_X0_send l dC dI cyI cf nw aF aT aP aC aU aO aL aH aD aB H.size nN nA nF nT nP nC nU cO cL_3 cH_4 cD cB t6 t7 (t1 - t2) N _ e9) (cwV 3 hts gX0_raise_X0_send rfl rfl rfl (by decide +kernel) ⟨Nat.le_of_ble_eq_true rfl, Nat.le_of_ble_eq_true rfl⟩) hK hP hD hS hA [0, 1, 2, 3, 4, 5, 6, 7, 8, 9, 10, 11] [] [0, 1, 2, 3, 4, 5, 6, 7, 8, 9, 10, 11] [0] rfl rfl rfl rfl (by decide) rfl rfl rfl 0 0 rfl rfl rfl hl.1 (Nat.le_of_ble_eq_true rfl) (Nat.le_of_ble_eq_true rfl) (Nat.le_of_ble_eq_true rfl) rfl dX0_raise_46 (fun H locs hP hD hS => ?_)
  refine lv_iadd hx hb dX0_raise_49 ?_
  obtain ⟨cO_11, e9, h⟩ := bd h
  refine q_iast (ws2 := wX0 cyI cf nw aF aT aP aC aU aO aL aH aD aB nN nA nF nT nP nC nU cO_11 cL_3 cH_4 cD cB_10) hx hb hK hP hD hS 7 0 rfl rfl e9 dX0_raise_50 rfl (fun H locs hP hD hS => ?_)
  refine lv_aload_n hx hb dX0_raise_51 rfl (lv_at hl 1 rfl) ?_
  refine lv_iload_n hx hb dX0_raise_52 rfl (lv_at hl 2 rfl) ?_
  obtain ⟨cL_12, cH_13, e9, h⟩ := bd2 h
  refine q_callVv (As := [.int p0]) (w1 := wX0 cyI cf nw aF aT aP aC aU aO aL aH aD aB nN nA nF nT nP nC nU cO_11 cL_12 cH_13 cD cB_10) (ws2 := wX0 cyI cf nw aF aT aP aC aU aO aL aH aD aB nN nA nF nT nP nC nU cO_11 cL_12 cH_13 cD cB_10) ⟨hx, hb, hml, hown, hts⟩ (c_X0_hold l dC dI cyI cf nw aF aT aP aC aU aO aL aH aD aB H.size nN nA nF nT nP nC nU cO_11 cL_3 cH_4 cD cB_10 p0 _ e9) (cwV 1 hts gX0_raise_X0_hold rfl rfl rfl (by decide +kernel) ⟨Nat.le_of_ble_eq_true rfl, Nat.le_of_ble_eq_true rfl⟩) hK hP hD hS hA [0, 1, 2, 3, 4, 5, 6, 7, 8, 9, 10, 11] [] [0, 1, 2, 3, 4, 5, 6, 7, 8, 9, 10, 11] [0] rfl rfl rfl rfl (by decide) rfl rfl rfl 0 0 rfl rfl rfl hl.1 (Nat.le_of_ble_eq_true rfl) (Nat.le_of_ble_eq_true rfl) (Nat.le_of_ble_eq_true rfl) rfl dX0_raise_53 (fun H locs hP hD hS => ?_)
  refine lv_aload_n hx hb dX0_raise_56 rfl (lv_at hl 1 rfl) ?_
  refine va_get (D := (dC, dI)) (ci := 0) (v := .ref aO) (C := RX0) (T := TX0) (N := 6) hx hb hts k1 hown hK hP 0 rfl rfl 1 (by decide) k2 (fun _ h9 => h9) rfl dX0_raise_57 ?_
  refine lv_iload_n hx hb dX0_raise_60 rfl (lv_at hl 2 rfl) ?_
  obtain ⟨t14, e9, h⟩ := bd h
  refine q_iald hx hb hK hP 7 0 rfl rfl e9 dX0_raise_61 ?_
  cases h
  exact q_iret hQ hx hb hr hlocks hP hK hD hS dX0_raise_62
set_option maxHeartbeats 4000000 in
set_option maxRecDepth 100000 in
theorem c_X0_keepToCheapest (l : Launch) (dC : Nat → ClassId) (dI : Nat → Nat → Nat) (cyI : ClassId) (cf nw aF aT aP aC aU aO aL aH aD aB : Nat) (sz : Nat) (nN nA : Int32) (nF nT nP nC nU cO cL cH cD cB : Nat → Int32) (N : Nat) (res : (Nat → Int32) × (Nat → Int32) × (Nat → Int32) × (Nat → Int32)) (h : pX0_keepToCheapest N nN nA nF nT nC nU cO cL cH cD cB = some res) : Met l yX0_keepToCheapest wsX0_keepToCheapest { frames := 5, cells := 0, slots := 0, locals := 111 } (va_Pc [.ref cf] (zPre (dC, dI) (wX0 cyI cf nw aF aT aP aC aU aO aL aH aD aB nN nA nF nT nP nC nU cO cL cH cD cB) [(cyI, .int)] sz)) (zQv (dC, dI) (wX0 cyI cf nw aF aT aP aC aU aO aL aH aD aB nN nA nF nT nP nC nU cO res.1 res.2.1 res.2.2.1 res.2.2.2) [(cyI, .int)] (va_A (wX0 cyI cf nw aF aT aP aC aU aO aL aH aD aB nN nA nF nT nP nC nU cO cL cH cD cB) sz)) 0 0 (va_A (wX0 cyI cf nw aF aT aP aC aU aO aL aH aD aB nN nA nF nT nP nC nU cO cL cH cD cB) sz) := by
  refine q_ofWv (cc := cX0_keepToCheapest) (maxL := 5) (rt := none) (by decide) rfl (Nat.le_of_ble_eq_true rfl) ?_
  intro p e s m args below meth c ls A Q H locs hQ hx hb hr hts hown hlocks hml hA hK hP hD hS hl
  have hl : lv_has ls 5 [(0, .ref cf)] := hl
  have k0 := hts (.fieldLink RX0 27 "ConvexConduit$CheapestFlow" "network" "LConvexConduit$Network;") (by decide +kernel)
  have k1 : ∀ w ∈ u_ws RX0 TX0 6, w ∈ wsX0_keepToCheapest := by decide +kernel
  have k2 := hts (.fieldLink RX0 45 "ConvexConduit$Network" "arcs" "I") (by decide +kernel)
  have k3 : ∀ w ∈ u_ws RX2 TX2 7, w ∈ wsX0_keepToCheapest := by decide +kernel
  have k4 := hts (.fieldLink RX0 21 "ConvexConduit$CheapestFlow" "distance" "[I") (by decide +kernel)
  have k5 := hts (.fieldLink RX0 59 "ConvexConduit$Network" "to" "[I") (by decide +kernel)
  have k6 := hts (.fieldLink RX0 62 "ConvexConduit$Network" "from" "[I") (by decide +kernel)
  have k7 := hts (.fieldLink RX0 15 "ConvexConduit$CheapestFlow" "low" "[I") (by decide +kernel)
  have k8 := hts (.fieldLink RX0 18 "ConvexConduit$CheapestFlow" "high" "[I") (by decide +kernel)
  have k9 := hts (.fieldLink RX0 65 "ConvexConduit$Network" "capacity" "[I") (by decide +kernel)
  unfold pX0_keepToCheapest at h
  refine lv_aload_n hx hb dX0_keepToCheapest_0 rfl (lv_at hl 0 rfl) ?_
  obtain ⟨cD_1, cB_2, e9, h⟩ := bd2 h
  refine q_callVv (As := []) (w1 := wX0 cyI cf nw aF aT aP aC aU aO aL aH aD aB nN nA nF nT nP nC nU cO cL cH cD_1 cB_2) (ws2 := wX0 cyI cf nw aF aT aP aC aU aO aL aH aD aB nN nA nF nT nP nC nU cO cL cH cD_1 cB_2) ⟨hx, hb, hml, hown, hts⟩ (c_X0_measureFromAll l dC dI cyI cf nw aF aT aP aC aU aO aL aH aD aB H.size nN nA nF nT nP nC nU cO cL cH cD cB N _ e9) (cwV 0 hts gX0_keepToCheapest_X0_measureFromAll rfl rfl rfl (by decide +kernel) ⟨Nat.le_of_ble_eq_true rfl, Nat.le_of_ble_eq_true rfl⟩) hK hP hD hS hA [0, 1, 2, 3, 4, 5, 6, 7, 8, 9, 10, 11] [] [0, 1, 2, 3, 4, 5, 6, 7, 8, 9, 10, 11] [0] rfl rfl rfl rfl (by decide) rfl rfl rfl 0 0 rfl rfl rfl hl.1 (Nat.le_of_ble_eq_true rfl) (Nat.le_of_ble_eq_true rfl) (Nat.le_of_ble_eq_true rfl) rfl dX0_keepToCheapest_1 (fun H locs hP hD hS => ?_)
  refine lv_iconst (v := 0) hx hb dX0_keepToCheapest_4 (by decide) ?_
  refine lv_istore_n (lv' := [(1, .int 0), (0, .ref cf)]) hx hb dX0_keepToCheapest_5 rfl hl (by decide) rfl (fun ls hl => ?_)
  obtain ⟨x1_29, cL_30, cH_31, e0, h⟩ := bd3 h
  have hT0 : ∀ (H : Heap) (locs : List Loc), va_P (dC, dI) vwCl (wX0 cyI cf nw aF aT aP aC aU aO aL aH aD aB nN nA nF nT nP nC nU cO cL_30 cH_31 cD_1 cB_2) H → va_D A (wX0 cyI cf nw aF aT aP aC aU aO aL aH aD aB nN nA nF nT nP nC nU cO cL_30 cH_31 cD_1 cB_2) → va_S A s.heap H locs → ∀ ls : Array Slot, lv_has ls 5 [(0, .ref cf), (1, .int x1_29)] → W p l e { frames := 5, cells := 0, slots := 0, locals := 111 } s m args below meth c H locs 0 0 Q (F0 m 139 ls []) := by
    intro H locs hP hD hS ls hl
    cases h
    exact q_vret hQ hx hb hr hlocks hP hK hD hS dX0_keepToCheapest_139
  have hL0 : ∀ (n9 : Nat) (x1_3 : Int32) (cL_4 : Nat → Int32) (cH_5 : Nat → Int32), lp (un3 (pX0_keepToCheapest_l6 N cD_1 nA nC nF nT nU)) n9 ((x1_3, cL_4, cH_5)) = some ((x1_29, cL_30, cH_31)) → ∀ (H : Heap) (locs : List Loc), va_P (dC, dI) vwCl (wX0 cyI cf nw aF aT aP aC aU aO aL aH aD aB nN nA nF nT nP nC nU cO cL_4 cH_5 cD_1 cB_2) H → va_D A (wX0 cyI cf nw aF aT aP aC aU aO aL aH aD aB nN nA nF nT nP nC nU cO cL_4 cH_5 cD_1 cB_2) → va_S A s.heap H locs → ∀ ls : Array Slot, lv_has ls 5 [(0, .ref cf), (1, .int x1_3)] → W p l e { frames := 5, cells := 0, slots := 0, locals := 111 } s m args below meth c H locs 0 0 Q (F0 m 6 ls []) := by
    intro n9
    induction n9 with
    | zero =>
      intro x1_3 cL_4 cH_5 h
      exact lp0 h
    | succ n9 ih0 =>
      intro x1_3 cL_4 cH_5 h H locs hP hD hS ls hl
      obtain ⟨o9, g, h⟩ := lps h
      replace g : pX0_keepToCheapest_l6 N cD_1 nA nC nF nT nU x1_3 cL_4 cH_5 = some o9 := g
      unfold pX0_keepToCheapest_l6 at g
      refine lv_iload_n hx hb dX0_keepToCheapest_6 rfl (lv_at hl 1 rfl) ?_
      refine lv_aload_n hx hb dX0_keepToCheapest_7 rfl (lv_at hl 0 rfl) ?_
      refine va_get (D := (dC, dI)) (ci := 0) (v := .ref nw) (C := RX0) (T := TX0) (N := 6) hx hb hts k1 hown hK hP 0 rfl rfl 0 (by decide) k0 (fun _ h9 => h9) rfl dX0_keepToCheapest_8 ?_
      refine va_get (D := (dC, dI)) (ci := 2) (v := .int nA) (C := RX2) (T := TX2) (N := 7) hx hb hts k3 hown hK hP 1 rfl rfl 1 (by decide) k2 (fun _ h9 => h9) rfl dX0_keepToCheapest_11 ?_
      refine lv_icmp_ge (tgt := 139) hx hb dX0_keepToCheapest_14 (by decide) (fun c9 => ?_) (fun c9 => ?_)
      · have g := ipos c9 g
        cases g
        have h := lpx h
        cases h
        exact hT0 _ _ hP hD hS _ (lv_sub hl [0, 1] rfl)
      · have g := ineg c9 g
        refine lv_aload_n hx hb dX0_keepToCheapest_17 rfl (lv_at hl 0 rfl) ?_
        refine va_get (D := (dC, dI)) (ci := 0) (v := .ref aD) (C := RX0) (T := TX0) (N := 6) hx hb hts k1 hown hK hP 0 rfl rfl 4 (by decide) k4 (fun _ h9 => h9) rfl dX0_keepToCheapest_18 ?_
        refine lv_aload_n hx hb dX0_keepToCheapest_21 rfl (lv_at hl 0 rfl) ?_
        refine va_get (D := (dC, dI)) (ci := 0) (v := .ref nw) (C := RX0) (T := TX0) (N := 6) hx hb hts k1 hown hK hP 0 rfl rfl 0 (by decide) k0 (fun _ h9 => h9) rfl dX0_keepToCheapest_22 ?_
        refine va_get (D := (dC, dI)) (ci := 2) (v := .ref aT) (C := RX2) (T := TX2) (N := 7) hx hb hts k3 hown hK hP 1 rfl rfl 3 (by decide) k5 (fun _ h9 => h9) rfl dX0_keepToCheapest_25 ?_
        refine lv_iload_n hx hb dX0_keepToCheapest_28 rfl (lv_at hl 1 rfl) ?_
        obtain ⟨t6, e9, g⟩ := bd g
        refine q_iald hx hb hK hP 3 0 rfl rfl e9 dX0_keepToCheapest_29 ?_
        obtain ⟨t7, e9, g⟩ := bd g
        refine q_iald hx hb hK hP 10 0 rfl rfl e9 dX0_keepToCheapest_30 ?_
        refine lv_aload_n hx hb dX0_keepToCheapest_31 rfl (lv_at hl 0 rfl) ?_
        refine va_get (D := (dC, dI)) (ci := 0) (v := .ref aD) (C := RX0) (T := TX0) (N := 6) hx hb hts k1 hown hK hP 0 rfl rfl 4 (by decide) k4 (fun _ h9 => h9) rfl dX0_keepToCheapest_32 ?_
        refine lv_aload_n hx hb dX0_keepToCheapest_35 rfl (lv_at hl 0 rfl) ?_
        refine va_get (D := (dC, dI)) (ci := 0) (v := .ref nw) (C := RX0) (T := TX0) (N := 6) hx hb hts k1 hown hK hP 0 rfl rfl 0 (by decide) k0 (fun _ h9 => h9) rfl dX0_keepToCheapest_36 ?_
        refine va_get (D := (dC, dI)) (ci := 2) (v := .ref aF) (C := RX2) (T := TX2) (N := 7) hx hb hts k3 hown hK hP 1 rfl rfl 2 (by decide) k6 (fun _ h9 => h9) rfl dX0_keepToCheapest_39 ?_
        refine lv_iload_n hx hb dX0_keepToCheapest_42 rfl (lv_at hl 1 rfl) ?_
        obtain ⟨t8, e9, g⟩ := bd g
        refine q_iald hx hb hK hP 2 0 rfl rfl e9 dX0_keepToCheapest_43 ?_
        obtain ⟨t9, e9, g⟩ := bd g
        refine q_iald hx hb hK hP 10 0 rfl rfl e9 dX0_keepToCheapest_44 ?_
        refine lv_isub hx hb dX0_keepToCheapest_45 ?_
        refine lv_istore_n (lv' := [(2, .int (t7 - t9)), (0, .ref cf), (1, .int x1_3)]) hx hb dX0_keepToCheapest_46 rfl hl (by decide) rfl (fun ls hl => ?_)
        refine lv_aload_n hx hb dX0_keepToCheapest_47 rfl (lv_at hl 1 rfl) ?_
        refine va_get (D := (dC, dI)) (ci := 0) (v := .ref aL) (C := RX0) (T := TX0) (N := 6) hx hb hts k1 hown hK hP 0 rfl rfl 2 (by decide) k7 (fun _ h9 => h9) rfl dX0_keepToCheapest_48 ?_
        refine lv_iload_n hx hb dX0_keepToCheapest_51 rfl (lv_at hl 2 rfl) ?_
        refine lv_iconst (v := 0) hx hb dX0_keepToCheapest_52 (by decide) ?_
        obtain ⟨cL_10, e9, g⟩ := bd g
        refine q_iast (ws2 := wX0 cyI cf nw aF aT aP aC aU aO aL aH aD aB nN nA nF nT nP nC nU cO cL_10 cH_5 cD_1 cB_2) hx hb hK hP hD hS 8 0 rfl rfl e9 dX0_keepToCheapest_53 rfl (fun H locs hP hD hS => ?_)
        refine lv_aload_n hx hb dX0_keepToCheapest_54 rfl (lv_at hl 1 rfl) ?_
        refine va_get (D := (dC, dI)) (ci := 0) (v := .ref aH) (C := RX0) (T := TX0) (N := 6) hx hb hts k1 hown hK hP 0 rfl rfl 3 (by decide) k8 (fun _ h9 => h9) rfl dX0_keepToCheapest_55 ?_
        refine lv_iload_n hx hb dX0_keepToCheapest_58 rfl (lv_at hl 2 rfl) ?_
        refine lv_iconst (v := 0) hx hb dX0_keepToCheapest_59 (by decide) ?_
        obtain ⟨cH_11, e9, g⟩ := bd g
        refine q_iast (ws2 := wX0 cyI cf nw aF aT aP aC aU aO aL aH aD aB nN nA nF nT nP nC nU cO cL_10 cH_11 cD_1 cB_2) hx hb hK hP hD hS 9 0 rfl rfl e9 dX0_keepToCheapest_60 rfl (fun H locs hP hD hS => ?_)
        refine lv_iconst (v := 1) hx hb dX0_keepToCheapest_61 (by decide) ?_
        refine lv_istore_n (lv' := [(3, .int 1), (2, .int (t7 - t9)), (0, .ref cf), (1, .int x1_3)]) hx hb dX0_keepToCheapest_62 rfl hl (by decide) rfl (fun ls hl => ?_)
        obtain ⟨x3_26, cL_27, cH_28, e1, g⟩ := bd3 g
        have hT1 : ∀ (H : Heap) (locs : List Loc), va_P (dC, dI) vwCl (wX0 cyI cf nw aF aT aP aC aU aO aL aH aD aB nN nA nF nT nP nC nU cO cL_27 cH_28 cD_1 cB_2) H → va_D A (wX0 cyI cf nw aF aT aP aC aU aO aL aH aD aB nN nA nF nT nP nC nU cO cL_27 cH_28 cD_1 cB_2) → va_S A s.heap H locs → ∀ ls : Array Slot, lv_has ls 5 [(0, .ref cf), (1, .int x1_3), (2, .int (t7 - t9)), (3, .int x3_26)] → W p l e { frames := 5, cells := 0, slots := 0, locals := 111 } s m args below meth c H locs 0 0 Q (F0 m 133 ls []) := by
          intro H locs hP hD hS ls hl
          refine lv_iinc (v := x1_3 + 1) (lv' := [(1, .int (x1_3 + 1)), (0, .ref cf), (2, .int (t7 - t9)), (3, .int x3_26)]) hx hb dX0_keepToCheapest_133 hl (k := 1) rfl (by rfl) (by decide) rfl (fun ls hl => ?_)
          refine lv_goto (tgt := 6) hx hb dX0_keepToCheapest_136 (by decide) ?_
          cases g
          exact ih0 _ _ _ h _ _ hP hD hS _ (lv_sub hl [1, 0] rfl)
        have hL1 : ∀ (n9 : Nat) (x3_12 : Int32) (cL_13 : Nat → Int32) (cH_14 : Nat → Int32), lp (un3 (pX0_keepToCheapest_l63 nC nU t7 t9 x1_3)) n9 ((x3_12, cL_13, cH_14)) = some ((x3_26, cL_27, cH_28)) → ∀ (H : Heap) (locs : List Loc), va_P (dC, dI) vwCl (wX0 cyI cf nw aF aT aP aC aU aO aL aH aD aB nN nA nF nT nP nC nU cO cL_13 cH_14 cD_1 cB_2) H → va_D A (wX0 cyI cf nw aF aT aP aC aU aO aL aH aD aB nN nA nF nT nP nC nU cO cL_13 cH_14 cD_1 cB_2) → va_S A s.heap H locs → ∀ ls : Array Slot, lv_has ls 5 [(0, .ref cf), (1, .int x1_3), (2, .int (t7 - t9)), (3, .int x3_12)] → W p l e { frames := 5, cells := 0, slots := 0, locals := 111 } s m args below meth c H locs 0 0 Q (F0 m 63 ls []) := by
          intro n9
          induction n9 with
          | zero =>
            intro x3_12 cL_13 cH_14 h
            exact lp0 h
          | succ n9 ih1 =>
            intro x3_12 cL_13 cH_14 h H locs hP hD hS ls hl
            obtain ⟨o9, g, h⟩ := lps h
            replace g : pX0_keepToCheapest_l63 nC nU t7 t9 x1_3 x3_12 cL_13 cH_14 = some o9 := g
            unfold pX0_keepToCheapest_l63 at g
            refine lv_iload_n hx hb dX0_keepToCheapest_63 rfl (lv_at hl 3 rfl) ?_
            refine lv_aload_n hx hb dX0_keepToCheapest_64 rfl (lv_at hl 0 rfl) ?_
            refine va_get (D := (dC, dI)) (ci := 0) (v := .ref nw) (C := RX0) (T := TX0) (N := 6) hx hb hts k1 hown hK hP 0 rfl rfl 0 (by decide) k0 (fun _ h9 => h9) rfl dX0_keepToCheapest_65 ?_
            refine va_get (D := (dC, dI)) (ci := 2) (v := .ref aC) (C := RX2) (T := TX2) (N := 7) hx hb hts k3 hown hK hP 1 rfl rfl 5 (by decide) k9 (fun _ h9 => h9) rfl dX0_keepToCheapest_68 ?_
            refine lv_iload_n hx hb dX0_keepToCheapest_71 rfl (lv_at hl 1 rfl) ?_
            obtain ⟨t15, e9, g⟩ := bd g
            refine q_iald hx hb hK hP 5 0 rfl rfl e9 dX0_keepToCheapest_72 ?_
            refine lv_icmp_gt (tgt := 133) hx hb dX0_keepToCheapest_73 (by decide) (fun c9 => ?_) (fun c9 => ?_)
            · have g := ipos c9 g
              cases g
              have h := lpx h
              cases h
              exact hT1 _ _ hP hD hS _ (lv_sub hl [0, 1, 2, 3] rfl)
            · have g := ineg c9 g
              refine lv_aload_n hx hb dX0_keepToCheapest_76 rfl (lv_at hl 0 rfl) ?_
              refine va_get (D := (dC, dI)) (ci := 0) (v := .ref nw) (C := RX0) (T := TX0) (N := 6) hx hb hts k1 hown hK hP 0 rfl rfl 0 (by decide) k0 (fun _ h9 => h9) rfl dX0_keepToCheapest_77 ?_
              refine lv_iload_n hx hb dX0_keepToCheapest_80 rfl (lv_at hl 1 rfl) ?_
              refine lv_iload_n hx hb dX0_keepToCheapest_81 rfl (lv_at hl 3 rfl) ?_
              obtain ⟨r16, e9, g⟩ := bd g
              refine q_callVi (ret := r16) (As := [.int x1_3, .int x3_12]) (w1 := wX2 cyI nw aF aT aP aC aU nN nA nF nT nP nC nU) (ws2 := wX0 cyI cf nw aF aT aP aC aU aO aL aH aD aB nN nA nF nT nP nC nU cO cL_13 cH_14 cD_1 cB_2) ⟨hx, hb, hml, hown, hts⟩ (c_X2_unitPrice l dC dI cyI nw aF aT aP aC aU H.size nN nA nF nT nP nC nU x1_3 x3_12 _ e9) (cwV 2 hts gX0_keepToCheapest_X2_unitPrice rfl rfl rfl (by decide +kernel) ⟨Nat.le_of_ble_eq_true rfl, Nat.le_of_ble_eq_true rfl⟩) hK hP hD hS hA [1, 2, 3, 4, 5, 6] [0, 7, 8, 9, 10, 11] [0, 6, 7, 8, 9, 10, 11, 1, 2, 3, 4, 5] [0] rfl rfl rfl rfl (by decide) rfl rfl rfl 2 0 rfl rfl rfl hl.1 (Nat.le_of_ble_eq_true rfl) (Nat.le_of_ble_eq_true rfl) (Nat.le_of_ble_eq_true rfl) rfl dX0_keepToCheapest_82 (fun H locs hP hD hS => ?_)
              refine lv_istore (lv' := [(4, .int r16), (0, .ref cf), (1, .int x1_3), (2, .int (t7 - t9)), (3, .int x3_12)]) hx hb dX0_keepToCheapest_85 hl (by decide) rfl (fun ls hl => ?_)
              refine lv_aload_n hx hb dX0_keepToCheapest_87 rfl (lv_at hl 1 rfl) ?_
              refine va_get (D := (dC, dI)) (ci := 0) (v := .ref aL) (C := RX0) (T := TX0) (N := 6) hx hb hts k1 hown hK hP 0 rfl rfl 2 (by decide) k7 (fun _ h9 => h9) rfl dX0_keepToCheapest_88 ?_
              refine lv_iload_n hx hb dX0_keepToCheapest_91 rfl (lv_at hl 2 rfl) ?_
              refine lv_dup2_11 hx hb dX0_keepToCheapest_92 rfl rfl ?_
              obtain ⟨t17, e9, g⟩ := bd g
              refine q_iald hx hb hK hP 8 0 rfl rfl e9 dX0_keepToCheapest_93 ?_
              refine lv_iload hx hb dX0_keepToCheapest_94 (lv_at hl 0 rfl) ?_
              refine lv_iload_n hx hb dX0_keepToCheapest_96 rfl (lv_at hl 3 rfl) ?_
              refine lv_icmp_ge (tgt := 104) hx hb dX0_keepToCheapest_97 (by decide) (fun c9 => ?_) (fun c9 => ?_)
              · have g := ipos c9 g
                refine lv_iconst (v := 0) hx hb dX0_keepToCheapest_104 (by decide) ?_
                refine lv_iadd hx hb dX0_keepToCheapest_105 ?_
                obtain ⟨cL_18, e9, g⟩ := bd g
                refine q_iast (ws2 := wX0 cyI cf nw aF aT aP aC aU aO aL aH aD aB nN nA nF nT nP nC nU cO cL_18 cH_14 cD_1 cB_2) hx hb hK hP hD hS 8 0 rfl rfl e9 dX0_keepToCheapest_106 rfl (fun H locs hP hD hS => ?_)
                refine lv_aload_n hx hb dX0_keepToCheapest_107 rfl (lv_at hl 1 rfl) ?_
                refine va_get (D := (dC, dI)) (ci := 0) (v := .ref aH) (C := RX0) (T := TX0) (N := 6) hx hb hts k1 hown hK hP 0 rfl rfl 3 (by decide) k8 (fun _ h9 => h9) rfl dX0_keepToCheapest_108 ?_
                refine lv_iload_n hx hb dX0_keepToCheapest_111 rfl (lv_at hl 2 rfl) ?_
                refine lv_dup2_11 hx hb dX0_keepToCheapest_112 rfl rfl ?_
                obtain ⟨t19, e9, g⟩ := bd g
                refine q_iald hx hb hK hP 9 0 rfl rfl e9 dX0_keepToCheapest_113 ?_
                refine lv_iload hx hb dX0_keepToCheapest_114 (lv_at hl 0 rfl) ?_
                refine lv_iload_n hx hb dX0_keepToCheapest_116 rfl (lv_at hl 3 rfl) ?_
                refine lv_icmp_gt (tgt := 124) hx hb dX0_keepToCheapest_117 (by decide) (fun c9 => ?_) (fun c9 => ?_)
                · have g := ipos c9 g
                  refine lv_iconst (v := 0) hx hb dX0_keepToCheapest_124 (by decide) ?_
                  refine lv_iadd hx hb dX0_keepToCheapest_125 ?_
                  obtain ⟨cH_20, e9, g⟩ := bd g
                  refine q_iast (ws2 := wX0 cyI cf nw aF aT aP aC aU aO aL aH aD aB nN nA nF nT nP nC nU cO cL_18 cH_20 cD_1 cB_2) hx hb hK hP hD hS 9 0 rfl rfl e9 dX0_keepToCheapest_126 rfl (fun H locs hP hD hS => ?_)
                  refine lv_iinc (v := x3_12 + 1) (lv' := [(3, .int (x3_12 + 1)), (4, .int r16), (0, .ref cf), (1, .int x1_3), (2, .int (t7 - t9))]) hx hb dX0_keepToCheapest_127 hl (k := 4) rfl (by rfl) (by decide) rfl (fun ls hl => ?_)
                  refine lv_goto (tgt := 63) hx hb dX0_keepToCheapest_130 (by decide) ?_
                  cases g
                  exact ih1 _ _ _ h _ _ hP hD hS _ (lv_sub hl [2, 3, 4, 0] rfl)
                · have g := ineg c9 g
                  refine lv_iconst (v := 1) hx hb dX0_keepToCheapest_120 (by decide) ?_
                  refine lv_goto (tgt := 125) hx hb dX0_keepToCheapest_121 (by decide) ?_
                  refine lv_iadd hx hb dX0_keepToCheapest_125 ?_
                  obtain ⟨cH_21, e9, g⟩ := bd g
                  refine q_iast (ws2 := wX0 cyI cf nw aF aT aP aC aU aO aL aH aD aB nN nA nF nT nP nC nU cO cL_18 cH_21 cD_1 cB_2) hx hb hK hP hD hS 9 0 rfl rfl e9 dX0_keepToCheapest_126 rfl (fun H locs hP hD hS => ?_)
                  refine lv_iinc (v := x3_12 + 1) (lv' := [(3, .int (x3_12 + 1)), (4, .int r16), (0, .ref cf), (1, .int x1_3), (2, .int (t7 - t9))]) hx hb dX0_keepToCheapest_127 hl (k := 4) rfl (by rfl) (by decide) rfl (fun ls hl => ?_)
                  refine lv_goto (tgt := 63) hx hb dX0_keepToCheapest_130 (by decide) ?_
                  cases g
                  exact ih1 _ _ _ h _ _ hP hD hS _ (lv_sub hl [2, 3, 4, 0] rfl)
              · have g := ineg c9 g
                refine lv_iconst (v := 1) hx hb dX0_keepToCheapest_100 (by decide) ?_
                refine lv_goto (tgt := 105) hx hb dX0_keepToCheapest_101 (by decide) ?_
                refine lv_iadd hx hb dX0_keepToCheapest_105 ?_
                obtain ⟨cL_22, e9, g⟩ := bd g
                refine q_iast (ws2 := wX0 cyI cf nw aF aT aP aC aU aO aL aH aD aB nN nA nF nT nP nC nU cO cL_22 cH_14 cD_1 cB_2) hx hb hK hP hD hS 8 0 rfl rfl e9 dX0_keepToCheapest_106 rfl (fun H locs hP hD hS => ?_)
                refine lv_aload_n hx hb dX0_keepToCheapest_107 rfl (lv_at hl 1 rfl) ?_
                refine va_get (D := (dC, dI)) (ci := 0) (v := .ref aH) (C := RX0) (T := TX0) (N := 6) hx hb hts k1 hown hK hP 0 rfl rfl 3 (by decide) k8 (fun _ h9 => h9) rfl dX0_keepToCheapest_108 ?_
                refine lv_iload_n hx hb dX0_keepToCheapest_111 rfl (lv_at hl 2 rfl) ?_
                refine lv_dup2_11 hx hb dX0_keepToCheapest_112 rfl rfl ?_
                obtain ⟨t23, e9, g⟩ := bd g
                refine q_iald hx hb hK hP 9 0 rfl rfl e9 dX0_keepToCheapest_113 ?_
                refine lv_iload hx hb dX0_keepToCheapest_114 (lv_at hl 0 rfl) ?_
                refine lv_iload_n hx hb dX0_keepToCheapest_116 rfl (lv_at hl 3 rfl) ?_
                refine lv_icmp_gt (tgt := 124) hx hb dX0_keepToCheapest_117 (by decide) (fun c9 => ?_) (fun c9 => ?_)
                · have g := ipos c9 g
                  refine lv_iconst (v := 0) hx hb dX0_keepToCheapest_124 (by decide) ?_
                  refine lv_iadd hx hb dX0_keepToCheapest_125 ?_
                  obtain ⟨cH_24, e9, g⟩ := bd g
                  refine q_iast (ws2 := wX0 cyI cf nw aF aT aP aC aU aO aL aH aD aB nN nA nF nT nP nC nU cO cL_22 cH_24 cD_1 cB_2) hx hb hK hP hD hS 9 0 rfl rfl e9 dX0_keepToCheapest_126 rfl (fun H locs hP hD hS => ?_)
                  refine lv_iinc (v := x3_12 + 1) (lv' := [(3, .int (x3_12 + 1)), (4, .int r16), (0, .ref cf), (1, .int x1_3), (2, .int (t7 - t9))]) hx hb dX0_keepToCheapest_127 hl (k := 4) rfl (by rfl) (by decide) rfl (fun ls hl => ?_)
                  refine lv_goto (tgt := 63) hx hb dX0_keepToCheapest_130 (by decide) ?_
                  cases g
                  exact ih1 _ _ _ h _ _ hP hD hS _ (lv_sub hl [2, 3, 4, 0] rfl)
                · have g := ineg c9 g
                  refine lv_iconst (v := 1) hx hb dX0_keepToCheapest_120 (by decide) ?_
                  refine lv_goto (tgt := 125) hx hb dX0_keepToCheapest_121 (by decide) ?_
                  refine lv_iadd hx hb dX0_keepToCheapest_125 ?_
                  obtain ⟨cH_25, e9, g⟩ := bd g
                  refine q_iast (ws2 := wX0 cyI cf nw aF aT aP aC aU aO aL aH aD aB nN nA nF nT nP nC nU cO cL_22 cH_25 cD_1 cB_2) hx hb hK hP hD hS 9 0 rfl rfl e9 dX0_keepToCheapest_126 rfl (fun H locs hP hD hS => ?_)
                  refine lv_iinc (v := x3_12 + 1) (lv' := [(3, .int (x3_12 + 1)), (4, .int r16), (0, .ref cf), (1, .int x1_3), (2, .int (t7 - t9))]) hx hb dX0_keepToCheapest_127 hl (k := 4) rfl (by rfl) (by decide) rfl (fun ls hl => ?_)
                  refine lv_goto (tgt := 63) hx hb dX0_keepToCheapest_130 (by decide) ?_
                  cases g
                  exact ih1 _ _ _ h _ _ hP hD hS _ (lv_sub hl [2, 3, 4, 0] rfl)
        exact hL1 N _ _ _  e1 _ _ hP hD hS _ (lv_sub hl [2, 3, 1, 0] rfl)
  exact hL0 N _ _ _  e0 _ _ hP hD hS _ (lv_sub hl [1, 0] rfl)
set_option maxHeartbeats 4000000 in
set_option maxRecDepth 100000 in
theorem c_X0_priceOfUnitMore (l : Launch) (dC : Nat → ClassId) (dI : Nat → Nat → Nat) (cyI : ClassId) (cf nw aF aT aP aC aU aO aL aH aD aB : Nat) (sz : Nat) (nN nA : Int32) (nF nT nP nC nU cO cL cH cD cB : Nat → Int32) (p0 p1 : Int32) (N : Nat) (res : Int32 × (Nat → Int32) × (Nat → Int32)) (h : pX0_priceOfUnitMore N nN nA nF nT nC nU cO cL cH cD cB p0 p1 = some res) : Met l yX0_priceOfUnitMore wsX0_priceOfUnitMore { frames := 5, cells := 0, slots := 0, locals := 112 } (va_Pc [.ref cf, .int p0, .int p1] (zPre (dC, dI) (wX0 cyI cf nw aF aT aP aC aU aO aL aH aD aB nN nA nF nT nP nC nU cO cL cH cD cB) [(cyI, .int)] sz)) (zQi (dC, dI) (wX0 cyI cf nw aF aT aP aC aU aO aL aH aD aB nN nA nF nT nP nC nU cO cL cH res.2.1 res.2.2) [(cyI, .int)] (res.1) (va_A (wX0 cyI cf nw aF aT aP aC aU aO aL aH aD aB nN nA nF nT nP nC nU cO cL cH cD cB) sz)) 0 0 (va_A (wX0 cyI cf nw aF aT aP aC aU aO aL aH aD aB nN nA nF nT nP nC nU cO cL cH cD cB) sz) := by
  refine q_ofWi (cc := cX0_priceOfUnitMore) (maxL := 3) (rt := (some .int)) (by decide) rfl (Nat.le_of_ble_eq_true rfl) ?_
  intro p e s m args below meth c ls A Q H locs hQ hx hb hr hts hown hlocks hml hA hK hP hD hS hl
  have hl : lv_has ls 3 [(0, .ref cf), (1, .int p0), (2, .int p1)] := hl
  have k0 := hts (.fieldLink RX0 21 "ConvexConduit$CheapestFlow" "distance" "[I") (by decide +kernel)
  have k1 : ∀ w ∈ u_ws RX0 TX0 6, w ∈ wsX0_priceOfUnitMore := by decide +kernel
  have k2 := hts (.constant RX0 55 (1000000)) (by decide +kernel)
  unfold pX0_priceOfUnitMore at h
  refine lv_aload_n hx hb dX0_priceOfUnitMore_0 rfl (lv_at hl 0 rfl) ?_
  refine lv_iload_n hx hb dX0_priceOfUnitMore_1 rfl (lv_at hl 1 rfl) ?_
  obtain ⟨cD_1, cB_2, e9, h⟩ := bd2 h
  refine q_callVv (As := [.int p0]) (w1 := wX0 cyI cf nw aF aT aP aC aU aO aL aH aD aB nN nA nF nT nP nC nU cO cL cH cD_1 cB_2) (ws2 := wX0 cyI cf nw aF aT aP aC aU aO aL aH aD aB nN nA nF nT nP nC nU cO cL cH cD_1 cB_2) ⟨hx, hb, hml, hown, hts⟩ (c_X0_measureFrom l dC dI cyI cf nw aF aT aP aC aU aO aL aH aD aB H.size nN nA nF nT nP nC nU cO cL cH cD cB p0 N _ e9) (cwV 1 hts gX0_priceOfUnitMore_X0_measureFrom rfl rfl rfl (by decide +kernel) ⟨Nat.le_of_ble_eq_true rfl, Nat.le_of_ble_eq_true rfl⟩) hK hP hD hS hA [0, 1, 2, 3, 4, 5, 6, 7, 8, 9, 10, 11] [] [0, 1, 2, 3, 4, 5, 6, 7, 8, 9, 10, 11] [0] rfl rfl rfl rfl (by decide) rfl rfl rfl 0 0 rfl rfl rfl hl.1 (Nat.le_of_ble_eq_true rfl) (Nat.le_of_ble_eq_true rfl) (Nat.le_of_ble_eq_true rfl) rfl dX0_priceOfUnitMore_2 (fun H locs hP hD hS => ?_)
  refine lv_aload_n hx hb dX0_priceOfUnitMore_5 rfl (lv_at hl 0 rfl) ?_
  refine va_get (D := (dC, dI)) (ci := 0) (v := .ref aD) (C := RX0) (T := TX0) (N := 6) hx hb hts k1 hown hK hP 0 rfl rfl 4 (by decide) k0 (fun _ h9 => h9) rfl dX0_priceOfUnitMore_6 ?_
  refine lv_iload_n hx hb dX0_priceOfUnitMore_9 rfl (lv_at hl 2 rfl) ?_
  obtain ⟨t3, e9, h⟩ := bd h
  refine q_iald hx hb hK hP 10 0 rfl rfl e9 dX0_priceOfUnitMore_10 ?_
  refine lv_ldc (own := RX0) (v := 1000000) hx hb hown k2 dX0_priceOfUnitMore_11 ?_
  refine lv_icmp_ge (tgt := 25) hx hb dX0_priceOfUnitMore_13 (by decide) (fun c9 => ?_) (fun c9 => ?_)
  · have h := ipos c9 h
    refine lv_iconst (v := -1) hx hb dX0_priceOfUnitMore_25 (by decide) ?_
    cases h
    exact q_iret hQ hx hb hr hlocks hP hK hD hS dX0_priceOfUnitMore_26
  · have h := ineg c9 h
    refine lv_aload_n hx hb dX0_priceOfUnitMore_16 rfl (lv_at hl 0 rfl) ?_
    refine va_get (D := (dC, dI)) (ci := 0) (v := .ref aD) (C := RX0) (T := TX0) (N := 6) hx hb hts k1 hown hK hP 0 rfl rfl 4 (by decide) k0 (fun _ h9 => h9) rfl dX0_priceOfUnitMore_17 ?_
    refine lv_iload_n hx hb dX0_priceOfUnitMore_20 rfl (lv_at hl 2 rfl) ?_
    obtain ⟨t4, e9, h⟩ := bd h
    refine q_iald hx hb hK hP 10 0 rfl rfl e9 dX0_priceOfUnitMore_21 ?_
    refine lv_goto (tgt := 26) hx hb dX0_priceOfUnitMore_22 (by decide) ?_
    cases h
    exact q_iret hQ hx hb hr hlocks hP hK hD hS dX0_priceOfUnitMore_26
set_option maxHeartbeats 4000000 in
set_option maxRecDepth 100000 in
theorem c_X0_totalPrice (l : Launch) (dC : Nat → ClassId) (dI : Nat → Nat → Nat) (cyI : ClassId) (cf nw aF aT aP aC aU aO aL aH aD aB : Nat) (sz : Nat) (nN nA : Int32) (nF nT nP nC nU cO cL cH cD cB : Nat → Int32) (N : Nat) (res : Int32) (h : pX0_totalPrice N nA nC nU cO = some res) : Met l yX0_totalPrice wsX0_totalPrice { frames := 1, cells := 0, slots := 0, locals := 22 } (va_Pc [.ref cf] (zPre (dC, dI) (wX0 cyI cf nw aF aT aP aC aU aO aL aH aD aB nN nA nF nT nP nC nU cO cL cH cD cB) [(cyI, .int)] sz)) (zQi (dC, dI) (wX0 cyI cf nw aF aT aP aC aU aO aL aH aD aB nN nA nF nT nP nC nU cO cL cH cD cB) [(cyI, .int)] (res) (va_A (wX0 cyI cf nw aF aT aP aC aU aO aL aH aD aB nN nA nF nT nP nC nU cO cL cH cD cB) sz)) 0 0 (va_A (wX0 cyI cf nw aF aT aP aC aU aO aL aH aD aB nN nA nF nT nP nC nU cO cL cH cD cB) sz) := by
  refine q_ofWi (cc := cX0_totalPrice) (maxL := 4) (rt := (some .int)) (by decide) rfl (Nat.le_of_ble_eq_true rfl) ?_
  intro p e s m args below meth c ls A Q H locs hQ hx hb hr hts hown hlocks hml hA hK hP hD hS hl
  have hl : lv_has ls 4 [(0, .ref cf)] := hl
  have k0 := hts (.fieldLink RX0 27 "ConvexConduit$CheapestFlow" "network" "LConvexConduit$Network;") (by decide +kernel)
  have k1 : ∀ w ∈ u_ws RX0 TX0 6, w ∈ wsX0_totalPrice := by decide +kernel
  have k2 := hts (.fieldLink RX0 45 "ConvexConduit$Network" "arcs" "I") (by decide +kernel)
  have k3 : ∀ w ∈ u_ws RX2 TX2 7, w ∈ wsX0_totalPrice := by decide +kernel
  have k4 := hts (.fieldLink RX0 9 "ConvexConduit$CheapestFlow" "on" "[I") (by decide +kernel)
  unfold pX0_totalPrice at h
  refine lv_iconst (v := 0) hx hb dX0_totalPrice_0 (by decide) ?_
  refine lv_istore_n (lv' := [(1, .int 0), (0, .ref cf)]) hx hb dX0_totalPrice_1 rfl hl (by decide) rfl (fun ls hl => ?_)
  refine lv_iconst (v := 0) hx hb dX0_totalPrice_2 (by decide) ?_
  refine lv_istore_n (lv' := [(2, .int 0), (1, .int 0), (0, .ref cf)]) hx hb dX0_totalPrice_3 rfl hl (by decide) rfl (fun ls hl => ?_)
  obtain ⟨x1_9, x2_10, e0, h⟩ := bd2 h
  have hT0 : ∀ (H : Heap) (locs : List Loc), va_P (dC, dI) vwCl (wX0 cyI cf nw aF aT aP aC aU aO aL aH aD aB nN nA nF nT nP nC nU cO cL cH cD cB) H → va_D A (wX0 cyI cf nw aF aT aP aC aU aO aL aH aD aB nN nA nF nT nP nC nU cO cL cH cD cB) → va_S A s.heap H locs → ∀ ls : Array Slot, lv_has ls 4 [(0, .ref cf), (1, .int x1_9), (2, .int x2_10)] → W p l e { frames := 1, cells := 0, slots := 0, locals := 22 } s m args below meth c H locs 0 0 Q (F0 m 51 ls []) := by
    intro H locs hP hD hS ls hl
    refine lv_iload_n hx hb dX0_totalPrice_51 rfl (lv_at hl 1 rfl) ?_
    cases h
    exact q_iret hQ hx hb hr hlocks hP hK hD hS dX0_totalPrice_52
  have hL0 : ∀ (n9 : Nat) (x1_1 : Int32) (x2_2 : Int32), lp (un2 (pX0_totalPrice_l4 N cO nA nC nU)) n9 ((x1_1, x2_2)) = some ((x1_9, x2_10)) → ∀ (H : Heap) (locs : List Loc), va_P (dC, dI) vwCl (wX0 cyI cf nw aF aT aP aC aU aO aL aH aD aB nN nA nF nT nP nC nU cO cL cH cD cB) H → va_D A (wX0 cyI cf nw aF aT aP aC aU aO aL aH aD aB nN nA nF nT nP nC nU cO cL cH cD cB) → va_S A s.heap H locs → ∀ ls : Array Slot, lv_has ls 4 [(0, .ref cf), (1, .int x1_1), (2, .int x2_2)] → W p l e { frames := 1, cells := 0, slots := 0, locals := 22 } s m args below meth c H locs 0 0 Q (F0 m 4 ls []) := by
    intro n9
    induction n9 with
    | zero =>
      intro x1_1 x2_2 h
      exact lp0 h
    | succ n9 ih0 =>
      intro x1_1 x2_2 h H locs hP hD hS ls hl
      obtain ⟨o9, g, h⟩ := lps h
      replace g : pX0_totalPrice_l4 N cO nA nC nU x1_1 x2_2 = some o9 := g
      unfold pX0_totalPrice_l4 at g
      refine lv_iload_n hx hb dX0_totalPrice_4 rfl (lv_at hl 2 rfl) ?_
      refine lv_aload_n hx hb dX0_totalPrice_5 rfl (lv_at hl 0 rfl) ?_
      refine va_get (D := (dC, dI)) (ci := 0) (v := .ref nw) (C := RX0) (T := TX0) (N := 6) hx hb hts k1 hown hK hP 0 rfl rfl 0 (by decide) k0 (fun _ h9 => h9) rfl dX0_totalPrice_6 ?_
      refine va_get (D := (dC, dI)) (ci := 2) (v := .int nA) (C := RX2) (T := TX2) (N := 7) hx hb hts k3 hown hK hP 1 rfl rfl 1 (by decide) k2 (fun _ h9 => h9) rfl dX0_totalPrice_9 ?_
      refine lv_icmp_ge (tgt := 51) hx hb dX0_totalPrice_12 (by decide) (fun c9 => ?_) (fun c9 => ?_)
      · have g := ipos c9 g
        cases g
        have h := lpx h
        cases h
        exact hT0 _ _ hP hD hS _ (lv_sub hl [0, 1, 2] rfl)
      · have g := ineg c9 g
        refine lv_iconst (v := 1) hx hb dX0_totalPrice_15 (by decide) ?_
        refine lv_istore_n (lv' := [(3, .int 1), (0, .ref cf), (1, .int x1_1), (2, .int x2_2)]) hx hb dX0_totalPrice_16 rfl hl (by decide) rfl (fun ls hl => ?_)
        obtain ⟨x1_7, x3_8, e1, g⟩ := bd2 g
        have hT1 : ∀ (H : Heap) (locs : List Loc), va_P (dC, dI) vwCl (wX0 cyI cf nw aF aT aP aC aU aO aL aH aD aB nN nA nF nT nP nC nU cO cL cH cD cB) H → va_D A (wX0 cyI cf nw aF aT aP aC aU aO aL aH aD aB nN nA nF nT nP nC nU cO cL cH cD cB) → va_S A s.heap H locs → ∀ ls : Array Slot, lv_has ls 4 [(0, .ref cf), (1, .int x1_7), (2, .int x2_2), (3, .int x3_8)] → W p l e { frames := 1, cells := 0, slots := 0, locals := 22 } s m args below meth c H locs 0 0 Q (F0 m 45 ls []) := by
          intro H locs hP hD hS ls hl
          refine lv_iinc (v := x2_2 + 1) (lv' := [(2, .int (x2_2 + 1)), (0, .ref cf), (1, .int x1_7), (3, .int x3_8)]) hx hb dX0_totalPrice_45 hl (k := 2) rfl (by rfl) (by decide) rfl (fun ls hl => ?_)
          refine lv_goto (tgt := 4) hx hb dX0_totalPrice_48 (by decide) ?_
          cases g
          exact ih0 _ _ h _ _ hP hD hS _ (lv_sub hl [1, 2, 0] rfl)
        have hL1 : ∀ (n9 : Nat) (x1_3 : Int32) (x3_4 : Int32), lp (un2 (pX0_totalPrice_l17 cO nC nU x2_2)) n9 ((x1_3, x3_4)) = some ((x1_7, x3_8)) → ∀ (H : Heap) (locs : List Loc), va_P (dC, dI) vwCl (wX0 cyI cf nw aF aT aP aC aU aO aL aH aD aB nN nA nF nT nP nC nU cO cL cH cD cB) H → va_D A (wX0 cyI cf nw aF aT aP aC aU aO aL aH aD aB nN nA nF nT nP nC nU cO cL cH cD cB) → va_S A s.heap H locs → ∀ ls : Array Slot, lv_has ls 4 [(0, .ref cf), (1, .int x1_3), (2, .int x2_2), (3, .int x3_4)] → W p l e { frames := 1, cells := 0, slots := 0, locals := 22 } s m args below meth c H locs 0 0 Q (F0 m 17 ls []) := by
          intro n9
          induction n9 with
          | zero =>
            intro x1_3 x3_4 h
            exact lp0 h
          | succ n9 ih1 =>
            intro x1_3 x3_4 h H locs hP hD hS ls hl
            obtain ⟨o9, g, h⟩ := lps h
            replace g : pX0_totalPrice_l17 cO nC nU x2_2 x1_3 x3_4 = some o9 := g
            unfold pX0_totalPrice_l17 at g
            refine lv_iload_n hx hb dX0_totalPrice_17 rfl (lv_at hl 3 rfl) ?_
            refine lv_aload_n hx hb dX0_totalPrice_18 rfl (lv_at hl 0 rfl) ?_
            refine va_get (D := (dC, dI)) (ci := 0) (v := .ref aO) (C := RX0) (T := TX0) (N := 6) hx hb hts k1 hown hK hP 0 rfl rfl 1 (by decide) k4 (fun _ h9 => h9) rfl dX0_totalPrice_19 ?_
            refine lv_iload_n hx hb dX0_totalPrice_22 rfl (lv_at hl 2 rfl) ?_
            obtain ⟨t5, e9, g⟩ := bd g
            refine q_iald hx hb hK hP 7 0 rfl rfl e9 dX0_totalPrice_23 ?_
            refine lv_icmp_gt (tgt := 45) hx hb dX0_totalPrice_24 (by decide) (fun c9 => ?_) (fun c9 => ?_)
            · have g := ipos c9 g
              cases g
              have h := lpx h
              cases h
              exact hT1 _ _ hP hD hS _ (lv_sub hl [0, 1, 2, 3] rfl)
            · have g := ineg c9 g
              refine lv_iload_n hx hb dX0_totalPrice_27 rfl (lv_at hl 1 rfl) ?_
              refine lv_aload_n hx hb dX0_totalPrice_28 rfl (lv_at hl 0 rfl) ?_
              refine va_get (D := (dC, dI)) (ci := 0) (v := .ref nw) (C := RX0) (T := TX0) (N := 6) hx hb hts k1 hown hK hP 0 rfl rfl 0 (by decide) k0 (fun _ h9 => h9) rfl dX0_totalPrice_29 ?_
              refine lv_iload_n hx hb dX0_totalPrice_32 rfl (lv_at hl 2 rfl) ?_
              refine lv_iload_n hx hb dX0_totalPrice_33 rfl (lv_at hl 3 rfl) ?_
              obtain ⟨r6, e9, g⟩ := bd g
              refine q_callVi (ret := r6) (As := [.int x2_2, .int x3_4]) (w1 := wX2 cyI nw aF aT aP aC aU nN nA nF nT nP nC nU) (ws2 := wX0 cyI cf nw aF aT aP aC aU aO aL aH aD aB nN nA nF nT nP nC nU cO cL cH cD cB) ⟨hx, hb, hml, hown, hts⟩ (c_X2_unitPrice l dC dI cyI nw aF aT aP aC aU H.size nN nA nF nT nP nC nU x2_2 x3_4 _ e9) (cwV 2 hts gX0_totalPrice_X2_unitPrice rfl rfl rfl (by decide +kernel) ⟨Nat.le_of_ble_eq_true rfl, Nat.le_of_ble_eq_true rfl⟩) hK hP hD hS hA [1, 2, 3, 4, 5, 6] [0, 7, 8, 9, 10, 11] [0, 6, 7, 8, 9, 10, 11, 1, 2, 3, 4, 5] [0] rfl rfl rfl rfl (by decide) rfl rfl rfl 2 0 rfl rfl rfl hl.1 (Nat.le_of_ble_eq_true rfl) (Nat.le_of_ble_eq_true rfl) (Nat.le_of_ble_eq_true rfl) rfl dX0_totalPrice_34 (fun H locs hP hD hS => ?_)
              refine lv_iadd hx hb dX0_totalPrice_37 ?_
              refine lv_istore_n (lv' := [(1, .int (x1_3 + r6)), (0, .ref cf), (2, .int x2_2), (3, .int x3_4)]) hx hb dX0_totalPrice_38 rfl hl (by decide) rfl (fun ls hl => ?_)
              refine lv_iinc (v := x3_4 + 1) (lv' := [(3, .int (x3_4 + 1)), (1, .int (x1_3 + r6)), (0, .ref cf), (2, .int x2_2)]) hx hb dX0_totalPrice_39 hl (k := 3) rfl (by rfl) (by decide) rfl (fun ls hl => ?_)
              refine lv_goto (tgt := 17) hx hb dX0_totalPrice_42 (by decide) ?_
              cases g
              exact ih1 _ _ h _ _ hP hD hS _ (lv_sub hl [2, 1, 3, 0] rfl)
        exact hL1 N _ _  e1 _ _ hP hD hS _ (lv_sub hl [1, 2, 3, 0] rfl)
  exact hL0 N _ _  e0 _ _ hP hD hS _ (lv_sub hl [2, 1, 0] rfl)
set_option maxHeartbeats 4000000 in
set_option maxRecDepth 100000 in
theorem c_X0_greatestAmount (l : Launch) (dC : Nat → ClassId) (dI : Nat → Nat → Nat) (cyI : ClassId) (cf nw aF aT aP aC aU aO aL aH aD aB : Nat) (sz : Nat) (nN nA : Int32) (nF nT nP nC nU cO cL cH cD cB : Nat → Int32) (p0 p1 : Int32) (N : Nat) (res : Int32 × (Nat → Int32) × (Nat → Int32) × (Nat → Int32) × (Nat → Int32)) (h : pX0_greatestAmount N nN nA nF nT nC cO cL cH cB p0 p1 = some res) : Met l yX0_greatestAmount wsX0_greatestAmount { frames := 5, cells := 0, slots := 0, locals := 121 } (va_Pc [.ref cf, .int p0, .int p1] (zPre (dC, dI) (wX0 cyI cf nw aF aT aP aC aU aO aL aH aD aB nN nA nF nT nP nC nU cO cL cH cD cB) [(cyI, .int)] sz)) (zQi (dC, dI) (wX0 cyI cf nw aF aT aP aC aU aO aL aH aD aB nN nA nF nT nP nC nU res.2.1 res.2.2.1 res.2.2.2.1 cD res.2.2.2.2) [(cyI, .int)] (res.1) (va_A (wX0 cyI cf nw aF aT aP aC aU aO aL aH aD aB nN nA nF nT nP nC nU cO cL cH cD cB) sz)) 0 0 (va_A (wX0 cyI cf nw aF aT aP aC aU aO aL aH aD aB nN nA nF nT nP nC nU cO cL cH cD cB) sz) := by
  refine q_ofWi (cc := cX0_greatestAmount) (maxL := 3) (rt := (some .int)) (by decide) rfl (Nat.le_of_ble_eq_true rfl) ?_
  intro p e s m args below meth c ls A Q H locs hQ hx hb hr hts hown hlocks hml hA hK hP hD hS hl
  have hl : lv_has ls 3 [(0, .ref cf), (1, .int p0), (2, .int p1)] := hl
  unfold pX0_greatestAmount at h
  refine lv_aload_n hx hb dX0_greatestAmount_0 rfl (lv_at hl 0 rfl) ?_
  obtain ⟨cO_1, cL_2, cH_3, e9, h⟩ := bd3 h
  refine q_callVv (As := []) (w1 := wX0 cyI cf nw aF aT aP aC aU aO aL aH aD aB nN nA nF nT nP nC nU cO_1 cL_2 cH_3 cD cB) (ws2 := wX0 cyI cf nw aF aT aP aC aU aO aL aH aD aB nN nA nF nT nP nC nU cO_1 cL_2 cH_3 cD cB) ⟨hx, hb, hml, hown, hts⟩ (c_X0_empty l dC dI cyI cf nw aF aT aP aC aU aO aL aH aD aB H.size nN nA nF nT nP nC nU cO cL cH cD cB N _ e9) (cwV 0 hts gX0_greatestAmount_X0_empty rfl rfl rfl (by decide +kernel) ⟨Nat.le_of_ble_eq_true rfl, Nat.le_of_ble_eq_true rfl⟩) hK hP hD hS hA [0, 1, 2, 3, 4, 5, 6, 7, 8, 9, 10, 11] [] [0, 1, 2, 3, 4, 5, 6, 7, 8, 9, 10, 11] [0] rfl rfl rfl rfl (by decide) rfl rfl rfl 0 0 rfl rfl rfl hl.1 (Nat.le_of_ble_eq_true rfl) (Nat.le_of_ble_eq_true rfl) (Nat.le_of_ble_eq_true rfl) rfl dX0_greatestAmount_1 (fun H locs hP hD hS => ?_)
  refine lv_aload_n hx hb dX0_greatestAmount_4 rfl (lv_at hl 0 rfl) ?_
  refine lv_iload_n hx hb dX0_greatestAmount_5 rfl (lv_at hl 1 rfl) ?_
  refine lv_iload_n hx hb dX0_greatestAmount_6 rfl (lv_at hl 2 rfl) ?_
  refine lv_sipush (v := 180) hx hb dX0_greatestAmount_7 (by decide) ?_
  obtain ⟨r4, cO_5, cB_6, e9, h⟩ := bd3 h
  refine q_callVi (ret := r4) (As := [.int p0, .int p1, .int 180]) (w1 := wX0 cyI cf nw aF aT aP aC aU aO aL aH aD aB nN nA nF nT nP nC nU cO_5 cL_2 cH_3 cD cB_6) (ws2 := wX0 cyI cf nw aF aT aP aC aU aO aL aH aD aB nN nA nF nT nP nC nU cO_5 cL_2 cH_3 cD cB_6) ⟨hx, hb, hml, hown, hts⟩ (c_X0_send l dC dI cyI cf nw aF aT aP aC aU aO aL aH aD aB H.size nN nA nF nT nP nC nU cO_1 cL_2 cH_3 cD cB p0 p1 180 N _ e9) (cwV 3 hts gX0_greatestAmount_X0_send rfl rfl rfl (by decide +kernel) ⟨Nat.le_of_ble_eq_true rfl, Nat.le_of_ble_eq_true rfl⟩) hK hP hD hS hA [0, 1, 2, 3, 4, 5, 6, 7, 8, 9, 10, 11] [] [0, 1, 2, 3, 4, 5, 6, 7, 8, 9, 10, 11] [0] rfl rfl rfl rfl (by decide) rfl rfl rfl 0 0 rfl rfl rfl hl.1 (Nat.le_of_ble_eq_true rfl) (Nat.le_of_ble_eq_true rfl) (Nat.le_of_ble_eq_true rfl) rfl dX0_greatestAmount_10 (fun H locs hP hD hS => ?_)
  cases h
  exact q_iret hQ hx hb hr hlocks hP hK hD hS dX0_greatestAmount_13
set_option maxHeartbeats 4000000 in
set_option maxRecDepth 100000 in
theorem c_X0_meet (l : Launch) (dC : Nat → ClassId) (dI : Nat → Nat → Nat) (cyI : ClassId) (cf nw aF aT aP aC aU aO aL aH aD aB : Nat) (sz : Nat) (nN nA : Int32) (nF nT nP nC nU cO cL cH cD cB : Nat → Int32) (p0 p1 p2 : Int32) (N : Nat) (res : Bool × (Nat → Int32) × (Nat → Int32) × (Nat → Int32) × (Nat → Int32) × (Nat → Int32)) (h : pX0_meet N nN nA nF nT nC nU cO cL cH cD cB p0 p1 p2 = some res) : Met l yX0_meet wsX0_meet { frames := 5, cells := 0, slots := 0, locals := 112 } (va_Pc [.ref cf, .int p0, .int p1, .int p2] (zPre (dC, dI) (wX0 cyI cf nw aF aT aP aC aU aO aL aH aD aB nN nA nF nT nP nC nU cO cL cH cD cB) [(cyI, .int)] sz)) (zQi (dC, dI) (wX0 cyI cf nw aF aT aP aC aU aO aL aH aD aB nN nA nF nT nP nC nU res.2.1 res.2.2.1 res.2.2.2.1 res.2.2.2.2.1 res.2.2.2.2.2) [(cyI, .int)] (b2i res.1) (va_A (wX0 cyI cf nw aF aT aP aC aU aO aL aH aD aB nN nA nF nT nP nC nU cO cL cH cD cB) sz)) 0 0 (va_A (wX0 cyI cf nw aF aT aP aC aU aO aL aH aD aB nN nA nF nT nP nC nU cO cL cH cD cB) sz) := by
  refine q_ofWi (cc := cX0_meet) (maxL := 5) (rt := (some .boolean)) (by decide) rfl (Nat.le_of_ble_eq_true rfl) ?_
  intro p e s m args below meth c ls A Q H locs hQ hx hb hr hts hown hlocks hml hA hK hP hD hS hl
  have hl : lv_has ls 5 [(0, .ref cf), (1, .int p0), (2, .int p1), (3, .int p2)] := hl
  unfold pX0_meet at h
  refine lv_aload_n hx hb dX0_meet_0 rfl (lv_at hl 0 rfl) ?_
  obtain ⟨cO_1, cL_2, cH_3, e9, h⟩ := bd3 h
  refine q_callVv (As := []) (w1 := wX0 cyI cf nw aF aT aP aC aU aO aL aH aD aB nN nA nF nT nP nC nU cO_1 cL_2 cH_3 cD cB) (ws2 := wX0 cyI cf nw aF aT aP aC aU aO aL aH aD aB nN nA nF nT nP nC nU cO_1 cL_2 cH_3 cD cB) ⟨hx, hb, hml, hown, hts⟩ (c_X0_empty l dC dI cyI cf nw aF aT aP aC aU aO aL aH aD aB H.size nN nA nF nT nP nC nU cO cL cH cD cB N _ e9) (cwV 0 hts gX0_meet_X0_empty rfl rfl rfl (by decide +kernel) ⟨Nat.le_of_ble_eq_true rfl, Nat.le_of_ble_eq_true rfl⟩) hK hP hD hS hA [0, 1, 2, 3, 4, 5, 6, 7, 8, 9, 10, 11] [] [0, 1, 2, 3, 4, 5, 6, 7, 8, 9, 10, 11] [0] rfl rfl rfl rfl (by decide) rfl rfl rfl 0 0 rfl rfl rfl hl.1 (Nat.le_of_ble_eq_true rfl) (Nat.le_of_ble_eq_true rfl) (Nat.le_of_ble_eq_true rfl) rfl dX0_meet_1 (fun H locs hP hD hS => ?_)
  refine lv_iconst (v := 0) hx hb dX0_meet_4 (by decide) ?_
  refine lv_istore (lv' := [(4, .int 0), (0, .ref cf), (1, .int p0), (2, .int p1), (3, .int p2)]) hx hb dX0_meet_5 hl (by decide) rfl (fun ls hl => ?_)
  obtain ⟨o0, e0, h8⟩ := bd h
  have hT0 : ∀ (x4_12 : Int32) (cO_13 : Nat → Int32) (cD_14 : Nat → Int32) (cB_15 : Nat → Int32), o0 = .inl ((x4_12, cO_13, cD_14, cB_15)) → ∀ (H : Heap) (locs : List Loc), va_P (dC, dI) vwCl (wX0 cyI cf nw aF aT aP aC aU aO aL aH aD aB nN nA nF nT nP nC nU cO_13 cL_2 cH_3 cD_14 cB_15) H → va_D A (wX0 cyI cf nw aF aT aP aC aU aO aL aH aD aB nN nA nF nT nP nC nU cO_13 cL_2 cH_3 cD_14 cB_15) → va_S A s.heap H locs → ∀ ls : Array Slot, lv_has ls 5 [(0, .ref cf), (1, .int p0), (2, .int p1), (3, .int p2), (4, .int x4_12)] → W p l e { frames := 5, cells := 0, slots := 0, locals := 112 } s m args below meth c H locs 0 0 Q (F0 m 36 ls []) := by
    intro x4_12 cO_13 cD_14 cB_15 ho H locs hP hD hS ls hl
    rw [ho] at h8
    have h := h8
    refine lv_iconst (v := 1) hx hb dX0_meet_36 (by decide) ?_
    cases h
    exact q_zret (b := true) hQ hx hb hr hlocks hP hK hD hS dX0_meet_37
  have hL0 : ∀ (n9 : Nat) (x4_4 : Int32) (cO_5 : Nat → Int32) (cD_6 : Nat → Int32) (cB_7 : Nat → Int32), lp (un4 (pX0_meet_l7 N cH_3 cL_2 nA nC nF nN nT nU p0 p1 p2)) n9 ((x4_4, cO_5, cD_6, cB_7)) = some o0 → ∀ (H : Heap) (locs : List Loc), va_P (dC, dI) vwCl (wX0 cyI cf nw aF aT aP aC aU aO aL aH aD aB nN nA nF nT nP nC nU cO_5 cL_2 cH_3 cD_6 cB_7) H → va_D A (wX0 cyI cf nw aF aT aP aC aU aO aL aH aD aB nN nA nF nT nP nC nU cO_5 cL_2 cH_3 cD_6 cB_7) → va_S A s.heap H locs → ∀ ls : Array Slot, lv_has ls 5 [(0, .ref cf), (1, .int p0), (2, .int p1), (3, .int p2), (4, .int x4_4)] → W p l e { frames := 5, cells := 0, slots := 0, locals := 112 } s m args below meth c H locs 0 0 Q (F0 m 7 ls []) := by
    intro n9
    induction n9 with
    | zero =>
      intro x4_4 cO_5 cD_6 cB_7 h
      exact lp0 h
    | succ n9 ih0 =>
      intro x4_4 cO_5 cD_6 cB_7 h H locs hP hD hS ls hl
      obtain ⟨o9, g, h⟩ := lps h
      replace g : pX0_meet_l7 N cH_3 cL_2 nA nC nF nN nT nU p0 p1 p2 x4_4 cO_5 cD_6 cB_7 = some o9 := g
      unfold pX0_meet_l7 at g
      refine lv_iload hx hb dX0_meet_7 (lv_at hl 4 rfl) ?_
      refine lv_iload_n hx hb dX0_meet_9 rfl (lv_at hl 3 rfl) ?_
      refine lv_icmp_ge (tgt := 36) hx hb dX0_meet_10 (by decide) (fun c9 => ?_) (fun c9 => ?_)
      · have g := ipos c9 g
        cases g
        have h := lpx h
        subst h
        exact hT0 _ _ _ _ rfl _ _ hP hD hS _ (lv_sub hl [0, 1, 2, 3, 4] rfl)
      · have g := ineg c9 g
        refine lv_aload_n hx hb dX0_meet_13 rfl (lv_at hl 0 rfl) ?_
        refine lv_iload_n hx hb dX0_meet_14 rfl (lv_at hl 1 rfl) ?_
        obtain ⟨cD_8, cB_9, e9, g⟩ := bd2 g
        refine q_callVv (As := [.int p0]) (w1 := wX0 cyI cf nw aF aT aP aC aU aO aL aH aD aB nN nA nF nT nP nC nU cO_5 cL_2 cH_3 cD_8 cB_9) (ws2 := wX0 cyI cf nw aF aT aP aC aU aO aL aH aD aB nN nA nF nT nP nC nU cO_5 cL_2 cH_3 cD_8 cB_9) ⟨hx, hb, hml, hown, hts⟩ (c_X0_measureFrom l dC dI cyI cf nw aF aT aP aC aU aO aL aH aD aB H.size nN nA nF nT nP nC nU cO_5 cL_2 cH_3 cD_6 cB_7 p0 N _ e9) (cwV 1 hts gX0_meet_X0_measureFrom rfl rfl rfl (by decide +kernel) ⟨Nat.le_of_ble_eq_true rfl, Nat.le_of_ble_eq_true rfl⟩) hK hP hD hS hA [0, 1, 2, 3, 4, 5, 6, 7, 8, 9, 10, 11] [] [0, 1, 2, 3, 4, 5, 6, 7, 8, 9, 10, 11] [0] rfl rfl rfl rfl (by decide) rfl rfl rfl 0 0 rfl rfl rfl hl.1 (Nat.le_of_ble_eq_true rfl) (Nat.le_of_ble_eq_true rfl) (Nat.le_of_ble_eq_true rfl) rfl dX0_meet_15 (fun H locs hP hD hS => ?_)
        refine lv_aload_n hx hb dX0_meet_18 rfl (lv_at hl 0 rfl) ?_
        refine lv_iload_n hx hb dX0_meet_19 rfl (lv_at hl 1 rfl) ?_
        refine lv_iload_n hx hb dX0_meet_20 rfl (lv_at hl 2 rfl) ?_
        refine lv_iconst (v := 1) hx hb dX0_meet_21 (by decide) ?_
        obtain ⟨r10, cO_11, e9, g⟩ := bd2 g
        refine q_callVi (ret := r10) (As := [.int p0, .int p1, .int 1]) (w1 := wX0 cyI cf nw aF aT aP aC aU aO aL aH aD aB nN nA nF nT nP nC nU cO_11 cL_2 cH_3 cD_8 cB_9) (ws2 := wX0 cyI cf nw aF aT aP aC aU aO aL aH aD aB nN nA nF nT nP nC nU cO_11 cL_2 cH_3 cD_8 cB_9) ⟨hx, hb, hml, hown, hts⟩ (c_X0_sendOnWay l dC dI cyI cf nw aF aT aP aC aU aO aL aH aD aB H.size nN nA nF nT nP nC nU cO_5 cL_2 cH_3 cD_8 cB_9 p0 p1 1 N _ e9) (cwV 3 hts gX0_meet_X0_sendOnWay rfl rfl rfl (by decide +kernel) ⟨Nat.le_of_ble_eq_true rfl, Nat.le_of_ble_eq_true rfl⟩) hK hP hD hS hA [0, 1, 2, 3, 4, 5, 6, 7, 8, 9, 10, 11] [] [0, 1, 2, 3, 4, 5, 6, 7, 8, 9, 10, 11] [0] rfl rfl rfl rfl (by decide) rfl rfl rfl 0 0 rfl rfl rfl hl.1 (Nat.le_of_ble_eq_true rfl) (Nat.le_of_ble_eq_true rfl) (Nat.le_of_ble_eq_true rfl) rfl dX0_meet_22 (fun H locs hP hD hS => ?_)
        refine lv_if_ne (tgt := 30) hx hb dX0_meet_25 (by decide) (fun c9 => ?_) (fun c9 => ?_)
        · have g := ineg c9 g
          refine lv_iinc (v := x4_4 + 1) (lv' := [(4, .int (x4_4 + 1)), (0, .ref cf), (1, .int p0), (2, .int p1), (3, .int p2)]) hx hb dX0_meet_30 hl (k := 4) rfl (by rfl) (by decide) rfl (fun ls hl => ?_)
          refine lv_goto (tgt := 7) hx hb dX0_meet_33 (by decide) ?_
          cases g
          exact ih0 _ _ _ _ h _ _ hP hD hS _ (lv_sub hl [1, 2, 3, 4, 0] rfl)
        · have g := ipos c9 g
          refine lv_iconst (v := 0) hx hb dX0_meet_28 (by decide) ?_
          cases g
          have h := lpx h
          subst h
          have h := selr h8
          cases h
          exact q_zret (b := false) hQ hx hb hr hlocks hP hK hD hS dX0_meet_29
  exact hL0 N _ _ _ _  e0 _ _ hP hD hS _ (lv_sub hl [1, 2, 3, 4, 0] rfl)
