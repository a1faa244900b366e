set_option maxHeartbeats 4000000 in
set_option maxRecDepth 100000 in
theorem c_X2_arcOf (l : Launch) (dC : Nat → ClassId) (dI : Nat → Nat → Nat) (sz : Nat) (p0 : Int32) (res : Int32) (h : pX2_arcOf p0 = some res) : Met l yX2_arcOf wsX2_arcOf { frames := 0, cells := 0, slots := 0, locals := 0 } (va_Pc [.int p0] (zPre (dC, dI) ([]) [] sz)) (zQi (dC, dI) ([]) [] (res) (va_A ([]) sz)) 0 0 (va_A ([]) sz) := by
  refine q_ofWi (cc := cX2_arcOf) (maxL := 1) (rt := (some .int)) (by decide) rfl (Nat.le_of_ble_eq_true rfl) ?_
  intro p e s m args below meth c ls A Q H locs hQ hx hb hr hts hown hlocks hml hA hK hP hD hS hl
  have hl : lv_has ls 1 [(0, .int p0)] := hl
  unfold pX2_arcOf at h
  refine lv_iload_n hx hb dX2_arcOf_0 rfl (lv_at hl 0 rfl) ?_
  refine lv_iconst (v := 1) hx hb dX2_arcOf_1 (by decide) ?_
  refine lv_ishr hx hb dX2_arcOf_2 ?_
  cases h
  exact q_iret hQ hx hb hr hlocks hP hK hD hS dX2_arcOf_3
set_option maxHeartbeats 4000000 in
set_option maxRecDepth 100000 in
theorem c_X2_goesAlong (l : Launch) (dC : Nat → ClassId) (dI : Nat → Nat → Nat) (sz : Nat) (p0 : Int32) (res : Bool) (h : pX2_goesAlong p0 = some res) : Met l yX2_goesAlong wsX2_goesAlong { frames := 0, cells := 0, slots := 0, locals := 0 } (va_Pc [.int p0] (zPre (dC, dI) ([]) [] sz)) (zQi (dC, dI) ([]) [] (b2i res) (va_A ([]) sz)) 0 0 (va_A ([]) sz) := by
  refine q_ofWi (cc := cX2_goesAlong) (maxL := 1) (rt := (some .boolean)) (by decide) rfl (Nat.le_of_ble_eq_true rfl) ?_
  intro p e s m args below meth c ls A Q H locs hQ hx hb hr hts hown hlocks hml hA hK hP hD hS hl
  have hl : lv_has ls 1 [(0, .int p0)] := hl
  unfold pX2_goesAlong at h
  refine lv_iload_n hx hb dX2_goesAlong_0 rfl (lv_at hl 0 rfl) ?_
  refine lv_iconst (v := 1) hx hb dX2_goesAlong_1 (by decide) ?_
  refine lv_iand hx hb dX2_goesAlong_2 ?_
  refine lv_if_ne (tgt := 10) hx hb dX2_goesAlong_3 (by decide) (fun c9 => ?_) (fun c9 => ?_)
  · have h := ineg c9 h
    refine lv_iconst (v := 0) hx hb dX2_goesAlong_10 (by decide) ?_
    cases h
    exact q_zret (b := false) hQ hx hb hr hlocks hP hK hD hS dX2_goesAlong_11
  · have h := ipos c9 h
    refine lv_iconst (v := 1) hx hb dX2_goesAlong_6 (by decide) ?_
    refine lv_goto (tgt := 11) hx hb dX2_goesAlong_7 (by decide) ?_
    cases h
    exact q_zret (b := true) hQ hx hb hr hlocks hP hK hD hS dX2_goesAlong_11
set_option maxHeartbeats 4000000 in
set_option maxRecDepth 100000 in
theorem c_X2_steps (l : Launch) (dC : Nat → ClassId) (dI : Nat → Nat → Nat) (cyI : ClassId) (nw aF aT aP aC aU : Nat) (sz : Nat) (nN nA : Int32) (nF nT nP nC nU : Nat → Int32) (res : Int32) (h : pX2_steps nA = some res) : Met l yX2_steps wsX2_steps { frames := 0, cells := 0, slots := 0, locals := 0 } (va_Pc [.ref nw] (zPre (dC, dI) (wX2 cyI nw aF aT aP aC aU nN nA nF nT nP nC nU) [(cyI, .int)] sz)) (zQi (dC, dI) (wX2 cyI nw aF aT aP aC aU nN nA nF nT nP nC nU) [(cyI, .int)] (res) (va_A (wX2 cyI nw aF aT aP aC aU nN nA nF nT nP nC nU) sz)) 0 0 (va_A (wX2 cyI nw aF aT aP aC aU nN nA nF nT nP nC nU) sz) := by
  refine q_ofWi (cc := cX2_steps) (maxL := 1) (rt := (some .int)) (by decide) rfl (Nat.le_of_ble_eq_true rfl) ?_
  intro p e s m args below meth c ls A Q H locs hQ hx hb hr hts hown hlocks hml hA hK hP hD hS hl
  have hl : lv_has ls 1 [(0, .ref nw)] := hl
  have k0 := hts (.fieldLink RX2 9 "ConvexConduit$Network" "arcs" "I") (by decide +kernel)
  have k1 : ∀ w ∈ u_ws RX2 TX2 7, w ∈ wsX2_steps := by decide +kernel
  unfold pX2_steps at h
  refine lv_iconst (v := 2) hx hb dX2_steps_0 (by decide) ?_
  refine lv_aload_n hx hb dX2_steps_1 rfl (lv_at hl 0 rfl) ?_
  refine va_get (D := (dC, dI)) (ci := 2) (v := .int nA) (C := RX2) (T := TX2) (N := 7) hx hb hts k1 hown hK hP 0 rfl rfl 1 (by decide) k0 (fun _ h9 => h9) rfl dX2_steps_2 ?_
  refine lv_imul hx hb dX2_steps_5 ?_
  cases h
  exact q_iret hQ hx hb hr hlocks hP hK hD hS dX2_steps_6
set_option maxHeartbeats 4000000 in
set_option maxRecDepth 100000 in
theorem c_X2_unitPrice (l : Launch) (dC : Nat → ClassId) (dI : Nat → Nat → Nat) (cyI : ClassId) (nw aF aT aP aC aU : Nat) (sz : Nat) (nN nA : Int32) (nF nT nP nC nU : Nat → Int32) (p0 p1 : Int32) (res : Int32) (h : pX2_unitPrice nC nU p0 p1 = some res) : Met l yX2_unitPrice wsX2_unitPrice { frames := 0, cells := 0, slots := 0, locals := 0 } (va_Pc [.ref nw, .int p0, .int p1] (zPre (dC, dI) (wX2 cyI nw aF aT aP aC aU nN nA nF nT nP nC nU) [(cyI, .int)] sz)) (zQi (dC, dI) (wX2 cyI nw aF aT aP aC aU nN nA nF nT nP nC nU) [(cyI, .int)] (res) (va_A (wX2 cyI nw aF aT aP aC aU nN nA nF nT nP nC nU) sz)) 0 0 (va_A (wX2 cyI nw aF aT aP aC aU nN nA nF nT nP nC nU) sz) := by
  refine q_ofWi (cc := cX2_unitPrice) (maxL := 3) (rt := (some .int)) (by decide) rfl (Nat.le_of_ble_eq_true rfl) ?_
  intro p e s m args below meth c ls A Q H locs hQ hx hb hr hts hown hlocks hml hA hK hP hD hS hl
  have hl : lv_has ls 3 [(0, .ref nw), (1, .int p0), (2, .int p1)] := hl
  have k0 := hts (.constant RX2 38 (1000000)) (by decide +kernel)
  have k1 := hts (.fieldLink RX2 25 "ConvexConduit$Network" "capacity" "[I") (by decide +kernel)
  have k2 : ∀ w ∈ u_ws RX2 TX2 7, w ∈ wsX2_unitPrice := by decide +kernel
  have k3 := hts (.fieldLink RX2 28 "ConvexConduit$Network" "prices" "[I") (by decide +kernel)
  unfold pX2_unitPrice at h
  refine lv_iload_n hx hb dX2_unitPrice_0 rfl (lv_at hl 2 rfl) ?_
  refine lv_iconst (v := 1) hx hb dX2_unitPrice_1 (by decide) ?_
  refine lv_icmp_lt (tgt := 15) hx hb dX2_unitPrice_2 (by decide) (fun c9 => ?_) (fun c9 => ?_)
  · have h := ipos c9 h
    refine lv_ldc (own := RX2) (v := 1000000) hx hb hown k0 dX2_unitPrice_15 ?_
    cases h
    exact q_iret hQ hx hb hr hlocks hP hK hD hS dX2_unitPrice_17
  · have h := ineg c9 h
    refine lv_iload_n hx hb dX2_unitPrice_5 rfl (lv_at hl 2 rfl) ?_
    refine lv_aload_n hx hb dX2_unitPrice_6 rfl (lv_at hl 0 rfl) ?_
    refine va_get (D := (dC, dI)) (ci := 2) (v := .ref aC) (C := RX2) (T := TX2) (N := 7) hx hb hts k2 hown hK hP 0 rfl rfl 5 (by decide) k1 (fun _ h9 => h9) rfl dX2_unitPrice_7 ?_
    refine lv_iload_n hx hb dX2_unitPrice_10 rfl (lv_at hl 1 rfl) ?_
    obtain ⟨t1, e9, h⟩ := bd h
    refine q_iald hx hb hK hP 4 0 rfl rfl e9 dX2_unitPrice_11 ?_
    refine lv_icmp_le (tgt := 18) hx hb dX2_unitPrice_12 (by decide) (fun c9 => ?_) (fun c9 => ?_)
    · have h := ipos c9 h
      refine lv_aload_n hx hb dX2_unitPrice_18 rfl (lv_at hl 0 rfl) ?_
      refine va_get (D := (dC, dI)) (ci := 2) (v := .ref aU) (C := RX2) (T := TX2) (N := 7) hx hb hts k2 hown hK hP 0 rfl rfl 6 (by decide) k3 (fun _ h9 => h9) rfl dX2_unitPrice_19 ?_
      refine lv_iload_n hx hb dX2_unitPrice_22 rfl (lv_at hl 1 rfl) ?_
      refine lv_bipush (v := 15) hx hb dX2_unitPrice_23 (by decide) ?_
      refine lv_imul hx hb dX2_unitPrice_25 ?_
      refine lv_iload_n hx hb dX2_unitPrice_26 rfl (lv_at hl 2 rfl) ?_
      refine lv_iadd hx hb dX2_unitPrice_27 ?_
      refine lv_iconst (v := 1) hx hb dX2_unitPrice_28 (by decide) ?_
      refine lv_isub hx hb dX2_unitPrice_29 ?_
      obtain ⟨t2, e9, h⟩ := bd h
      refine q_iald hx hb hK hP 5 0 rfl rfl e9 dX2_unitPrice_30 ?_
      cases h
      exact q_iret hQ hx hb hr hlocks hP hK hD hS dX2_unitPrice_31
    · have h := ineg c9 h
      refine lv_ldc (own := RX2) (v := 1000000) hx hb hown k0 dX2_unitPrice_15 ?_
      cases h
      exact q_iret hQ hx hb hr hlocks hP hK hD hS dX2_unitPrice_17
set_option maxHeartbeats 4000000 in
set_option maxRecDepth 100000 in
theorem c_X2_lastPrice (l : Launch) (dC : Nat → ClassId) (dI : Nat → Nat → Nat) (cyI : ClassId) (nw aF aT aP aC aU : Nat) (sz : Nat) (nN nA : Int32) (nF nT nP nC nU : Nat → Int32) (p0 : Int32) (res : Int32) (h : pX2_lastPrice nC nU p0 = some res) : Met l yX2_lastPrice wsX2_lastPrice { frames := 1, cells := 0, slots := 0, locals := 22 } (va_Pc [.ref nw, .int p0] (zPre (dC, dI) (wX2 cyI nw aF aT aP aC aU nN nA nF nT nP nC nU) [(cyI, .int)] sz)) (zQi (dC, dI) (wX2 cyI nw aF aT aP aC aU nN nA nF nT nP nC nU) [(cyI, .int)] (res) (va_A (wX2 cyI nw aF aT aP aC aU nN nA nF nT nP nC nU) sz)) 0 0 (va_A (wX2 cyI nw aF aT aP aC aU nN nA nF nT nP nC nU) sz) := by
  refine q_ofWi (cc := cX2_lastPrice) (maxL := 2) (rt := (some .int)) (by decide) rfl (Nat.le_of_ble_eq_true rfl) ?_
  intro p e s m args below meth c ls A Q H locs hQ hx hb hr hts hown hlocks hml hA hK hP hD hS hl
  have hl : lv_has ls 2 [(0, .ref nw), (1, .int p0)] := hl
  have k0 := hts (.fieldLink RX2 25 "ConvexConduit$Network" "capacity" "[I") (by decide +kernel)
  have k1 : ∀ w ∈ u_ws RX2 TX2 7, w ∈ wsX2_lastPrice := by decide +kernel
  unfold pX2_lastPrice at h
  refine lv_aload_n hx hb dX2_lastPrice_0 rfl (lv_at hl 0 rfl) ?_
  refine lv_iload_n hx hb dX2_lastPrice_1 rfl (lv_at hl 1 rfl) ?_
  refine lv_aload_n hx hb dX2_lastPrice_2 rfl (lv_at hl 0 rfl) ?_
  refine va_get (D := (dC, dI)) (ci := 2) (v := .ref aC) (C := RX2) (T := TX2) (N := 7) hx hb hts k1 hown hK hP 0 rfl rfl 5 (by decide) k0 (fun _ h9 => h9) rfl dX2_lastPrice_3 ?_
  refine lv_iload_n hx hb dX2_lastPrice_6 rfl (lv_at hl 1 rfl) ?_
  obtain ⟨t1, e9, h⟩ := bd h
  refine q_iald hx hb hK hP 4 0 rfl rfl e9 dX2_lastPrice_7 ?_
  obtain ⟨r2, e9, h⟩ := bd h
  refine q_callVi (ret := r2) (As := [.int p0, .int t1]) (w1 := wX2 cyI nw aF aT aP aC aU nN nA nF nT nP nC nU) (ws2 := wX2 cyI nw aF aT aP aC aU nN nA nF nT nP nC nU) ⟨hx, hb, hml, hown, hts⟩ (c_X2_unitPrice l dC dI cyI nw aF aT aP aC aU H.size nN nA nF nT nP nC nU p0 t1 _ e9) (cwV 2 hts gX2_lastPrice_X2_unitPrice rfl rfl rfl (by decide +kernel) ⟨Nat.le_of_ble_eq_true rfl, Nat.le_of_ble_eq_true rfl⟩) hK hP hD hS hA [0, 1, 2, 3, 4, 5] [] [0, 1, 2, 3, 4, 5] [0] rfl rfl rfl rfl (by decide) rfl rfl rfl 2 0 rfl rfl rfl hl.1 (Nat.le_of_ble_eq_true rfl) (Nat.le_of_ble_eq_true rfl) (Nat.le_of_ble_eq_true rfl) rfl dX2_lastPrice_8 (fun H locs hP hD hS => ?_)
  cases h
  exact q_iret hQ hx hb hr hlocks hP hK hD hS dX2_lastPrice_11
set_option maxHeartbeats 4000000 in
set_option maxRecDepth 100000 in
theorem c_X2_start (l : Launch) (dC : Nat → ClassId) (dI : Nat → Nat → Nat) (cyI : ClassId) (nw aF aT aP aC aU : Nat) (sz : Nat) (nN nA : Int32) (nF nT nP nC nU : Nat → Int32) (p0 : Int32) (res : Int32) (h : pX2_start nF nT p0 = some res) : Met l yX2_start wsX2_start { frames := 1, cells := 0, slots := 0, locals := 20 } (va_Pc [.ref nw, .int p0] (zPre (dC, dI) (wX2 cyI nw aF aT aP aC aU nN nA nF nT nP nC nU) [(cyI, .int)] sz)) (zQi (dC, dI) (wX2 cyI nw aF aT aP aC aU nN nA nF nT nP nC nU) [(cyI, .int)] (res) (va_A (wX2 cyI nw aF aT aP aC aU nN nA nF nT nP nC nU) sz)) 0 0 (va_A (wX2 cyI nw aF aT aP aC aU nN nA nF nT nP nC nU) sz) := by
  refine q_ofWi (cc := cX2_start) (maxL := 2) (rt := (some .int)) (by decide) rfl (Nat.le_of_ble_eq_true rfl) ?_
  intro p e s m args below meth c ls A Q H locs hQ hx hb hr hts hown hlocks hml hA hK hP hD hS hl
  have hl : lv_has ls 2 [(0, .ref nw), (1, .int p0)] := hl
  have k0 := hts (.fieldLink RX2 19 "ConvexConduit$Network" "to" "[I") (by decide +kernel)
  have k1 : ∀ w ∈ u_ws RX2 TX2 7, w ∈ wsX2_start := by decide +kernel
  have k2 := hts (.fieldLink RX2 15 "ConvexConduit$Network" "from" "[I") (by decide +kernel)
  unfold pX2_start at h
  refine lv_iload_n hx hb dX2_start_0 rfl (lv_at hl 1 rfl) ?_
  obtain ⟨b1, e9, h⟩ := bd h
  refine q_callSi (ret := b2i b1) (As := [.int p0]) ⟨hx, hb, hml, hown, hts⟩ (c_X2_goesAlong l dC dI H.size p0 _ e9) (va_cwS 1 hts gX2_start_X2_goesAlong rfl rfl rfl (by decide +kernel) ⟨Nat.le_of_ble_eq_true rfl, Nat.le_of_ble_eq_true rfl⟩) hK hP hD hS hA [0, 1, 2, 3, 4, 5] rfl rfl rfl hl.1 (Nat.le_of_ble_eq_true rfl) (Nat.le_of_ble_eq_true rfl) (Nat.le_of_ble_eq_true rfl) rfl dX2_start_1 (fun H locs hP hD hS => ?_)
  refine lv_if_eq (tgt := 19) hx hb dX2_start_4 (by decide) (fun c9 => ?_) (fun c9 => ?_)
  · have h := ipos c9 h
    refine lv_aload_n hx hb dX2_start_19 rfl (lv_at hl 0 rfl) ?_
    refine va_get (D := (dC, dI)) (ci := 2) (v := .ref aT) (C := RX2) (T := TX2) (N := 7) hx hb hts k1 hown hK hP 0 rfl rfl 3 (by decide) k0 (fun _ h9 => h9) rfl dX2_start_20 ?_
    refine lv_iload_n hx hb dX2_start_23 rfl (lv_at hl 1 rfl) ?_
    obtain ⟨r2, e9, h⟩ := bd h
    refine q_callSi (ret := r2) (As := [.int p0]) ⟨hx, hb, hml, hown, hts⟩ (c_X2_arcOf l dC dI H.size p0 _ e9) (va_cwS 1 hts gX2_start_X2_arcOf rfl rfl rfl (by decide +kernel) ⟨Nat.le_of_ble_eq_true rfl, Nat.le_of_ble_eq_true rfl⟩) hK hP hD hS hA [0, 1, 2, 3, 4, 5] rfl rfl rfl hl.1 (Nat.le_of_ble_eq_true rfl) (Nat.le_of_ble_eq_true rfl) (Nat.le_of_ble_eq_true rfl) rfl dX2_start_24 (fun H locs hP hD hS => ?_)
    obtain ⟨t3, e9, h⟩ := bd h
    refine q_iald hx hb hK hP 2 0 rfl rfl e9 dX2_start_27 ?_
    cases h
    exact q_iret hQ hx hb hr hlocks hP hK hD hS dX2_start_28
  · have h := ineg c9 h
    refine lv_aload_n hx hb dX2_start_7 rfl (lv_at hl 0 rfl) ?_
    refine va_get (D := (dC, dI)) (ci := 2) (v := .ref aF) (C := RX2) (T := TX2) (N := 7) hx hb hts k1 hown hK hP 0 rfl rfl 2 (by decide) k2 (fun _ h9 => h9) rfl dX2_start_8 ?_
    refine lv_iload_n hx hb dX2_start_11 rfl (lv_at hl 1 rfl) ?_
    obtain ⟨r4, e9, h⟩ := bd h
    refine q_callSi (ret := r4) (As := [.int p0]) ⟨hx, hb, hml, hown, hts⟩ (c_X2_arcOf l dC dI H.size p0 _ e9) (va_cwS 1 hts gX2_start_X2_arcOf rfl rfl rfl (by decide +kernel) ⟨Nat.le_of_ble_eq_true rfl, Nat.le_of_ble_eq_true rfl⟩) hK hP hD hS hA [0, 1, 2, 3, 4, 5] rfl rfl rfl hl.1 (Nat.le_of_ble_eq_true rfl) (Nat.le_of_ble_eq_true rfl) (Nat.le_of_ble_eq_true rfl) rfl dX2_start_12 (fun H locs hP hD hS => ?_)
    obtain ⟨t5, e9, h⟩ := bd h
    refine q_iald hx hb hK hP 1 0 rfl rfl e9 dX2_start_15 ?_
    refine lv_goto (tgt := 28) hx hb dX2_start_16 (by decide) ?_
    cases h
    exact q_iret hQ hx hb hr hlocks hP hK hD hS dX2_start_28
set_option maxHeartbeats 4000000 in
set_option maxRecDepth 100000 in
theorem c_X2_end (l : Launch) (dC : Nat → ClassId) (dI : Nat → Nat → Nat) (cyI : ClassId) (nw aF aT aP aC aU : Nat) (sz : Nat) (nN nA : Int32) (nF nT nP nC nU : Nat → Int32) (p0 : Int32) (res : Int32) (h : pX2_end nF nT p0 = some res) : Met l yX2_end wsX2_end { frames := 1, cells := 0, slots := 0, locals := 20 } (va_Pc [.ref nw, .int p0] (zPre (dC, dI) (wX2 cyI nw aF aT aP aC aU nN nA nF nT nP nC nU) [(cyI, .int)] sz)) (zQi (dC, dI) (wX2 cyI nw aF aT aP aC aU nN nA nF nT nP nC nU) [(cyI, .int)] (res) (va_A (wX2 cyI nw aF aT aP aC aU nN nA nF nT nP nC nU) sz)) 0 0 (va_A (wX2 cyI nw aF aT aP aC aU nN nA nF nT nP nC nU) sz) := by
  refine q_ofWi (cc := cX2_end) (maxL := 2) (rt := (some .int)) (by decide) rfl (Nat.le_of_ble_eq_true rfl) ?_
  intro p e s m args below meth c ls A Q H locs hQ hx hb hr hts hown hlocks hml hA hK hP hD hS hl
  have hl : lv_has ls 2 [(0, .ref nw), (1, .int p0)] := hl
  have k0 := hts (.fieldLink RX2 15 "ConvexConduit$Network" "from" "[I") (by decide +kernel)
  have k1 : ∀ w ∈ u_ws RX2 TX2 7, w ∈ wsX2_end := by decide +kernel
  have k2 := hts (.fieldLink RX2 19 "ConvexConduit$Network" "to" "[I") (by decide +kernel)
  unfold pX2_end at h
  refine lv_iload_n hx hb dX2_end_0 rfl (lv_at hl 1 rfl) ?_
  obtain ⟨b1, e9, h⟩ := bd h
  refine q_callSi (ret := b2i b1) (As := [.int p0]) ⟨hx, hb, hml, hown, hts⟩ (c_X2_goesAlong l dC dI H.size p0 _ e9) (va_cwS 1 hts gX2_end_X2_goesAlong rfl rfl rfl (by decide +kernel) ⟨Nat.le_of_ble_eq_true rfl, Nat.le_of_ble_eq_true rfl⟩) hK hP hD hS hA [0, 1, 2, 3, 4, 5] rfl rfl rfl hl.1 (Nat.le_of_ble_eq_true rfl) (Nat.le_of_ble_eq_true rfl) (Nat.le_of_ble_eq_true rfl) rfl dX2_end_1 (fun H locs hP hD hS => ?_)
  refine lv_if_eq (tgt := 19) hx hb dX2_end_4 (by decide) (fun c9 => ?_) (fun c9 => ?_)
  · have h := ipos c9 h
    refine lv_aload_n hx hb dX2_end_19 rfl (lv_at hl 0 rfl) ?_
    refine va_get (D := (dC, dI)) (ci := 2) (v := .ref aF) (C := RX2) (T := TX2) (N := 7) hx hb hts k1 hown hK hP 0 rfl rfl 2 (by decide) k0 (fun _ h9 => h9) rfl dX2_end_20 ?_
    refine lv_iload_n hx hb dX2_end_23 rfl (lv_at hl 1 rfl) ?_
    obtain ⟨r2, e9, h⟩ := bd h
    refine q_callSi (ret := r2) (As := [.int p0]) ⟨hx, hb, hml, hown, hts⟩ (c_X2_arcOf l dC dI H.size p0 _ e9) (va_cwS 1 hts gX2_end_X2_arcOf rfl rfl rfl (by decide +kernel) ⟨Nat.le_of_ble_eq_true rfl, Nat.le_of_ble_eq_true rfl⟩) hK hP hD hS hA [0, 1, 2, 3, 4, 5] rfl rfl rfl hl.1 (Nat.le_of_ble_eq_true rfl) (Nat.le_of_ble_eq_true rfl) (Nat.le_of_ble_eq_true rfl) rfl dX2_end_24 (fun H locs hP hD hS => ?_)
    obtain ⟨t3, e9, h⟩ := bd h
    refine q_iald hx hb hK hP 1 0 rfl rfl e9 dX2_end_27 ?_
    cases h
    exact q_iret hQ hx hb hr hlocks hP hK hD hS dX2_end_28
  · have h := ineg c9 h
    refine lv_aload_n hx hb dX2_end_7 rfl (lv_at hl 0 rfl) ?_
    refine va_get (D := (dC, dI)) (ci := 2) (v := .ref aT) (C := RX2) (T := TX2) (N := 7) hx hb hts k1 hown hK hP 0 rfl rfl 3 (by decide) k2 (fun _ h9 => h9) rfl dX2_end_8 ?_
    refine lv_iload_n hx hb dX2_end_11 rfl (lv_at hl 1 rfl) ?_
    obtain ⟨r4, e9, h⟩ := bd h
    refine q_callSi (ret := r4) (As := [.int p0]) ⟨hx, hb, hml, hown, hts⟩ (c_X2_arcOf l dC dI H.size p0 _ e9) (va_cwS 1 hts gX2_end_X2_arcOf rfl rfl rfl (by decide +kernel) ⟨Nat.le_of_ble_eq_true rfl, Nat.le_of_ble_eq_true rfl⟩) hK hP hD hS hA [0, 1, 2, 3, 4, 5] rfl rfl rfl hl.1 (Nat.le_of_ble_eq_true rfl) (Nat.le_of_ble_eq_true rfl) (Nat.le_of_ble_eq_true rfl) rfl dX2_end_12 (fun H locs hP hD hS => ?_)
    obtain ⟨t5, e9, h⟩ := bd h
    refine q_iald hx hb hK hP 2 0 rfl rfl e9 dX2_end_15 ?_
    refine lv_goto (tgt := 28) hx hb dX2_end_16 (by decide) ?_
    cases h
    exact q_iret hQ hx hb hr hlocks hP hK hD hS dX2_end_28
set_option maxHeartbeats 4000000 in
set_option maxRecDepth 100000 in
theorem c_X2_addPiece (l : Launch) (dC : Nat → ClassId) (dI : Nat → Nat → Nat) (cyI : ClassId) (nw aF aT aP aC aU : Nat) (sz : Nat) (nN nA : Int32) (nF nT nP nC nU : Nat → Int32) (p0 p1 p2 : Int32) (N : Nat) (res : (Nat → Int32) × (Nat → Int32) × (Nat → Int32)) (h : pX2_addPiece N nP nC nU p0 p1 p2 = some res) : Met l yX2_addPiece wsX2_addPiece { frames := 0, cells := 0, slots := 0, locals := 0 } (va_Pc [.ref nw, .int p0, .int p1, .int p2] (zPre (dC, dI) (wX2 cyI nw aF aT aP aC aU nN nA nF nT nP nC nU) [(cyI, .int)] sz)) (zQv (dC, dI) (wX2 cyI nw aF aT aP aC aU nN nA nF nT res.1 res.2.1 res.2.2) [(cyI, .int)] (va_A (wX2 cyI nw aF aT aP aC aU nN nA nF nT nP nC nU) sz)) 0 0 (va_A (wX2 cyI nw aF aT aP aC aU nN nA nF nT nP nC nU) sz) := by
  refine q_ofWv (cc := cX2_addPiece) (maxL := 5) (rt := none) (by decide) rfl (Nat.le_of_ble_eq_true rfl) ?_
  intro p e s m args below meth c ls A Q H locs hQ hx hb hr hts hown hlocks hml hA hK hP hD hS hl
  have hl : lv_has ls 5 [(0, .ref nw), (1, .int p0), (2, .int p1), (3, .int p2)] := hl
  have k0 := hts (.fieldLink RX2 25 "ConvexConduit$Network" "capacity" "[I") (by decide +kernel)
  have k1 : ∀ w ∈ u_ws RX2 TX2 7, w ∈ wsX2_addPiece := by decide +kernel
  have k2 := hts (.fieldLink RX2 28 "ConvexConduit$Network" "prices" "[I") (by decide +kernel)
  have k3 := hts (.fieldLink RX2 22 "ConvexConduit$Network" "pieces" "[I") (by decide +kernel)
  unfold pX2_addPiece at h
  refine lv_iconst (v := 0) hx hb dX2_addPiece_0 (by decide) ?_
  refine lv_istore (lv' := [(4, .int 0), (0, .ref nw), (1, .int p0), (2, .int p1), (3, .int p2)]) hx hb dX2_addPiece_1 hl (by decide) rfl (fun ls hl => ?_)
  obtain ⟨x4_9, nC_10, nU_11, e0, h⟩ := bd3 h
  have hT0 : ∀ (H : Heap) (locs : List Loc), va_P (dC, dI) vwCl (wX2 cyI nw aF aT aP aC aU nN nA nF nT nP nC_10 nU_11) H → va_D A (wX2 cyI nw aF aT aP aC aU nN nA nF nT nP nC_10 nU_11) → va_S A s.heap H locs → ∀ ls : Array Slot, lv_has ls 5 [(0, .ref nw), (1, .int p0), (2, .int p1), (3, .int p2), (4, .int x4_9)] → W p l e { frames := 0, cells := 0, slots := 0, locals := 0 } s m args below meth c H locs 0 0 Q (F0 m 53 ls []) := by
    intro H locs hP hD hS ls hl
    refine lv_aload_n hx hb dX2_addPiece_53 rfl (lv_at hl 0 rfl) ?_
    refine va_get (D := (dC, dI)) (ci := 2) (v := .ref aP) (C := RX2) (T := TX2) (N := 7) hx hb hts k1 hown hK hP 0 rfl rfl 4 (by decide) k3 (fun _ h9 => h9) rfl dX2_addPiece_54 ?_
    refine lv_iload_n hx hb dX2_addPiece_57 rfl (lv_at hl 1 rfl) ?_
    refine lv_dup2_11 hx hb dX2_addPiece_58 rfl rfl ?_
    obtain ⟨t12, e9, h⟩ := bd h
    refine q_iald hx hb hK hP 3 0 rfl rfl e9 dX2_addPiece_59 ?_
    refine lv_iconst (v := 1) hx hb dX2_addPiece_60 (by decide) ?_
    refine lv_iadd hx hb dX2_addPiece_61 ?_
    obtain ⟨nP_13, e9, h⟩ := bd h
    refine q_iast (ws2 := wX2 cyI nw aF aT aP aC aU nN nA nF nT nP_13 nC_10 nU_11) hx hb hK hP hD hS 3 0 rfl rfl e9 dX2_addPiece_62 rfl (fun H locs hP hD hS => ?_)
    cases h
    exact q_vret hQ hx hb hr hlocks hP hK hD hS dX2_addPiece_63
  have hL0 : ∀ (n9 : Nat) (x4_1 : Int32) (nC_2 : Nat → Int32) (nU_3 : Nat → Int32), lp (un3 (pX2_addPiece_l3 p0 p1 p2)) n9 ((x4_1, nC_2, nU_3)) = some ((x4_9, nC_10, nU_11)) → ∀ (H : Heap) (locs : List Loc), va_P (dC, dI) vwCl (wX2 cyI nw aF aT aP aC aU nN nA nF nT nP nC_2 nU_3) H → va_D A (wX2 cyI nw aF aT aP aC aU nN nA nF nT nP nC_2 nU_3) → va_S A s.heap H locs → ∀ ls : Array Slot, lv_has ls 5 [(0, .ref nw), (1, .int p0), (2, .int p1), (3, .int p2), (4, .int x4_1)] → W p l e { frames := 0, cells := 0, slots := 0, locals := 0 } s m args below meth c H locs 0 0 Q (F0 m 3 ls []) := by
    intro n9
    induction n9 with
    | zero =>
      intro x4_1 nC_2 nU_3 h
      exact lp0 h
    | succ n9 ih0 =>
      intro x4_1 nC_2 nU_3 h H locs hP hD hS ls hl
      obtain ⟨o9, e, h⟩ := lps h
      replace e : pX2_addPiece_l3 p0 p1 p2 x4_1 nC_2 nU_3 = some o9 := e
      unfold pX2_addPiece_l3 at e
      refine lv_iload hx hb dX2_addPiece_3 (lv_at hl 4 rfl) ?_
      refine lv_iload_n hx hb dX2_addPiece_5 rfl (lv_at hl 2 rfl) ?_
      refine lv_icmp_ge (tgt := 53) hx hb dX2_addPiece_6 (by decide) (fun c9 => ?_) (fun c9 => ?_)
      · have e := ipos c9 e
        cases e
        have h := lpx h
        cases h
        exact hT0 _ _ hP hD hS _ (lv_sub hl [0, 1, 2, 3, 4] rfl)
      · have e := ineg c9 e
        refine lv_aload_n hx hb dX2_addPiece_9 rfl (lv_at hl 0 rfl) ?_
        refine va_get (D := (dC, dI)) (ci := 2) (v := .ref aC) (C := RX2) (T := TX2) (N := 7) hx hb hts k1 hown hK hP 0 rfl rfl 5 (by decide) k0 (fun _ h9 => h9) rfl dX2_addPiece_10 ?_
        refine lv_iload_n hx hb dX2_addPiece_13 rfl (lv_at hl 1 rfl) ?_
        obtain ⟨t4, e9, e⟩ := bd e
        refine q_iald hx hb hK hP 4 0 rfl rfl e9 dX2_addPiece_14 ?_
        refine lv_bipush (v := 15) hx hb dX2_addPiece_15 (by decide) ?_
        refine lv_icmp_ge (tgt := 53) hx hb dX2_addPiece_17 (by decide) (fun c9 => ?_) (fun c9 => ?_)
        · have e := ipos c9 e
          cases e
          have h := lpx h
          cases h
          exact hT0 _ _ hP hD hS _ (lv_sub hl [0, 1, 2, 3, 4] rfl)
        · have e := ineg c9 e
          refine lv_aload_n hx hb dX2_addPiece_20 rfl (lv_at hl 0 rfl) ?_
          refine va_get (D := (dC, dI)) (ci := 2) (v := .ref aU) (C := RX2) (T := TX2) (N := 7) hx hb hts k1 hown hK hP 0 rfl rfl 6 (by decide) k2 (fun _ h9 => h9) rfl dX2_addPiece_21 ?_
          refine lv_iload_n hx hb dX2_addPiece_24 rfl (lv_at hl 1 rfl) ?_
          refine lv_bipush (v := 15) hx hb dX2_addPiece_25 (by decide) ?_
          refine lv_imul hx hb dX2_addPiece_27 ?_
          refine lv_aload_n hx hb dX2_addPiece_28 rfl (lv_at hl 0 rfl) ?_
          refine va_get (D := (dC, dI)) (ci := 2) (v := .ref aC) (C := RX2) (T := TX2) (N := 7) hx hb hts k1 hown hK hP 0 rfl rfl 5 (by decide) k0 (fun _ h9 => h9) rfl dX2_addPiece_29 ?_
          refine lv_iload_n hx hb dX2_addPiece_32 rfl (lv_at hl 1 rfl) ?_
          obtain ⟨t5, e9, e⟩ := bd e
          refine q_iald hx hb hK hP 4 0 rfl rfl e9 dX2_addPiece_33 ?_
          refine lv_iadd hx hb dX2_addPiece_34 ?_
          refine lv_iload_n hx hb dX2_addPiece_35 rfl (lv_at hl 3 rfl) ?_
          obtain ⟨nU_6, e9, e⟩ := bd e
          refine q_iast (ws2 := wX2 cyI nw aF aT aP aC aU nN nA nF nT nP nC_2 nU_6) hx hb hK hP hD hS 5 0 rfl rfl e9 dX2_addPiece_36 rfl (fun H locs hP hD hS => ?_)
          refine lv_aload_n hx hb dX2_addPiece_37 rfl (lv_at hl 0 rfl) ?_
          refine va_get (D := (dC, dI)) (ci := 2) (v := .ref aC) (C := RX2) (T := TX2) (N := 7) hx hb hts k1 hown hK hP 0 rfl rfl 5 (by decide) k0 (fun _ h9 => h9) rfl dX2_addPiece_38 ?_
          refine lv_iload_n hx hb dX2_addPiece_41 rfl (lv_at hl 1 rfl) ?_
          refine lv_dup2_11 hx hb dX2_addPiece_42 rfl rfl ?_
          obtain ⟨t7, e9, e⟩ := bd e
          refine q_iald hx hb hK hP 4 0 rfl rfl e9 dX2_addPiece_43 ?_
          refine lv_iconst (v := 1) hx hb dX2_addPiece_44 (by decide) ?_
          refine lv_iadd hx hb dX2_addPiece_45 ?_
          obtain ⟨nC_8, e9, e⟩ := bd e
          refine q_iast (ws2 := wX2 cyI nw aF aT aP aC aU nN nA nF nT nP nC_8 nU_6) hx hb hK hP hD hS 4 0 rfl rfl e9 dX2_addPiece_46 rfl (fun H locs hP hD hS => ?_)
          refine lv_iinc (v := x4_1 + 1) (lv' := [(4, .int (x4_1 + 1)), (0, .ref nw), (1, .int p0), (2, .int p1), (3, .int p2)]) hx hb dX2_addPiece_47 hl (k := 4) rfl (by rfl) (by decide) rfl (fun ls hl => ?_)
          refine lv_goto (tgt := 3) hx hb dX2_addPiece_50 (by decide) ?_
          cases e
          exact ih0 _ _ _ h _ _ hP hD hS _ (lv_sub hl [1, 2, 3, 4, 0] rfl)
  exact hL0 N _ _ _  e0 _ _ hP hD hS _ (lv_sub hl [1, 2, 3, 4, 0] rfl)
set_option maxHeartbeats 4000000 in
set_option maxRecDepth 100000 in
theorem c_X2_addArc (l : Launch) (dC : Nat → ClassId) (dI : Nat → Nat → Nat) (cyI : ClassId) (nw aF aT aP aC aU : Nat) (sz : Nat) (nN nA : Int32) (nF nT nP nC nU : Nat → Int32) (p0 p1 p2 p3 : Int32) (N : Nat) (res : Int32 × Int32 × (Nat → Int32) × (Nat → Int32) × (Nat → Int32) × (Nat → Int32) × (Nat → Int32)) (h : pX2_addArc N nA nF nT nP nC nU p0 p1 p2 p3 = some res) : Met l yX2_addArc wsX2_addArc { frames := 1, cells := 0, slots := 0, locals := 24 } (va_Pc [.ref nw, .int p0, .int p1, .int p2, .int p3] (zPre (dC, dI) (wX2 cyI nw aF aT aP aC aU nN nA nF nT nP nC nU) [(cyI, .int)] sz)) (zQi (dC, dI) (wX2 cyI nw aF aT aP aC aU nN res.2.1 res.2.2.1 res.2.2.2.1 res.2.2.2.2.1 res.2.2.2.2.2.1 res.2.2.2.2.2.2) [(cyI, .int)] (res.1) (va_A (wX2 cyI nw aF aT aP aC aU nN nA nF nT nP nC nU) sz)) 0 0 (va_A (wX2 cyI nw aF aT aP aC aU nN nA nF nT nP nC nU) sz) := by
  refine q_ofWi (cc := cX2_addArc) (maxL := 6) (rt := (some .int)) (by decide) rfl (Nat.le_of_ble_eq_true rfl) ?_
  intro p e s m args below meth c ls A Q H locs hQ hx hb hr hts hown hlocks hml hA hK hP hD hS hl
  have hl : lv_has ls 6 [(0, .ref nw), (1, .int p0), (2, .int p1), (3, .int p2), (4, .int p3)] := hl
  have k0 := hts (.fieldLink RX2 9 "ConvexConduit$Network" "arcs" "I") (by decide +kernel)
  have k1 : ∀ w ∈ u_ws RX2 TX2 7, w ∈ wsX2_addArc := by decide +kernel
  have k2 := hts (.fieldLink RX2 15 "ConvexConduit$Network" "from" "[I") (by decide +kernel)
  have k3 := hts (.fieldLink RX2 19 "ConvexConduit$Network" "to" "[I") (by decide +kernel)
  unfold pX2_addArc at h
  refine lv_aload_n hx hb dX2_addArc_0 rfl (lv_at hl 0 rfl) ?_
  refine va_get (D := (dC, dI)) (ci := 2) (v := .int nA) (C := RX2) (T := TX2) (N := 7) hx hb hts k1 hown hK hP 0 rfl rfl 1 (by decide) k0 (fun _ h9 => h9) rfl dX2_addArc_1 ?_
  refine lv_istore (lv' := [(5, .int nA), (0, .ref nw), (1, .int p0), (2, .int p1), (3, .int p2), (4, .int p3)]) hx hb dX2_addArc_4 hl (by decide) rfl (fun ls hl => ?_)
  refine lv_iload hx hb dX2_addArc_6 (lv_at hl 0 rfl) ?_
  refine lv_bipush (v := 12) hx hb dX2_addArc_8 (by decide) ?_
  refine lv_icmp_lt (tgt := 15) hx hb dX2_addArc_10 (by decide) (fun c9 => ?_) (fun c9 => ?_)
  · have h := ipos c9 h
    refine lv_aload_n hx hb dX2_addArc_15 rfl (lv_at hl 1 rfl) ?_
    refine va_get (D := (dC, dI)) (ci := 2) (v := .ref aF) (C := RX2) (T := TX2) (N := 7) hx hb hts k1 hown hK hP 0 rfl rfl 2 (by decide) k2 (fun _ h9 => h9) rfl dX2_addArc_16 ?_
    refine lv_iload hx hb dX2_addArc_19 (lv_at hl 0 rfl) ?_
    refine lv_iload_n hx hb dX2_addArc_21 rfl (lv_at hl 2 rfl) ?_
    obtain ⟨nF_1, e9, h⟩ := bd h
    refine q_iast (ws2 := wX2 cyI nw aF aT aP aC aU nN nA nF_1 nT nP nC nU) hx hb hK hP hD hS 1 0 rfl rfl e9 dX2_addArc_22 rfl (fun H locs hP hD hS => ?_)
    refine lv_aload_n hx hb dX2_addArc_23 rfl (lv_at hl 1 rfl) ?_
    refine va_get (D := (dC, dI)) (ci := 2) (v := .ref aT) (C := RX2) (T := TX2) (N := 7) hx hb hts k1 hown hK hP 0 rfl rfl 3 (by decide) k3 (fun _ h9 => h9) rfl dX2_addArc_24 ?_
    refine lv_iload hx hb dX2_addArc_27 (lv_at hl 0 rfl) ?_
    refine lv_iload_n hx hb dX2_addArc_29 rfl (lv_at hl 3 rfl) ?_
    obtain ⟨nT_2, e9, h⟩ := bd h
    refine q_iast (ws2 := wX2 cyI nw aF aT aP aC aU nN nA nF_1 nT_2 nP nC nU) hx hb hK hP hD hS 2 0 rfl rfl e9 dX2_addArc_30 rfl (fun H locs hP hD hS => ?_)
    refine lv_aload_n hx hb dX2_addArc_31 rfl (lv_at hl 1 rfl) ?_
    refine lv_dup hx hb dX2_addArc_32 rfl ?_
    refine va_get (D := (dC, dI)) (ci := 2) (v := .int nA) (C := RX2) (T := TX2) (N := 7) hx hb hts k1 hown hK hP 0 rfl rfl 1 (by decide) k0 (fun _ h9 => h9) rfl dX2_addArc_33 ?_
    refine lv_iconst (v := 1) hx hb dX2_addArc_36 (by decide) ?_
    refine lv_iadd hx hb dX2_addArc_37 ?_
    refine va_put (D := (dC, dI)) (ci := 2) (v := .int (nA + 1)) (ty := .int) (C := RX2) (T := TX2) (N := 7) hx hb hts k1 tyX2 tyX2_ok nmX2 hown hK hP hD hS 0 rfl rfl 1 (by decide) k0 (fun _ h9 => h9) rfl (by decide +kernel) rfl rfl (Nat.le_of_ble_eq_true rfl) dX2_addArc_38 (fun H locs hP hD hS => ?_)
    have hP : va_P (dC, dI) vwCl (wX2 cyI nw aF aT aP aC aU nN (nA + 1) nF_1 nT_2 nP nC nU) H := hP
    have hD : va_D A (wX2 cyI nw aF aT aP aC aU nN (nA + 1) nF_1 nT_2 nP nC nU) := hD
    refine lv_aload_n hx hb dX2_addArc_41 rfl (lv_at hl 1 rfl) ?_
    refine lv_iload hx hb dX2_addArc_42 (lv_at hl 0 rfl) ?_
    refine lv_iload_n hx hb dX2_addArc_44 rfl (lv_at hl 4 rfl) ?_
    refine lv_iload hx hb dX2_addArc_45 (lv_at hl 5 rfl) ?_
    obtain ⟨nP_3, nC_4, nU_5, e9, h⟩ := bd3 h
    refine q_callVv (As := [.int nA, .int p2, .int p3]) (w1 := wX2 cyI nw aF aT aP aC aU nN (nA + 1) nF_1 nT_2 nP_3 nC_4 nU_5) (ws2 := wX2 cyI nw aF aT aP aC aU nN (nA + 1) nF_1 nT_2 nP_3 nC_4 nU_5) ⟨hx, hb, hml, hown, hts⟩ (c_X2_addPiece l dC dI cyI nw aF aT aP aC aU H.size nN (nA + 1) nF_1 nT_2 nP nC nU nA p2 p3 N _ e9) (cwV 3 hts gX2_addArc_X2_addPiece rfl rfl rfl (by decide +kernel) ⟨Nat.le_of_ble_eq_true rfl, Nat.le_of_ble_eq_true rfl⟩) hK hP hD hS hA [0, 1, 2, 3, 4, 5] [] [0, 1, 2, 3, 4, 5] [0] rfl rfl rfl rfl (by decide) rfl rfl rfl 2 0 rfl rfl rfl hl.1 (Nat.le_of_ble_eq_true rfl) (Nat.le_of_ble_eq_true rfl) (Nat.le_of_ble_eq_true rfl) rfl dX2_addArc_47 (fun H locs hP hD hS => ?_)
    refine lv_iload hx hb dX2_addArc_50 (lv_at hl 0 rfl) ?_
    cases h
    exact q_iret hQ hx hb hr hlocks hP hK hD hS dX2_addArc_52
  · have h := ineg c9 h
    refine lv_iconst (v := -1) hx hb dX2_addArc_13 (by decide) ?_
    cases h
    exact q_iret hQ hx hb hr hlocks hP hK hD hS dX2_addArc_14
