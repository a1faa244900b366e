abbrev zwX2 (nw : Nat) (p0 : Int32) : (Nat × Nat × Nat × Nat × Nat × ClassId) → va_W := (fun (u : (Nat × Nat × Nat × Nat × Nat × ClassId)) => [(nw, .inr (2, [.int p0, .int 0, .ref u.1, .ref u.2.1, .ref u.2.2.1, .ref u.2.2.2.1, .ref u.2.2.2.2.1])), (u.1, .inl (u.2.2.2.2.2, 12, .inl (fun _ => 0))), (u.2.1, .inl (u.2.2.2.2.2, 12, .inl (fun _ => 0))), (u.2.2.1, .inl (u.2.2.2.2.2, 12, .inl (fun _ => 0))), (u.2.2.2.1, .inl (u.2.2.2.2.2, 12, .inl (fun _ => 0))), (u.2.2.2.2.1, .inl (u.2.2.2.2.2, 180, .inl (fun _ => 0)))])
abbrev ztX2 : (Nat × Nat × Nat × Nat × Nat × ClassId) → List (ClassId × FieldType) := (fun (u : (Nat × Nat × Nat × Nat × Nat × ClassId)) => [(u.2.2.2.2.2, .int)])
set_option maxHeartbeats 4000000 in
set_option maxRecDepth 100000 in
theorem c_X2_init (l : Launch) (dC : Nat → ClassId) (dI : Nat → Nat → Nat) (nw : Nat) (sz : Nat) (p0 : Int32) : Met l yX2_init wsX2_init { frames := 1, cells := 5, slots := 228, locals := 12 } (va_Pc [.ref nw, .int p0] (zPre (dC, dI) [(nw, .inr (2, [.int 0, .int 0, .null, .null, .null, .null, .null]))] [] sz)) (zQc (dC, dI) (zwX2 nw p0) ztX2 (va_A [(nw, .inr (2, [.int 0, .int 0, .null, .null, .null, .null, .null]))] sz)) 5 228 (va_A [(nw, .inr (2, [.int 0, .int 0, .null, .null, .null, .null, .null]))] sz) := by
  refine q_ofWc (cc := cX2_init) (maxL := 2) (by decide) rfl rfl (Nat.le_of_ble_eq_true rfl) ?_
  intro p e s m args below meth c ls A Q H locs hQ hx hb hr hts hown hlocks hml hin hA hK hP hD hS hl
  have hl : lv_has ls 2 [(0, .ref nw), (1, .int p0)] := hl
  have w0 : ∀ w ∈ u_ws RX2 TX2 7, w ∈ wsX2_init := by decide +kernel
  refine lv_aload_n hx hb dX2_init_0 rfl (lv_at hl 0 rfl) ?_
  refine W.objInit hx hb hown (hts (.methodLink RX2 3 objectInit) (by decide +kernel)) (hts (.instanceMethod objectInit) (by decide +kernel)) (hts (.code objectInit ⟨#[0xb1]⟩ 1 none) (by decide +kernel)) rfl (by rw [hml]; exact hl.1) rfl dX2_init_1 (Nat.le_of_ble_eq_true rfl) (Nat.le_of_ble_eq_true rfl) ?_
  refine W.eq (g2 := F0 m 4 ls []) rfl ?_
  refine lv_aload_n hx hb dX2_init_4 rfl (lv_at hl 0 rfl) ?_
  refine lv_iconst (v := 0) hx hb dX2_init_5 (by decide) ?_
  refine va_put (D := (dC, dI)) (ci := 2) (v := .int 0) (ty := .int) (C := RX2) (T := TX2) (N := 7) hx hb hts w0 tyX2 tyX2_ok nmX2 hown hK hP hD hS 0 rfl rfl 1 (by decide) (hts (.fieldLink RX2 9 "ConvexConduit$Network" "arcs" "I") (by decide +kernel)) (fun _ h9 => h9) rfl (by decide +kernel) rfl rfl (Nat.le_of_ble_eq_true rfl) dX2_init_6 (fun H locs hP hD hS => ?_)
  have hP : va_P (dC, dI) vwCl [(nw, .inr (2, [.int 0, .int 0, .null, .null, .null, .null, .null]))] H := hP
  have hD : va_D A [(nw, .inr (2, [.int 0, .int 0, .null, .null, .null, .null, .null]))] := hD
  refine lv_aload_n hx hb dX2_init_9 rfl (lv_at hl 0 rfl) ?_
  refine lv_bipush (v := 12) hx hb dX2_init_10 (by decide) ?_
  refine va_newa (atype := .int) (ty := .int) (a0 := (12, .inl (fun _ => 0))) (N' := 12) hx hb (hts (.arrayClass .int) (by decide +kernel)) rfl hK hP hD hS hA (fun _ => rfl) (by decide) (by decide) (Nat.le_of_ble_eq_true rfl) (Nat.le_of_ble_eq_true rfl) (Nat.le_of_ble_eq_true rfl) dX2_init_12 (fun q0 c0 H hK hP hD hS => ?_)
  have hP : va_P (dC, dI) vwCl [(nw, .inr (2, [.int 0, .int 0, .null, .null, .null, .null, .null])), (q0, .inl (c0, 12, .inl (fun _ => 0)))] H := hP
  have hD : va_D A [(nw, .inr (2, [.int 0, .int 0, .null, .null, .null, .null, .null])), (q0, .inl (c0, 12, .inl (fun _ => 0)))] := hD
  have hK : va_K (dC, dI) vwCl [(c0, .int)] s := hK
  refine va_putF (D := (dC, dI)) (ci := 2) (v := .ref q0) (ty := .array .int) (C := RX2) (T := TX2) (N := 7) hx hb hts w0 tyX2 tyX2_ok nmX2 hown hK hP hD hS 0 rfl rfl 2 (by decide) (hts (.fieldLink RX2 15 "ConvexConduit$Network" "from" "[I") (by decide +kernel)) (fun _ h9 => h9) rfl hin rfl (by decide +kernel) rfl rfl (Nat.le_of_ble_eq_true rfl) dX2_init_14 (fun H locs hP hD hS => ?_)
  have hP : va_P (dC, dI) vwCl [(nw, .inr (2, [.int 0, .int 0, .ref q0, .null, .null, .null, .null])), (q0, .inl (c0, 12, .inl (fun _ => 0)))] H := hP
  have hD : va_D A [(nw, .inr (2, [.int 0, .int 0, .ref q0, .null, .null, .null, .null])), (q0, .inl (c0, 12, .inl (fun _ => 0)))] := hD
  refine lv_aload_n hx hb dX2_init_17 rfl (lv_at hl 0 rfl) ?_
  refine lv_bipush (v := 12) hx hb dX2_init_18 (by decide) ?_
  refine va_newa (atype := .int) (ty := .int) (a0 := (12, .inl (fun _ => 0))) (N' := 12) hx hb (hts (.arrayClass .int) (by decide +kernel)) rfl hK hP hD hS hA (fun _ => rfl) (by decide) (by decide) (Nat.le_of_ble_eq_true rfl) (Nat.le_of_ble_eq_true rfl) (Nat.le_of_ble_eq_true rfl) dX2_init_20 (fun q1 c1 H hK hP hD hS => ?_)
  have ec : c0 = c1 := zcls hK 1 0 rfl rfl
  subst ec
  have hP : va_P (dC, dI) vwCl [(nw, .inr (2, [.int 0, .int 0, .ref q0, .null, .null, .null, .null])), (q0, .inl (c0, 12, .inl (fun _ => 0))), (q1, .inl (c0, 12, .inl (fun _ => 0)))] H := hP
  have hD : va_D A [(nw, .inr (2, [.int 0, .int 0, .ref q0, .null, .null, .null, .null])), (q0, .inl (c0, 12, .inl (fun _ => 0))), (q1, .inl (c0, 12, .inl (fun _ => 0)))] := hD
  have hK : va_K (dC, dI) vwCl [(c0, .int), (c0, .int)] s := hK
  refine va_putF (D := (dC, dI)) (ci := 2) (v := .ref q1) (ty := .array .int) (C := RX2) (T := TX2) (N := 7) hx hb hts w0 tyX2 tyX2_ok nmX2 hown hK hP hD hS 0 rfl rfl 3 (by decide) (hts (.fieldLink RX2 19 "ConvexConduit$Network" "to" "[I") (by decide +kernel)) (fun _ h9 => h9) rfl hin rfl (by decide +kernel) rfl rfl (Nat.le_of_ble_eq_true rfl) dX2_init_22 (fun H locs hP hD hS => ?_)
  have hP : va_P (dC, dI) vwCl [(nw, .inr (2, [.int 0, .int 0, .ref q0, .ref q1, .null, .null, .null])), (q0, .inl (c0, 12, .inl (fun _ => 0))), (q1, .inl (c0, 12, .inl (fun _ => 0)))] H := hP
  have hD : va_D A [(nw, .inr (2, [.int 0, .int 0, .ref q0, .ref q1, .null, .null, .null])), (q0, .inl (c0, 12, .inl (fun _ => 0))), (q1, .inl (c0, 12, .inl (fun _ => 0)))] := hD
  refine lv_aload_n hx hb dX2_init_25 rfl (lv_at hl 0 rfl) ?_
  refine lv_bipush (v := 12) hx hb dX2_init_26 (by decide) ?_
  refine va_newa (atype := .int) (ty := .int) (a0 := (12, .inl (fun _ => 0))) (N' := 12) hx hb (hts (.arrayClass .int) (by decide +kernel)) rfl hK hP hD hS hA (fun _ => rfl) (by decide) (by decide) (Nat.le_of_ble_eq_true rfl) (Nat.le_of_ble_eq_true rfl) (Nat.le_of_ble_eq_true rfl) dX2_init_28 (fun q2 c2 H hK hP hD hS => ?_)
  have ec : c0 = c2 := zcls hK 2 0 rfl rfl
  subst ec
  have hP : va_P (dC, dI) vwCl [(nw, .inr (2, [.int 0, .int 0, .ref q0, .ref q1, .null, .null, .null])), (q0, .inl (c0, 12, .inl (fun _ => 0))), (q1, .inl (c0, 12, .inl (fun _ => 0))), (q2, .inl (c0, 12, .inl (fun _ => 0)))] H := hP
  have hD : va_D A [(nw, .inr (2, [.int 0, .int 0, .ref q0, .ref q1, .null, .null, .null])), (q0, .inl (c0, 12, .inl (fun _ => 0))), (q1, .inl (c0, 12, .inl (fun _ => 0))), (q2, .inl (c0, 12, .inl (fun _ => 0)))] := hD
  have hK : va_K (dC, dI) vwCl [(c0, .int), (c0, .int), (c0, .int)] s := hK
  refine va_putF (D := (dC, dI)) (ci := 2) (v := .ref q2) (ty := .array .int) (C := RX2) (T := TX2) (N := 7) hx hb hts w0 tyX2 tyX2_ok nmX2 hown hK hP hD hS 0 rfl rfl 4 (by decide) (hts (.fieldLink RX2 22 "ConvexConduit$Network" "pieces" "[I") (by decide +kernel)) (fun _ h9 => h9) rfl hin rfl (by decide +kernel) rfl rfl (Nat.le_of_ble_eq_true rfl) dX2_init_30 (fun H locs hP hD hS => ?_)
  have hP : va_P (dC, dI) vwCl [(nw, .inr (2, [.int 0, .int 0, .ref q0, .ref q1, .ref q2, .null, .null])), (q0, .inl (c0, 12, .inl (fun _ => 0))), (q1, .inl (c0, 12, .inl (fun _ => 0))), (q2, .inl (c0, 12, .inl (fun _ => 0)))] H := hP
  have hD : va_D A [(nw, .inr (2, [.int 0, .int 0, .ref q0, .ref q1, .ref q2, .null, .null])), (q0, .inl (c0, 12, .inl (fun _ => 0))), (q1, .inl (c0, 12, .inl (fun _ => 0))), (q2, .inl (c0, 12, .inl (fun _ => 0)))] := hD
  refine lv_aload_n hx hb dX2_init_33 rfl (lv_at hl 0 rfl) ?_
  refine lv_bipush (v := 12) hx hb dX2_init_34 (by decide) ?_
  refine va_newa (atype := .int) (ty := .int) (a0 := (12, .inl (fun _ => 0))) (N' := 12) hx hb (hts (.arrayClass .int) (by decide +kernel)) rfl hK hP hD hS hA (fun _ => rfl) (by decide) (by decide) (Nat.le_of_ble_eq_true rfl) (Nat.le_of_ble_eq_true rfl) (Nat.le_of_ble_eq_true rfl) dX2_init_36 (fun q3 c3 H hK hP hD hS => ?_)
  have ec : c0 = c3 := zcls hK 3 0 rfl rfl
  subst ec
  have hP : va_P (dC, dI) vwCl [(nw, .inr (2, [.int 0, .int 0, .ref q0, .ref q1, .ref q2, .null, .null])), (q0, .inl (c0, 12, .inl (fun _ => 0))), (q1, .inl (c0, 12, .inl (fun _ => 0))), (q2, .inl (c0, 12, .inl (fun _ => 0))), (q3, .inl (c0, 12, .inl (fun _ => 0)))] H := hP
  have hD : va_D A [(nw, .inr (2, [.int 0, .int 0, .ref q0, .ref q1, .ref q2, .null, .null])), (q0, .inl (c0, 12, .inl (fun _ => 0))), (q1, .inl (c0, 12, .inl (fun _ => 0))), (q2, .inl (c0, 12, .inl (fun _ => 0))), (q3, .inl (c0, 12, .inl (fun _ => 0)))] := hD
  have hK : va_K (dC, dI) vwCl [(c0, .int), (c0, .int), (c0, .int), (c0, .int)] s := hK
  refine va_putF (D := (dC, dI)) (ci := 2) (v := .ref q3) (ty := .array .int) (C := RX2) (T := TX2) (N := 7) hx hb hts w0 tyX2 tyX2_ok nmX2 hown hK hP hD hS 0 rfl rfl 5 (by decide) (hts (.fieldLink RX2 25 "ConvexConduit$Network" "capacity" "[I") (by decide +kernel)) (fun _ h9 => h9) rfl hin rfl (by decide +kernel) rfl rfl (Nat.le_of_ble_eq_true rfl) dX2_init_38 (fun H locs hP hD hS => ?_)
  have hP : va_P (dC, dI) vwCl [(nw, .inr (2, [.int 0, .int 0, .ref q0, .ref q1, .ref q2, .ref q3, .null])), (q0, .inl (c0, 12, .inl (fun _ => 0))), (q1, .inl (c0, 12, .inl (fun _ => 0))), (q2, .inl (c0, 12, .inl (fun _ => 0))), (q3, .inl (c0, 12, .inl (fun _ => 0)))] H := hP
  have hD : va_D A [(nw, .inr (2, [.int 0, .int 0, .ref q0, .ref q1, .ref q2, .ref q3, .null])), (q0, .inl (c0, 12, .inl (fun _ => 0))), (q1, .inl (c0, 12, .inl (fun _ => 0))), (q2, .inl (c0, 12, .inl (fun _ => 0))), (q3, .inl (c0, 12, .inl (fun _ => 0)))] := hD
  refine lv_aload_n hx hb dX2_init_41 rfl (lv_at hl 0 rfl) ?_
  refine lv_sipush (v := 180) hx hb dX2_init_42 (by decide) ?_
  refine va_newa (atype := .int) (ty := .int) (a0 := (180, .inl (fun _ => 0))) (N' := 180) hx hb (hts (.arrayClass .int) (by decide +kernel)) rfl hK hP hD hS hA (fun _ => rfl) (by decide) (by decide) (Nat.le_of_ble_eq_true rfl) (Nat.le_of_ble_eq_true rfl) (Nat.le_of_ble_eq_true rfl) dX2_init_45 (fun q4 c4 H hK hP hD hS => ?_)
  have ec : c0 = c4 := zcls hK 4 0 rfl rfl
  subst ec
  have hP : va_P (dC, dI) vwCl [(nw, .inr (2, [.int 0, .int 0, .ref q0, .ref q1, .ref q2, .ref q3, .null])), (q0, .inl (c0, 12, .inl (fun _ => 0))), (q1, .inl (c0, 12, .inl (fun _ => 0))), (q2, .inl (c0, 12, .inl (fun _ => 0))), (q3, .inl (c0, 12, .inl (fun _ => 0))), (q4, .inl (c0, 180, .inl (fun _ => 0)))] H := hP
  have hD : va_D A [(nw, .inr (2, [.int 0, .int 0, .ref q0, .ref q1, .ref q2, .ref q3, .null])), (q0, .inl (c0, 12, .inl (fun _ => 0))), (q1, .inl (c0, 12, .inl (fun _ => 0))), (q2, .inl (c0, 12, .inl (fun _ => 0))), (q3, .inl (c0, 12, .inl (fun _ => 0))), (q4, .inl (c0, 180, .inl (fun _ => 0)))] := hD
  have hK : va_K (dC, dI) vwCl [(c0, .int), (c0, .int), (c0, .int), (c0, .int), (c0, .int)] s := hK
  refine va_putF (D := (dC, dI)) (ci := 2) (v := .ref q4) (ty := .array .int) (C := RX2) (T := TX2) (N := 7) hx hb hts w0 tyX2 tyX2_ok nmX2 hown hK hP hD hS 0 rfl rfl 6 (by decide) (hts (.fieldLink RX2 28 "ConvexConduit$Network" "prices" "[I") (by decide +kernel)) (fun _ h9 => h9) rfl hin rfl (by decide +kernel) rfl rfl (Nat.le_of_ble_eq_true rfl) dX2_init_47 (fun H locs hP hD hS => ?_)
  have hP : va_P (dC, dI) vwCl [(nw, .inr (2, [.int 0, .int 0, .ref q0, .ref q1, .ref q2, .ref q3, .ref q4])), (q0, .inl (c0, 12, .inl (fun _ => 0))), (q1, .inl (c0, 12, .inl (fun _ => 0))), (q2, .inl (c0, 12, .inl (fun _ => 0))), (q3, .inl (c0, 12, .inl (fun _ => 0))), (q4, .inl (c0, 180, .inl (fun _ => 0)))] H := hP
  have hD : va_D A [(nw, .inr (2, [.int 0, .int 0, .ref q0, .ref q1, .ref q2, .ref q3, .ref q4])), (q0, .inl (c0, 12, .inl (fun _ => 0))), (q1, .inl (c0, 12, .inl (fun _ => 0))), (q2, .inl (c0, 12, .inl (fun _ => 0))), (q3, .inl (c0, 12, .inl (fun _ => 0))), (q4, .inl (c0, 180, .inl (fun _ => 0)))] := hD
  refine lv_aload_n hx hb dX2_init_50 rfl (lv_at hl 0 rfl) ?_
  refine lv_iload_n hx hb dX2_init_51 rfl (lv_at hl 1 rfl) ?_
  refine va_putF (D := (dC, dI)) (ci := 2) (v := .int p0) (ty := .int) (C := RX2) (T := TX2) (N := 7) hx hb hts w0 tyX2 tyX2_ok nmX2 hown hK hP hD hS 0 rfl rfl 0 (by decide) (hts (.fieldLink RX2 31 "ConvexConduit$Network" "nodes" "I") (by decide +kernel)) (fun _ h9 => h9) rfl hin rfl (by decide +kernel) rfl rfl (Nat.le_of_ble_eq_true rfl) dX2_init_52 (fun H locs hP hD hS => ?_)
  have hP : va_P (dC, dI) vwCl [(nw, .inr (2, [.int p0, .int 0, .ref q0, .ref q1, .ref q2, .ref q3, .ref q4])), (q0, .inl (c0, 12, .inl (fun _ => 0))), (q1, .inl (c0, 12, .inl (fun _ => 0))), (q2, .inl (c0, 12, .inl (fun _ => 0))), (q3, .inl (c0, 12, .inl (fun _ => 0))), (q4, .inl (c0, 180, .inl (fun _ => 0)))] H := hP
  have hD : va_D A [(nw, .inr (2, [.int p0, .int 0, .ref q0, .ref q1, .ref q2, .ref q3, .ref q4])), (q0, .inl (c0, 12, .inl (fun _ => 0))), (q1, .inl (c0, 12, .inl (fun _ => 0))), (q2, .inl (c0, 12, .inl (fun _ => 0))), (q3, .inl (c0, 12, .inl (fun _ => 0))), (q4, .inl (c0, 180, .inl (fun _ => 0)))] := hD
  exact q_cret ⟨q0, q1, q2, q3, q4, c0⟩ hQ hx hb hr hlocks (hP.sub [0, 1, 2, 3, 4, 5] rfl) (hK.sub [0] rfl) (hD.sub [0, 1, 2, 3, 4, 5] rfl rfl) hS dX2_init_55
abbrev zwX0 (cf nw : Nat) : (Nat × Nat × Nat × Nat × Nat × ClassId) → va_W := (fun (u : (Nat × Nat × Nat × Nat × Nat × ClassId)) => [(cf, .inr (0, [.ref nw, .ref u.1, .ref u.2.1, .ref u.2.2.1, .ref u.2.2.2.1, .ref u.2.2.2.2.1])), (u.1, .inl (u.2.2.2.2.2, 12, .inl (fun _ => 0))), (u.2.1, .inl (u.2.2.2.2.2, 12, .inl (fun _ => 0))), (u.2.2.1, .inl (u.2.2.2.2.2, 12, .inl (fun _ => 0))), (u.2.2.2.1, .inl (u.2.2.2.2.2, 8, .inl (fun _ => 0))), (u.2.2.2.2.1, .inl (u.2.2.2.2.2, 8, .inl (fun _ => 0)))])
abbrev ztX0 : (Nat × Nat × Nat × Nat × Nat × ClassId) → List (ClassId × FieldType) := (fun (u : (Nat × Nat × Nat × Nat × Nat × ClassId)) => [(u.2.2.2.2.2, .int)])
set_option maxHeartbeats 4000000 in
set_option maxRecDepth 100000 in
theorem c_X0_init (l : Launch) (dC : Nat → ClassId) (dI : Nat → Nat → Nat) (cf nw : Nat) (sz : Nat) : Met l yX0_init wsX0_init { frames := 1, cells := 5, slots := 52, locals := 12 } (va_Pc [.ref cf, .ref nw] (zPre (dC, dI) [(cf, .inr (0, [.null, .null, .null, .null, .null, .null]))] [] sz)) (zQc (dC, dI) (zwX0 cf nw) ztX0 (va_A [(cf, .inr (0, [.null, .null, .null, .null, .null, .null]))] sz)) 5 52 (va_A [(cf, .inr (0, [.null, .null, .null, .null, .null, .null]))] sz) := by
  refine q_ofWc (cc := cX0_init) (maxL := 2) (by decide) rfl rfl (Nat.le_of_ble_eq_true rfl) ?_
  intro p e s m args below meth c ls A Q H locs hQ hx hb hr hts hown hlocks hml hin hA hK hP hD hS hl
  have hl : lv_has ls 2 [(0, .ref cf), (1, .ref nw)] := hl
  have w0 : ∀ w ∈ u_ws RX0 TX0 6, w ∈ wsX0_init := by decide +kernel
  refine lv_aload_n hx hb dX0_init_0 rfl (lv_at hl 0 rfl) ?_
  refine W.objInit hx hb hown (hts (.methodLink RX0 3 objectInit) (by decide +kernel)) (hts (.instanceMethod objectInit) (by decide +kernel)) (hts (.code objectInit ⟨#[0xb1]⟩ 1 none) (by decide +kernel)) rfl (by rw [hml]; exact hl.1) rfl dX0_init_1 (Nat.le_of_ble_eq_true rfl) (Nat.le_of_ble_eq_true rfl) ?_
  refine W.eq (g2 := F0 m 4 ls []) rfl ?_
  refine lv_aload_n hx hb dX0_init_4 rfl (lv_at hl 0 rfl) ?_
  refine lv_bipush (v := 12) hx hb dX0_init_5 (by decide) ?_
  refine va_newa (atype := .int) (ty := .int) (a0 := (12, .inl (fun _ => 0))) (N' := 12) hx hb (hts (.arrayClass .int) (by decide +kernel)) rfl hK hP hD hS hA (fun _ => rfl) (by decide) (by decide) (Nat.le_of_ble_eq_true rfl) (Nat.le_of_ble_eq_true rfl) (Nat.le_of_ble_eq_true rfl) dX0_init_7 (fun q0 c0 H hK hP hD hS => ?_)
  have hP : va_P (dC, dI) vwCl [(cf, .inr (0, [.null, .null, .null, .null, .null, .null])), (q0, .inl (c0, 12, .inl (fun _ => 0)))] H := hP
  have hD : va_D A [(cf, .inr (0, [.null, .null, .null, .null, .null, .null])), (q0, .inl (c0, 12, .inl (fun _ => 0)))] := hD
  have hK : va_K (dC, dI) vwCl [(c0, .int)] s := hK
  refine va_putF (D := (dC, dI)) (ci := 0) (v := .ref q0) (ty := .array .int) (C := RX0) (T := TX0) (N := 6) hx hb hts w0 tyX0 tyX0_ok nmX0 hown hK hP hD hS 0 rfl rfl 1 (by decide) (hts (.fieldLink RX0 9 "ConvexConduit$CheapestFlow" "on" "[I") (by decide +kernel)) (fun _ h9 => h9) rfl hin rfl (by decide +kernel) rfl rfl (Nat.le_of_ble_eq_true rfl) dX0_init_9 (fun H locs hP hD hS => ?_)
  have hP : va_P (dC, dI) vwCl [(cf, .inr (0, [.null, .ref q0, .null, .null, .null, .null])), (q0, .inl (c0, 12, .inl (fun _ => 0)))] H := hP
  have hD : va_D A [(cf, .inr (0, [.null, .ref q0, .null, .null, .null, .null])), (q0, .inl (c0, 12, .inl (fun _ => 0)))] := hD
  refine lv_aload_n hx hb dX0_init_12 rfl (lv_at hl 0 rfl) ?_
  refine lv_bipush (v := 12) hx hb dX0_init_13 (by decide) ?_
  refine va_newa (atype := .int) (ty := .int) (a0 := (12, .inl (fun _ => 0))) (N' := 12) hx hb (hts (.arrayClass .int) (by decide +kernel)) rfl hK hP hD hS hA (fun _ => rfl) (by decide) (by decide) (Nat.le_of_ble_eq_true rfl) (Nat.le_of_ble_eq_true rfl) (Nat.le_of_ble_eq_true rfl) dX0_init_15 (fun q1 c1 H hK hP hD hS => ?_)
  have ec : c0 = c1 := zcls hK 1 0 rfl rfl
  subst ec
  have hP : va_P (dC, dI) vwCl [(cf, .inr (0, [.null, .ref q0, .null, .null, .null, .null])), (q0, .inl (c0, 12, .inl (fun _ => 0))), (q1, .inl (c0, 12, .inl (fun _ => 0)))] H := hP
  have hD : va_D A [(cf, .inr (0, [.null, .ref q0, .null, .null, .null, .null])), (q0, .inl (c0, 12, .inl (fun _ => 0))), (q1, .inl (c0, 12, .inl (fun _ => 0)))] := hD
  have hK : va_K (dC, dI) vwCl [(c0, .int), (c0, .int)] s := hK
  refine va_putF (D := (dC, dI)) (ci := 0) (v := .ref q1) (ty := .array .int) (C := RX0) (T := TX0) (N := 6) hx hb hts w0 tyX0 tyX0_ok nmX0 hown hK hP hD hS 0 rfl rfl 2 (by decide) (hts (.fieldLink RX0 15 "ConvexConduit$CheapestFlow" "low" "[I") (by decide +kernel)) (fun _ h9 => h9) rfl hin rfl (by decide +kernel) rfl rfl (Nat.le_of_ble_eq_true rfl) dX0_init_17 (fun H locs hP hD hS => ?_)
  have hP : va_P (dC, dI) vwCl [(cf, .inr (0, [.null, .ref q0, .ref q1, .null, .null, .null])), (q0, .inl (c0, 12, .inl (fun _ => 0))), (q1, .inl (c0, 12, .inl (fun _ => 0)))] H := hP
  have hD : va_D A [(cf, .inr (0, [.null, .ref q0, .ref q1, .null, .null, .null])), (q0, .inl (c0, 12, .inl (fun _ => 0))), (q1, .inl (c0, 12, .inl (fun _ => 0)))] := hD
  refine lv_aload_n hx hb dX0_init_20 rfl (lv_at hl 0 rfl) ?_
  refine lv_bipush (v := 12) hx hb dX0_init_21 (by decide) ?_
  refine va_newa (atype := .int) (ty := .int) (a0 := (12, .inl (fun _ => 0))) (N' := 12) hx hb (hts (.arrayClass .int) (by decide +kernel)) rfl hK hP hD hS hA (fun _ => rfl) (by decide) (by decide) (Nat.le_of_ble_eq_true rfl) (Nat.le_of_ble_eq_true rfl) (Nat.le_of_ble_eq_true rfl) dX0_init_23 (fun q2 c2 H hK hP hD hS => ?_)
  have ec : c0 = c2 := zcls hK 2 0 rfl rfl
  subst ec
  have hP : va_P (dC, dI) vwCl [(cf, .inr (0, [.null, .ref q0, .ref q1, .null, .null, .null])), (q0, .inl (c0, 12, .inl (fun _ => 0))), (q1, .inl (c0, 12, .inl (fun _ => 0))), (q2, .inl (c0, 12, .inl (fun _ => 0)))] H := hP
  have hD : va_D A [(cf, .inr (0, [.null, .ref q0, .ref q1, .null, .null, .null])), (q0, .inl (c0, 12, .inl (fun _ => 0))), (q1, .inl (c0, 12, .inl (fun _ => 0))), (q2, .inl (c0, 12, .inl (fun _ => 0)))] := hD
  have hK : va_K (dC, dI) vwCl [(c0, .int), (c0, .int), (c0, .int)] s := hK
  refine va_putF (D := (dC, dI)) (ci := 0) (v := .ref q2) (ty := .array .int) (C := RX0) (T := TX0) (N := 6) hx hb hts w0 tyX0 tyX0_ok nmX0 hown hK hP hD hS 0 rfl rfl 3 (by decide) (hts (.fieldLink RX0 18 "ConvexConduit$CheapestFlow" "high" "[I") (by decide +kernel)) (fun _ h9 => h9) rfl hin rfl (by decide +kernel) rfl rfl (Nat.le_of_ble_eq_true rfl) dX0_init_25 (fun H locs hP hD hS => ?_)
  have hP : va_P (dC, dI) vwCl [(cf, .inr (0, [.null, .ref q0, .ref q1, .ref q2, .null, .null])), (q0, .inl (c0, 12, .inl (fun _ => 0))), (q1, .inl (c0, 12, .inl (fun _ => 0))), (q2, .inl (c0, 12, .inl (fun _ => 0)))] H := hP
  have hD : va_D A [(cf, .inr (0, [.null, .ref q0, .ref q1, .ref q2, .null, .null])), (q0, .inl (c0, 12, .inl (fun _ => 0))), (q1, .inl (c0, 12, .inl (fun _ => 0))), (q2, .inl (c0, 12, .inl (fun _ => 0)))] := hD
  refine lv_aload_n hx hb dX0_init_28 rfl (lv_at hl 0 rfl) ?_
  refine lv_bipush (v := 8) hx hb dX0_init_29 (by decide) ?_
  refine va_newa (atype := .int) (ty := .int) (a0 := (8, .inl (fun _ => 0))) (N' := 8) hx hb (hts (.arrayClass .int) (by decide +kernel)) rfl hK hP hD hS hA (fun _ => rfl) (by decide) (by decide) (Nat.le_of_ble_eq_true rfl) (Nat.le_of_ble_eq_true rfl) (Nat.le_of_ble_eq_true rfl) dX0_init_31 (fun q3 c3 H hK hP hD hS => ?_)
  have ec : c0 = c3 := zcls hK 3 0 rfl rfl
  subst ec
  have hP : va_P (dC, dI) vwCl [(cf, .inr (0, [.null, .ref q0, .ref q1, .ref q2, .null, .null])), (q0, .inl (c0, 12, .inl (fun _ => 0))), (q1, .inl (c0, 12, .inl (fun _ => 0))), (q2, .inl (c0, 12, .inl (fun _ => 0))), (q3, .inl (c0, 8, .inl (fun _ => 0)))] H := hP
  have hD : va_D A [(cf, .inr (0, [.null, .ref q0, .ref q1, .ref q2, .null, .null])), (q0, .inl (c0, 12, .inl (fun _ => 0))), (q1, .inl (c0, 12, .inl (fun _ => 0))), (q2, .inl (c0, 12, .inl (fun _ => 0))), (q3, .inl (c0, 8, .inl (fun _ => 0)))] := hD
  have hK : va_K (dC, dI) vwCl [(c0, .int), (c0, .int), (c0, .int), (c0, .int)] s := hK
  refine va_putF (D := (dC, dI)) (ci := 0) (v := .ref q3) (ty := .array .int) (C := RX0) (T := TX0) (N := 6) hx hb hts w0 tyX0 tyX0_ok nmX0 hown hK hP hD hS 0 rfl rfl 4 (by decide) (hts (.fieldLink RX0 21 "ConvexConduit$CheapestFlow" "distance" "[I") (by decide +kernel)) (fun _ h9 => h9) rfl hin rfl (by decide +kernel) rfl rfl (Nat.le_of_ble_eq_true rfl) dX0_init_33 (fun H locs hP hD hS => ?_)
  have hP : va_P (dC, dI) vwCl [(cf, .inr (0, [.null, .ref q0, .ref q1, .ref q2, .ref q3, .null])), (q0, .inl (c0, 12, .inl (fun _ => 0))), (q1, .inl (c0, 12, .inl (fun _ => 0))), (q2, .inl (c0, 12, .inl (fun _ => 0))), (q3, .inl (c0, 8, .inl (fun _ => 0)))] H := hP
  have hD : va_D A [(cf, .inr (0, [.null, .ref q0, .ref q1, .ref q2, .ref q3, .null])), (q0, .inl (c0, 12, .inl (fun _ => 0))), (q1, .inl (c0, 12, .inl (fun _ => 0))), (q2, .inl (c0, 12, .inl (fun _ => 0))), (q3, .inl (c0, 8, .inl (fun _ => 0)))] := hD
  refine lv_aload_n hx hb dX0_init_36 rfl (lv_at hl 0 rfl) ?_
  refine lv_bipush (v := 8) hx hb dX0_init_37 (by decide) ?_
  refine va_newa (atype := .int) (ty := .int) (a0 := (8, .inl (fun _ => 0))) (N' := 8) hx hb (hts (.arrayClass .int) (by decide +kernel)) rfl hK hP hD hS hA (fun _ => rfl) (by decide) (by decide) (Nat.le_of_ble_eq_true rfl) (Nat.le_of_ble_eq_true rfl) (Nat.le_of_ble_eq_true rfl) dX0_init_39 (fun q4 c4 H hK hP hD hS => ?_)
  have ec : c0 = c4 := zcls hK 4 0 rfl rfl
  subst ec
  have hP : va_P (dC, dI) vwCl [(cf, .inr (0, [.null, .ref q0, .ref q1, .ref q2, .ref q3, .null])), (q0, .inl (c0, 12, .inl (fun _ => 0))), (q1, .inl (c0, 12, .inl (fun _ => 0))), (q2, .inl (c0, 12, .inl (fun _ => 0))), (q3, .inl (c0, 8, .inl (fun _ => 0))), (q4, .inl (c0, 8, .inl (fun _ => 0)))] H := hP
  have hD : va_D A [(cf, .inr (0, [.null, .ref q0, .ref q1, .ref q2, .ref q3, .null])), (q0, .inl (c0, 12, .inl (fun _ => 0))), (q1, .inl (c0, 12, .inl (fun _ => 0))), (q2, .inl (c0, 12, .inl (fun _ => 0))), (q3, .inl (c0, 8, .inl (fun _ => 0))), (q4, .inl (c0, 8, .inl (fun _ => 0)))] := hD
  have hK : va_K (dC, dI) vwCl [(c0, .int), (c0, .int), (c0, .int), (c0, .int), (c0, .int)] s := hK
  refine va_putF (D := (dC, dI)) (ci := 0) (v := .ref q4) (ty := .array .int) (C := RX0) (T := TX0) (N := 6) hx hb hts w0 tyX0 tyX0_ok nmX0 hown hK hP hD hS 0 rfl rfl 5 (by decide) (hts (.fieldLink RX0 24 "ConvexConduit$CheapestFlow" "cameBy" "[I") (by decide +kernel)) (fun _ h9 => h9) rfl hin rfl (by decide +kernel) rfl rfl (Nat.le_of_ble_eq_true rfl) dX0_init_41 (fun H locs hP hD hS => ?_)
  have hP : va_P (dC, dI) vwCl [(cf, .inr (0, [.null, .ref q0, .ref q1, .ref q2, .ref q3, .ref q4])), (q0, .inl (c0, 12, .inl (fun _ => 0))), (q1, .inl (c0, 12, .inl (fun _ => 0))), (q2, .inl (c0, 12, .inl (fun _ => 0))), (q3, .inl (c0, 8, .inl (fun _ => 0))), (q4, .inl (c0, 8, .inl (fun _ => 0)))] H := hP
  have hD : va_D A [(cf, .inr (0, [.null, .ref q0, .ref q1, .ref q2, .ref q3, .ref q4])), (q0, .inl (c0, 12, .inl (fun _ => 0))), (q1, .inl (c0, 12, .inl (fun _ => 0))), (q2, .inl (c0, 12, .inl (fun _ => 0))), (q3, .inl (c0, 8, .inl (fun _ => 0))), (q4, .inl (c0, 8, .inl (fun _ => 0)))] := hD
  refine lv_aload_n hx hb dX0_init_44 rfl (lv_at hl 0 rfl) ?_
  refine lv_aload_n hx hb dX0_init_45 rfl (lv_at hl 1 rfl) ?_
  refine va_putF (D := (dC, dI)) (ci := 0) (v := .ref nw) (ty := .object "ConvexConduit$Network") (C := RX0) (T := TX0) (N := 6) hx hb hts w0 tyX0 tyX0_ok nmX0 hown hK hP hD hS 0 rfl rfl 0 (by decide) (hts (.fieldLink RX0 27 "ConvexConduit$CheapestFlow" "network" "LConvexConduit$Network;") (by decide +kernel)) (fun _ h9 => h9) rfl hin rfl (by decide +kernel) rfl rfl (Nat.le_of_ble_eq_true rfl) dX0_init_46 (fun H locs hP hD hS => ?_)
  have hP : va_P (dC, dI) vwCl [(cf, .inr (0, [.ref nw, .ref q0, .ref q1, .ref q2, .ref q3, .ref q4])), (q0, .inl (c0, 12, .inl (fun _ => 0))), (q1, .inl (c0, 12, .inl (fun _ => 0))), (q2, .inl (c0, 12, .inl (fun _ => 0))), (q3, .inl (c0, 8, .inl (fun _ => 0))), (q4, .inl (c0, 8, .inl (fun _ => 0)))] H := hP
  have hD : va_D A [(cf, .inr (0, [.ref nw, .ref q0, .ref q1, .ref q2, .ref q3, .ref q4])), (q0, .inl (c0, 12, .inl (fun _ => 0))), (q1, .inl (c0, 12, .inl (fun _ => 0))), (q2, .inl (c0, 12, .inl (fun _ => 0))), (q3, .inl (c0, 8, .inl (fun _ => 0))), (q4, .inl (c0, 8, .inl (fun _ => 0)))] := hD
  exact q_cret ⟨q0, q1, q2, q3, q4, c0⟩ hQ hx hb hr hlocks (hP.sub [0, 1, 2, 3, 4, 5] rfl) (hK.sub [0] rfl) (hD.sub [0, 1, 2, 3, 4, 5] rfl rfl) hS dX0_init_49
abbrev zwX1 (dr nw : Nat) : (Nat × Nat × ClassId) → va_W := (fun (u : (Nat × Nat × ClassId)) => [(dr, .inr (1, [.ref nw, .ref u.1, .ref u.2.1, .int 0, .int 0, .int (-1)])), (u.1, .inl (u.2.2, 12, .inl (fun _ => 0))), (u.2.1, .inl (u.2.2, 8, .inl (fun _ => 0)))])
abbrev ztX1 : (Nat × Nat × ClassId) → List (ClassId × FieldType) := (fun (u : (Nat × Nat × ClassId)) => [(u.2.2, .int)])
set_option maxHeartbeats 4000000 in
set_option maxRecDepth 100000 in
theorem c_X1_init (l : Launch) (dC : Nat → ClassId) (dI : Nat → Nat → Nat) (dr nw : Nat) (sz : Nat) : Met l yX1_init wsX1_init { frames := 1, cells := 2, slots := 20, locals := 12 } (va_Pc [.ref dr, .ref nw] (zPre (dC, dI) [(dr, .inr (1, [.null, .null, .null, .int 0, .int 0, .int 0]))] [] sz)) (zQc (dC, dI) (zwX1 dr nw) ztX1 (va_A [(dr, .inr (1, [.null, .null, .null, .int 0, .int 0, .int 0]))] sz)) 2 20 (va_A [(dr, .inr (1, [.null, .null, .null, .int 0, .int 0, .int 0]))] sz) := by
  refine q_ofWc (cc := cX1_init) (maxL := 2) (by decide) rfl rfl (Nat.le_of_ble_eq_true rfl) ?_
  intro p e s m args below meth c ls A Q H locs hQ hx hb hr hts hown hlocks hml hin hA hK hP hD hS hl
  have hl : lv_has ls 2 [(0, .ref dr), (1, .ref nw)] := hl
  have w0 : ∀ w ∈ u_ws RX1 TX1 6, w ∈ wsX1_init := by decide +kernel
  refine lv_aload_n hx hb dX1_init_0 rfl (lv_at hl 0 rfl) ?_
  refine W.objInit hx hb hown (hts (.methodLink RX1 3 objectInit) (by decide +kernel)) (hts (.instanceMethod objectInit) (by decide +kernel)) (hts (.code objectInit ⟨#[0xb1]⟩ 1 none) (by decide +kernel)) rfl (by rw [hml]; exact hl.1) rfl dX1_init_1 (Nat.le_of_ble_eq_true rfl) (Nat.le_of_ble_eq_true rfl) ?_
  refine W.eq (g2 := F0 m 4 ls []) rfl ?_
  refine lv_aload_n hx hb dX1_init_4 rfl (lv_at hl 0 rfl) ?_
  refine lv_bipush (v := 12) hx hb dX1_init_5 (by decide) ?_
  refine va_newa (atype := .int) (ty := .int) (a0 := (12, .inl (fun _ => 0))) (N' := 12) hx hb (hts (.arrayClass .int) (by decide +kernel)) rfl hK hP hD hS hA (fun _ => rfl) (by decide) (by decide) (Nat.le_of_ble_eq_true rfl) (Nat.le_of_ble_eq_true rfl) (Nat.le_of_ble_eq_true rfl) dX1_init_7 (fun q0 c0 H hK hP hD hS => ?_)
  have hP : va_P (dC, dI) vwCl [(dr, .inr (1, [.null, .null, .null, .int 0, .int 0, .int 0])), (q0, .inl (c0, 12, .inl (fun _ => 0)))] H := hP
  have hD : va_D A [(dr, .inr (1, [.null, .null, .null, .int 0, .int 0, .int 0])), (q0, .inl (c0, 12, .inl (fun _ => 0)))] := hD
  have hK : va_K (dC, dI) vwCl [(c0, .int)] s := hK
  refine va_putF (D := (dC, dI)) (ci := 1) (v := .ref q0) (ty := .array .int) (C := RX1) (T := TX1) (N := 6) hx hb hts w0 tyX1 tyX1_ok nmX1 hown hK hP hD hS 0 rfl rfl 1 (by decide) (hts (.fieldLink RX1 9 "ConvexConduit$Drivers" "taken" "[I") (by decide +kernel)) (fun _ h9 => h9) rfl hin rfl (by decide +kernel) rfl rfl (Nat.le_of_ble_eq_true rfl) dX1_init_9 (fun H locs hP hD hS => ?_)
  have hP : va_P (dC, dI) vwCl [(dr, .inr (1, [.null, .ref q0, .null, .int 0, .int 0, .int 0])), (q0, .inl (c0, 12, .inl (fun _ => 0)))] H := hP
  have hD : va_D A [(dr, .inr (1, [.null, .ref q0, .null, .int 0, .int 0, .int 0])), (q0, .inl (c0, 12, .inl (fun _ => 0)))] := hD
  refine lv_aload_n hx hb dX1_init_12 rfl (lv_at hl 0 rfl) ?_
  refine lv_bipush (v := 8) hx hb dX1_init_13 (by decide) ?_
  refine va_newa (atype := .int) (ty := .int) (a0 := (8, .inl (fun _ => 0))) (N' := 8) hx hb (hts (.arrayClass .int) (by decide +kernel)) rfl hK hP hD hS hA (fun _ => rfl) (by decide) (by decide) (Nat.le_of_ble_eq_true rfl) (Nat.le_of_ble_eq_true rfl) (Nat.le_of_ble_eq_true rfl) dX1_init_15 (fun q1 c1 H hK hP hD hS => ?_)
  have ec : c0 = c1 := zcls hK 1 0 rfl rfl
  subst ec
  have hP : va_P (dC, dI) vwCl [(dr, .inr (1, [.null, .ref q0, .null, .int 0, .int 0, .int 0])), (q0, .inl (c0, 12, .inl (fun _ => 0))), (q1, .inl (c0, 8, .inl (fun _ => 0)))] H := hP
  have hD : va_D A [(dr, .inr (1, [.null, .ref q0, .null, .int 0, .int 0, .int 0])), (q0, .inl (c0, 12, .inl (fun _ => 0))), (q1, .inl (c0, 8, .inl (fun _ => 0)))] := hD
  have hK : va_K (dC, dI) vwCl [(c0, .int), (c0, .int)] s := hK
  refine va_putF (D := (dC, dI)) (ci := 1) (v := .ref q1) (ty := .array .int) (C := RX1) (T := TX1) (N := 6) hx hb hts w0 tyX1 tyX1_ok nmX1 hown hK hP hD hS 0 rfl rfl 2 (by decide) (hts (.fieldLink RX1 15 "ConvexConduit$Drivers" "weightToTarget" "[I") (by decide +kernel)) (fun _ h9 => h9) rfl hin rfl (by decide +kernel) rfl rfl (Nat.le_of_ble_eq_true rfl) dX1_init_17 (fun H locs hP hD hS => ?_)
  have hP : va_P (dC, dI) vwCl [(dr, .inr (1, [.null, .ref q0, .ref q1, .int 0, .int 0, .int 0])), (q0, .inl (c0, 12, .inl (fun _ => 0))), (q1, .inl (c0, 8, .inl (fun _ => 0)))] H := hP
  have hD : va_D A [(dr, .inr (1, [.null, .ref q0, .ref q1, .int 0, .int 0, .int 0])), (q0, .inl (c0, 12, .inl (fun _ => 0))), (q1, .inl (c0, 8, .inl (fun _ => 0)))] := hD
  refine lv_aload_n hx hb dX1_init_20 rfl (lv_at hl 0 rfl) ?_
  refine lv_iconst (v := 0) hx hb dX1_init_21 (by decide) ?_
  refine va_put (D := (dC, dI)) (ci := 1) (v := .int 0) (ty := .int) (C := RX1) (T := TX1) (N := 6) hx hb hts w0 tyX1 tyX1_ok nmX1 hown hK hP hD hS 0 rfl rfl 3 (by decide) (hts (.fieldLink RX1 18 "ConvexConduit$Drivers" "found" "I") (by decide +kernel)) (fun _ h9 => h9) rfl (by decide +kernel) rfl rfl (Nat.le_of_ble_eq_true rfl) dX1_init_22 (fun H locs hP hD hS => ?_)
  have hP : va_P (dC, dI) vwCl [(dr, .inr (1, [.null, .ref q0, .ref q1, .int 0, .int 0, .int 0])), (q0, .inl (c0, 12, .inl (fun _ => 0))), (q1, .inl (c0, 8, .inl (fun _ => 0)))] H := hP
  have hD : va_D A [(dr, .inr (1, [.null, .ref q0, .ref q1, .int 0, .int 0, .int 0])), (q0, .inl (c0, 12, .inl (fun _ => 0))), (q1, .inl (c0, 8, .inl (fun _ => 0)))] := hD
  refine lv_aload_n hx hb dX1_init_25 rfl (lv_at hl 0 rfl) ?_
  refine lv_iconst (v := 0) hx hb dX1_init_26 (by decide) ?_
  refine va_put (D := (dC, dI)) (ci := 1) (v := .int 0) (ty := .int) (C := RX1) (T := TX1) (N := 6) hx hb hts w0 tyX1 tyX1_ok nmX1 hown hK hP hD hS 0 rfl rfl 4 (by decide) (hts (.fieldLink RX1 22 "ConvexConduit$Drivers" "paidByAll" "I") (by decide +kernel)) (fun _ h9 => h9) rfl (by decide +kernel) rfl rfl (Nat.le_of_ble_eq_true rfl) dX1_init_27 (fun H locs hP hD hS => ?_)
  have hP : va_P (dC, dI) vwCl [(dr, .inr (1, [.null, .ref q0, .ref q1, .int 0, .int 0, .int 0])), (q0, .inl (c0, 12, .inl (fun _ => 0))), (q1, .inl (c0, 8, .inl (fun _ => 0)))] H := hP
  have hD : va_D A [(dr, .inr (1, [.null, .ref q0, .ref q1, .int 0, .int 0, .int 0])), (q0, .inl (c0, 12, .inl (fun _ => 0))), (q1, .inl (c0, 8, .inl (fun _ => 0)))] := hD
  refine lv_aload_n hx hb dX1_init_30 rfl (lv_at hl 0 rfl) ?_
  refine lv_iconst (v := -1) hx hb dX1_init_31 (by decide) ?_
  refine va_put (D := (dC, dI)) (ci := 1) (v := .int (-1)) (ty := .int) (C := RX1) (T := TX1) (N := 6) hx hb hts w0 tyX1 tyX1_ok nmX1 hown hK hP hD hS 0 rfl rfl 5 (by decide) (hts (.fieldLink RX1 25 "ConvexConduit$Drivers" "paidLast" "I") (by decide +kernel)) (fun _ h9 => h9) rfl (by decide +kernel) rfl rfl (Nat.le_of_ble_eq_true rfl) dX1_init_32 (fun H locs hP hD hS => ?_)
  have hP : va_P (dC, dI) vwCl [(dr, .inr (1, [.null, .ref q0, .ref q1, .int 0, .int 0, .int (-1)])), (q0, .inl (c0, 12, .inl (fun _ => 0))), (q1, .inl (c0, 8, .inl (fun _ => 0)))] H := hP
  have hD : va_D A [(dr, .inr (1, [.null, .ref q0, .ref q1, .int 0, .int 0, .int (-1)])), (q0, .inl (c0, 12, .inl (fun _ => 0))), (q1, .inl (c0, 8, .inl (fun _ => 0)))] := hD
  refine lv_aload_n hx hb dX1_init_35 rfl (lv_at hl 0 rfl) ?_
  refine lv_aload_n hx hb dX1_init_36 rfl (lv_at hl 1 rfl) ?_
  refine va_putF (D := (dC, dI)) (ci := 1) (v := .ref nw) (ty := .object "ConvexConduit$Network") (C := RX1) (T := TX1) (N := 6) hx hb hts w0 tyX1 tyX1_ok nmX1 hown hK hP hD hS 0 rfl rfl 0 (by decide) (hts (.fieldLink RX1 28 "ConvexConduit$Drivers" "network" "LConvexConduit$Network;") (by decide +kernel)) (fun _ h9 => h9) rfl hin rfl (by decide +kernel) rfl rfl (Nat.le_of_ble_eq_true rfl) dX1_init_37 (fun H locs hP hD hS => ?_)
  have hP : va_P (dC, dI) vwCl [(dr, .inr (1, [.ref nw, .ref q0, .ref q1, .int 0, .int 0, .int (-1)])), (q0, .inl (c0, 12, .inl (fun _ => 0))), (q1, .inl (c0, 8, .inl (fun _ => 0)))] H := hP
  have hD : va_D A [(dr, .inr (1, [.ref nw, .ref q0, .ref q1, .int 0, .int 0, .int (-1)])), (q0, .inl (c0, 12, .inl (fun _ => 0))), (q1, .inl (c0, 8, .inl (fun _ => 0)))] := hD
  exact q_cret ⟨q0, q1, c0⟩ hQ hx hb hr hlocks (hP.sub [0, 1, 2] rfl) (hK.sub [0] rfl) (hD.sub [0, 1, 2] rfl rfl) hS dX1_init_40
abbrev zwX3 (uc nw : Nat) : (Nat × Nat × Nat × ClassId × ClassId) → va_W := (fun (u : (Nat × Nat × Nat × ClassId × ClassId)) => [(uc, .inr (3, [.ref nw, .ref u.1, .ref u.2.1, .ref u.2.2.1])), (u.1, .inl (u.2.2.2.2, 180, .inl (fun _ => 0))), (u.2.1, .inl (u.2.2.2.1, 8, .inl (fun _ => 0))), (u.2.2.1, .inl (u.2.2.2.1, 8, .inl (fun _ => 0)))])
abbrev ztX3 : (Nat × Nat × Nat × ClassId × ClassId) → List (ClassId × FieldType) := (fun (u : (Nat × Nat × Nat × ClassId × ClassId)) => [(u.2.2.2.1, .int), (u.2.2.2.2, .boolean)])
set_option maxHeartbeats 4000000 in
set_option maxRecDepth 100000 in
theorem c_X3_init (l : Launch) (dC : Nat → ClassId) (dI : Nat → Nat → Nat) (uc nw : Nat) (sz : Nat) : Met l yX3_init wsX3_init { frames := 1, cells := 3, slots := 196, locals := 12 } (va_Pc [.ref uc, .ref nw] (zPre (dC, dI) [(uc, .inr (3, [.null, .null, .null, .null]))] [] sz)) (zQc (dC, dI) (zwX3 uc nw) ztX3 (va_A [(uc, .inr (3, [.null, .null, .null, .null]))] sz)) 3 196 (va_A [(uc, .inr (3, [.null, .null, .null, .null]))] sz) := by
  refine q_ofWc (cc := cX3_init) (maxL := 2) (by decide) rfl rfl (Nat.le_of_ble_eq_true rfl) ?_
  intro p e s m args below meth c ls A Q H locs hQ hx hb hr hts hown hlocks hml hin hA hK hP hD hS hl
  have hl : lv_has ls 2 [(0, .ref uc), (1, .ref nw)] := hl
  have w0 : ∀ w ∈ u_ws RX3 TX3 4, w ∈ wsX3_init := by decide +kernel
  refine lv_aload_n hx hb dX3_init_0 rfl (lv_at hl 0 rfl) ?_
  refine W.objInit hx hb hown (hts (.methodLink RX3 3 objectInit) (by decide +kernel)) (hts (.instanceMethod objectInit) (by decide +kernel)) (hts (.code objectInit ⟨#[0xb1]⟩ 1 none) (by decide +kernel)) rfl (by rw [hml]; exact hl.1) rfl dX3_init_1 (Nat.le_of_ble_eq_true rfl) (Nat.le_of_ble_eq_true rfl) ?_
  refine W.eq (g2 := F0 m 4 ls []) rfl ?_
  refine lv_aload_n hx hb dX3_init_4 rfl (lv_at hl 0 rfl) ?_
  refine lv_sipush (v := 180) hx hb dX3_init_5 (by decide) ?_
  refine va_newa (atype := .boolean) (ty := .boolean) (a0 := (180, .inl (fun _ => 0))) (N' := 180) hx hb (hts (.arrayClass .boolean) (by decide +kernel)) rfl hK hP hD hS hA (fun _ => rfl) (by decide) (by decide) (Nat.le_of_ble_eq_true rfl) (Nat.le_of_ble_eq_true rfl) (Nat.le_of_ble_eq_true rfl) dX3_init_8 (fun q0 c0 H hK hP hD hS => ?_)
  have hP : va_P (dC, dI) vwCl [(uc, .inr (3, [.null, .null, .null, .null])), (q0, .inl (c0, 180, .inl (fun _ => 0)))] H := hP
  have hD : va_D A [(uc, .inr (3, [.null, .null, .null, .null])), (q0, .inl (c0, 180, .inl (fun _ => 0)))] := hD
  have hK : va_K (dC, dI) vwCl [(c0, .boolean)] s := hK
  refine va_putF (D := (dC, dI)) (ci := 3) (v := .ref q0) (ty := .array .boolean) (C := RX3) (T := TX3) (N := 4) hx hb hts w0 tyX3 tyX3_ok nmX3 hown hK hP hD hS 0 rfl rfl 1 (by decide) (hts (.fieldLink RX3 9 "ConvexConduit$UnitCircles" "taken" "[Z") (by decide +kernel)) (fun _ h9 => h9) rfl hin rfl (by decide +kernel) rfl rfl (Nat.le_of_ble_eq_true rfl) dX3_init_10 (fun H locs hP hD hS => ?_)
  have hP : va_P (dC, dI) vwCl [(uc, .inr (3, [.null, .ref q0, .null, .null])), (q0, .inl (c0, 180, .inl (fun _ => 0)))] H := hP
  have hD : va_D A [(uc, .inr (3, [.null, .ref q0, .null, .null])), (q0, .inl (c0, 180, .inl (fun _ => 0)))] := hD
  refine lv_aload_n hx hb dX3_init_13 rfl (lv_at hl 0 rfl) ?_
  refine lv_bipush (v := 8) hx hb dX3_init_14 (by decide) ?_
  refine va_newa (atype := .int) (ty := .int) (a0 := (8, .inl (fun _ => 0))) (N' := 8) hx hb (hts (.arrayClass .int) (by decide +kernel)) rfl hK hP hD hS hA (fun _ => rfl) (by decide) (by decide) (Nat.le_of_ble_eq_true rfl) (Nat.le_of_ble_eq_true rfl) (Nat.le_of_ble_eq_true rfl) dX3_init_16 (fun q1 c1 H hK hP hD hS => ?_)
  have hP : va_P (dC, dI) vwCl [(uc, .inr (3, [.null, .ref q0, .null, .null])), (q0, .inl (c0, 180, .inl (fun _ => 0))), (q1, .inl (c1, 8, .inl (fun _ => 0)))] H := hP
  have hD : va_D A [(uc, .inr (3, [.null, .ref q0, .null, .null])), (q0, .inl (c0, 180, .inl (fun _ => 0))), (q1, .inl (c1, 8, .inl (fun _ => 0)))] := hD
  have hK : va_K (dC, dI) vwCl [(c0, .boolean), (c1, .int)] s := hK
  refine va_putF (D := (dC, dI)) (ci := 3) (v := .ref q1) (ty := .array .int) (C := RX3) (T := TX3) (N := 4) hx hb hts w0 tyX3 tyX3_ok nmX3 hown hK hP hD hS 0 rfl rfl 2 (by decide) (hts (.fieldLink RX3 15 "ConvexConduit$UnitCircles" "distance" "[I") (by decide +kernel)) (fun _ h9 => h9) rfl hin rfl (by decide +kernel) rfl rfl (Nat.le_of_ble_eq_true rfl) dX3_init_18 (fun H locs hP hD hS => ?_)
  have hP : va_P (dC, dI) vwCl [(uc, .inr (3, [.null, .ref q0, .ref q1, .null])), (q0, .inl (c0, 180, .inl (fun _ => 0))), (q1, .inl (c1, 8, .inl (fun _ => 0)))] H := hP
  have hD : va_D A [(uc, .inr (3, [.null, .ref q0, .ref q1, .null])), (q0, .inl (c0, 180, .inl (fun _ => 0))), (q1, .inl (c1, 8, .inl (fun _ => 0)))] := hD
  refine lv_aload_n hx hb dX3_init_21 rfl (lv_at hl 0 rfl) ?_
  refine lv_bipush (v := 8) hx hb dX3_init_22 (by decide) ?_
  refine va_newa (atype := .int) (ty := .int) (a0 := (8, .inl (fun _ => 0))) (N' := 8) hx hb (hts (.arrayClass .int) (by decide +kernel)) rfl hK hP hD hS hA (fun _ => rfl) (by decide) (by decide) (Nat.le_of_ble_eq_true rfl) (Nat.le_of_ble_eq_true rfl) (Nat.le_of_ble_eq_true rfl) dX3_init_24 (fun q2 c2 H hK hP hD hS => ?_)
  have ec : c1 = c2 := zcls hK 2 1 rfl rfl
  subst ec
  have hP : va_P (dC, dI) vwCl [(uc, .inr (3, [.null, .ref q0, .ref q1, .null])), (q0, .inl (c0, 180, .inl (fun _ => 0))), (q1, .inl (c1, 8, .inl (fun _ => 0))), (q2, .inl (c1, 8, .inl (fun _ => 0)))] H := hP
  have hD : va_D A [(uc, .inr (3, [.null, .ref q0, .ref q1, .null])), (q0, .inl (c0, 180, .inl (fun _ => 0))), (q1, .inl (c1, 8, .inl (fun _ => 0))), (q2, .inl (c1, 8, .inl (fun _ => 0)))] := hD
  have hK : va_K (dC, dI) vwCl [(c0, .boolean), (c1, .int), (c1, .int)] s := hK
  refine va_putF (D := (dC, dI)) (ci := 3) (v := .ref q2) (ty := .array .int) (C := RX3) (T := TX3) (N := 4) hx hb hts w0 tyX3 tyX3_ok nmX3 hown hK hP hD hS 0 rfl rfl 3 (by decide) (hts (.fieldLink RX3 19 "ConvexConduit$UnitCircles" "cameBy" "[I") (by decide +kernel)) (fun _ h9 => h9) rfl hin rfl (by decide +kernel) rfl rfl (Nat.le_of_ble_eq_true rfl) dX3_init_26 (fun H locs hP hD hS => ?_)
  have hP : va_P (dC, dI) vwCl [(uc, .inr (3, [.null, .ref q0, .ref q1, .ref q2])), (q0, .inl (c0, 180, .inl (fun _ => 0))), (q1, .inl (c1, 8, .inl (fun _ => 0))), (q2, .inl (c1, 8, .inl (fun _ => 0)))] H := hP
  have hD : va_D A [(uc, .inr (3, [.null, .ref q0, .ref q1, .ref q2])), (q0, .inl (c0, 180, .inl (fun _ => 0))), (q1, .inl (c1, 8, .inl (fun _ => 0))), (q2, .inl (c1, 8, .inl (fun _ => 0)))] := hD
  refine lv_aload_n hx hb dX3_init_29 rfl (lv_at hl 0 rfl) ?_
  refine lv_aload_n hx hb dX3_init_30 rfl (lv_at hl 1 rfl) ?_
  refine va_putF (D := (dC, dI)) (ci := 3) (v := .ref nw) (ty := .object "ConvexConduit$Network") (C := RX3) (T := TX3) (N := 4) hx hb hts w0 tyX3 tyX3_ok nmX3 hown hK hP hD hS 0 rfl rfl 0 (by decide) (hts (.fieldLink RX3 22 "ConvexConduit$UnitCircles" "network" "LConvexConduit$Network;") (by decide +kernel)) (fun _ h9 => h9) rfl hin rfl (by decide +kernel) rfl rfl (Nat.le_of_ble_eq_true rfl) dX3_init_31 (fun H locs hP hD hS => ?_)
  have hP : va_P (dC, dI) vwCl [(uc, .inr (3, [.ref nw, .ref q0, .ref q1, .ref q2])), (q0, .inl (c0, 180, .inl (fun _ => 0))), (q1, .inl (c1, 8, .inl (fun _ => 0))), (q2, .inl (c1, 8, .inl (fun _ => 0)))] H := hP
  have hD : va_D A [(uc, .inr (3, [.ref nw, .ref q0, .ref q1, .ref q2])), (q0, .inl (c0, 180, .inl (fun _ => 0))), (q1, .inl (c1, 8, .inl (fun _ => 0))), (q2, .inl (c1, 8, .inl (fun _ => 0)))] := hD
  exact q_cret ⟨q0, q1, q2, c1, c0⟩ hQ hx hb hr hlocks (hP.sub [0, 1, 2, 3] rfl) (hK.sub [1, 0] rfl) (hD.sub [0, 1, 2, 3] rfl rfl) hS dX3_init_34
