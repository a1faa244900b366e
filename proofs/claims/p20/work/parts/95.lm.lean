/-! rows of my own: the law's own methods over one object (printed by wip/p20/gen95.py) -/
theorem y_ge {x : Int32} (h : 0 ≤ x) : ¬ x < 0 := by
  rw [Int32.le_iff_toInt_le] at h
  rw [Int32.lt_iff_toInt_lt]
  omega
theorem y_nge {x : Int32} (h : ¬ 0 ≤ x) : x < 0 := by
  rw [Int32.le_iff_toInt_le] at h
  rw [Int32.lt_iff_toInt_lt]
  omega
theorem y_tr {x y z : Int32} (h1 : ¬ y < x) (h2 : ¬ z < y) : x ≤ z := by
  rw [Int32.lt_iff_toInt_lt] at h1 h2
  rw [Int32.le_iff_toInt_le]
  omega
set_option maxHeartbeats 4000000 in
set_option maxRecDepth 100000 in
theorem c_L_low (l : Launch) (dC : Nat → ClassId) (dI : Nat → Nat → Nat) (sz : Nat) (v n r : Int32) (hn : ¬ n = 0) (hr : (v &&& 2147483647) - (v &&& 2147483647) / n * n = r) : Met l yL_low wsL_low { frames := 0, cells := 0, slots := 0, locals := 0 } (va_Pc [.int v, .int n] (zPre (dC, dI) [] [] sz)) (zQi (dC, dI) [] [] r (va_A [] sz)) 0 0 (va_A [] sz) := by
  refine q_ofWi (cc := cL_low) (maxL := 2) (rt := (some .int)) (by decide) rfl (Nat.le_of_ble_eq_true rfl) ?_
  intro p e s m args below meth c ls A Q H locs hQ hx hb hr9 hts hown hlocks hml hA hK hP hD hS hl
  have hl : lv_has ls 2 [(0, .int v), (1, .int n)] := hl
  refine lv_iload_n hx hb dL_low_0 rfl (lv_at hl 0 rfl) ?_
  refine lv_ldc (own := RL) (v := 2147483647) hx hb hown (hts (.constant RL 7 (2147483647)) (by decide +kernel)) dL_low_1 ?_
  refine lv_iand hx hb dL_low_3 ?_
  refine lv_iload_n hx hb dL_low_4 rfl (lv_at hl 1 rfl) ?_
  refine lv_irem hx hb dL_low_5 hn ?_
  rw [hr]
  exact q_iret hQ hx hb hr9 hlocks hP hK hD hS dL_low_6
section LMS
variable {l : Launch} {dC : Nat → ClassId} {dI : Nat → Nat → Nat} {cyI cyZ : ClassId} {a : Nat → Nat} {m : Nat} {F T P C U : Nat → Int}
set_option maxHeartbeats 4000000 in
set_option maxRecDepth 100000 in
theorem l_price (hfl : l.stackTraces = false) {i : Nat} {w : Int32} {u : Int} (hi : i < m) (hw : w = iI u) (hu : u < 1 ∨ C i < u) (h0 : -2147483648 ≤ u) (h9 : u < 2147483648) : LM l (dC, dI) cyI cyZ a yL_price wsL_price { frames := 8, cells := 1, slots := 6, locals := 126 } [.ref (a 0), .int (iI (i : Int)), .int w] (Net m F T P C U) (Net m F T P C U) (fun r k => r = -99999 ∧ k = 1) 1 6 := by
  refine y_ofWH (cc := cL_price) (maxL := 4) (rt := (some .int)) (hh := [(0, 6, 7, 14)]) (by decide) rfl (Nat.le_of_ble_eq_true rfl) ?_
  intro x f p e s mi args below meth c ls A Q H locs hN hQ hx hb hr hts hown hlocks hml hA hK hP hD hS hXc htab hl
  have hl : lv_has ls 4 [(0, .ref (a 0)), (1, .int (iI (i : Int))), (2, .int w)] := hl
  have k1 := hts (.classLink RL 14 (zEx 1)) (by decide +kernel)
  obtain ⟨⟨Wd, Vd, h⟩, e0, e1, e2, e3, e4, f0, f1, f2, f3, f4⟩ := id hN
  have hc1 : pX4_price (x 4) (f 3) (f 4) (iI (i : Int)) w = some (.inl 1) := by
    rw [e4, f3, f4, hw]
    exact price_out h hi hu h0 h9
  have hr0 : pX4_refuseOtherThanArc (x 4) (iI (i : Int)) = some (.inr ()) := by
    rw [e4]
    exact refArc h.2.2.1 hi
  have hS0 := hS
  refine lv_aload_n hx hb dL_price_0 rfl (lv_at hl 0 rfl) ?_
  refine lv_iload_n hx hb dL_price_1 rfl (lv_at hl 1 rfl) ?_
  refine lv_iload_n hx hb dL_price_2 rfl (lv_at hl 2 rfl) ?_
  refine q_callCg (As := [.int (iI (i : Int)), .int w]) ⟨hx, hb, hml, hown, hts⟩ (cx_X4_priceg l hfl dC dI cyI cyZ (a 0) (a 1) (a 2) (a 3) (a 4) (a 5) (a 6) (a 7) (a 8) (a 9) (a 10) (a 11) (a 12) (a 13) (a 14) (a 15) (a 16) (a 17) (a 18) (a 19) H.size (x 0) (x 1) (x 2) (x 3) (x 4) (x 5) (x 6) (x 7) (f 0) (f 1) (f 2) (f 3) (f 4) (f 5) (f 6) (f 7) (f 8) (f 9) (f 10) (f 11) (f 12) (f 13) (f 14) (iI (i : Int)) w 1 hr0 hc1) (zNi_no _) (cwV 2 hts gL_price_X4_price rfl rfl rfl (by decide +kernel) ⟨(Nat.le_of_ble_eq_true rfl), (Nat.le_of_ble_eq_true rfl)⟩) hXc [] [] ⟨0, 6, 7, 14⟩ htab pass0 (by decide) (by decide) k1 (cast_in _ (by decide)) hK hP hD hS hA [0, 1, 2, 3, 4, 5, 6, 7, 8, 9, 10, 11, 12, 13, 14, 15, 16, 17, 18, 19] [] [0, 1, 2, 3, 4, 5, 6, 7, 8, 9, 10, 11, 12, 13, 14, 15, 16, 17, 18, 19] [0, 1] rfl rfl rfl rfl (by decide) rfl rfl rfl 4 0 rfl rfl rfl hl.1 (Nat.le_of_ble_eq_true rfl) (Nat.le_of_ble_eq_true rfl) (Nat.le_of_ble_eq_true rfl) rfl dL_price_3 (fun q H locs hP hD hS hz => ?_)
  refine lv_astore_n hx hb dL_price_7 rfl hl (by decide) rfl (fun ls hl => ?_)
  refine lv_ldc (own := RL) (v := -99999) hx hb hown (hts (.constant RL 16 (-99999)) (by decide +kernel)) dL_price_8 ?_
  exact y_ret (k := 1) hQ hx hb hr rfl hlocks hN ⟨rfl, rfl⟩ hP hK hD hS (Nat.le_trans (Nat.add_le_add_right hS0.1 1) hz) dL_price_10
set_option maxHeartbeats 4000000 in
set_option maxRecDepth 100000 in
theorem l_arc (hfl : l.stackTraces = false) {p0 p1 p2 p3 : Int32} (z0 : p0 = 0) (z1 : p1 = 1) (z2 : p2 = 2) (z3 : p3 = 8) (hm : m ≤ 12) : LM l (dC, dI) cyI cyZ a yL_arc wsL_arc { frames := 8, cells := 1, slots := 6, locals := 126 } [.ref (a 0), .int p0, .int p1, .int p2, .int p3] (NN m) (NN (min (m + 1) 12)) (fun _ _ => True) 1 6 := by
  subst z0 z1 z2 z3
  refine y_ofWH (cc := cL_arc) (maxL := 6) (rt := (some .int)) (hh := [(0, 9, 10, 14), (0, 9, 15, 17), (0, 9, 20, 19)]) (by decide) rfl (Nat.le_of_ble_eq_true rfl) ?_
  intro x f p e s mi args below meth c ls A Q H locs hN hQ hx hb hr hts hown hlocks hml hA hK hP hD hS hXc htab hl
  have hl : lv_has ls 6 [(0, .ref (a 0)), (1, .int 0), (2, .int 1), (3, .int 2), (4, .int 8)] := hl
  refine lv_aload_n hx hb dL_arc_0 rfl (lv_at hl 0 rfl) ?_
  refine lv_iload_n hx hb dL_arc_1 rfl (lv_at hl 1 rfl) ?_
  refine lv_iload_n hx hb dL_arc_2 rfl (lv_at hl 2 rfl) ?_
  refine lv_iload_n hx hb dL_arc_3 rfl (lv_at hl 3 rfl) ?_
  refine lv_iload hx hb dL_arc_4 (lv_at hl 4 rfl) ?_
  rcases Nat.lt_or_ge m 12 with cm | cm
  · have e9 : min (m + 1) 12 = m + 1 := by omega
    rw [e9] at hQ
    refine y_call (As := [.int 0, .int 1, .int 2, .int 8]) (rest := []) ⟨hx, hb, hml, hown, hts⟩ hN (om_arc cm) (cwV 4 hts gL_arc_X4_arc rfl rfl rfl (by decide +kernel) ⟨(Nat.le_of_ble_eq_true rfl), (Nat.le_of_ble_eq_true rfl)⟩) hK hP hD hS hA rfl hl.1 (Nat.le_of_ble_eq_true rfl) (Nat.le_of_ble_eq_true rfl) (Nat.le_of_ble_eq_true rfl) rfl dL_arc_6 (fun r1 x f H locs hN hr1 hP hD hS hz1 => ?_)
    refine W.widen (k := 1) (n := 6) (Nat.le_of_ble_eq_true rfl) (Nat.le_of_ble_eq_true rfl) ?_
    exact y_ret (k := 0) hQ hx hb hr rfl hlocks hN trivial hP hK hD hS hS.1 dL_arc_9
  · have e8 : m = 12 := by omega
    have e9 : min (m + 1) 12 = m := by omega
    rw [e9] at hQ
    have k1 := hts (.classLink RL 14 (zEx 1)) (by decide +kernel)
    have k2 := hts (.classLink RL 17 (zEx 2)) (by decide +kernel)
    have k3 := hts (.classLink RL 19 (zEx 3)) (by decide +kernel)
    obtain ⟨F, T, P, C, U, ⟨Wd, Vd, h⟩, e0, e1, e2, e3, e4, f0, f1, f2, f3, f4⟩ := id hN
    have hc1 : pX4_arc 20000 (x 3) (x 4) (f 0) (f 1) (f 2) (f 3) (f 4) 0 1 2 8 = some (.inl 3) := by
      rw [e3, e4, f0, f1, f2, f3, f4]
      exact arc_out h e8
    refine q_callC (As := [.int 0, .int 1, .int 2, .int 8]) ⟨hx, hb, hml, hown, hts⟩ (cx_X4_arc l hfl dC dI cyI cyZ (a 0) (a 1) (a 2) (a 3) (a 4) (a 5) (a 6) (a 7) (a 8) (a 9) (a 10) (a 11) (a 12) (a 13) (a 14) (a 15) (a 16) (a 17) (a 18) (a 19) H.size (x 0) (x 1) (x 2) (x 3) (x 4) (x 5) (x 6) (x 7) (f 0) (f 1) (f 2) (f 3) (f 4) (f 5) (f 6) (f 7) (f 8) (f 9) (f 10) (f 11) (f 12) (f 13) (f 14) 0 1 2 8 20000 3 hc1) (zNi_no _) (cwV 4 hts gL_arc_X4_arc rfl rfl rfl (by decide +kernel) ⟨(Nat.le_of_ble_eq_true rfl), (Nat.le_of_ble_eq_true rfl)⟩) hXc [⟨0, 9, 10, 14⟩, ⟨0, 9, 15, 17⟩] [] ⟨0, 9, 20, 19⟩ htab (pass2 ⟨by decide, _, k1, hXc.2.1.2.1⟩ ⟨by decide, _, k2, hXc.2.1.2.2⟩) (by decide) (by decide) k3 (cast_in _ (by decide)) hK hP hD hS hA [0, 1, 2, 3, 4, 5, 6, 7, 8, 9, 10, 11, 12, 13, 14, 15, 16, 17, 18, 19] [] [0, 1, 2, 3, 4, 5, 6, 7, 8, 9, 10, 11, 12, 13, 14, 15, 16, 17, 18, 19] [0, 1] rfl rfl rfl rfl (by decide) rfl rfl rfl 4 0 rfl rfl rfl hl.1 (Nat.le_of_ble_eq_true rfl) (Nat.le_of_ble_eq_true rfl) (Nat.le_of_ble_eq_true rfl) rfl dL_arc_6 (fun q H locs hP hD hS => ?_)
    refine lv_astore hx hb dL_arc_20 hl (by decide) rfl (fun ls hl => ?_)
    refine lv_ldc (own := RL) (v := -99999) hx hb hown (hts (.constant RL 16 (-99999)) (by decide +kernel)) dL_arc_22 ?_
    exact y_ret (k := 0) hQ hx hb hr rfl hlocks hN trivial hP hK hD hS hS.1 dL_arc_24
set_option maxHeartbeats 4000000 in
set_option maxRecDepth 100000 in
theorem l_sumOf {i : Nat} {w : Int} (hi : i < m) (l0 : -2147483648 ≤ w) (hw : w ≤ C i) : LM l (dC, dI) cyI cyZ a yL_sumOf wsL_sumOf { frames := 3, cells := 0, slots := 0, locals := 60 } [.ref (a 0), .int (iI (i : Int)), .int (iI w)] (Net m F T P C U) (Net m F T P C U) (fun _ _ => True) 0 0 := by
  refine y_ofW (cc := cL_sumOf) (maxL := 5) (rt := (some .int)) (by decide) rfl (Nat.le_of_ble_eq_true rfl) ?_
  intro x f p e s mi args below meth c ls A Q H locs hN hQ hx hb hr hts hown hlocks hml hA hK hP hD hS hXc hl
  have hl : lv_has ls 5 [(0, .ref (a 0)), (1, .int (iI (i : Int))), (2, .int (iI w))] := hl
  obtain ⟨⟨Wd, Vd, h⟩, -⟩ := id hN
  have hb9 := c_bd (h.2.2.2.1 i hi)
  have key : ∀ (n u : Nat) (z : Int32) (x : Nat → Int32) (f : Nat → Nat → Int32) (H : Heap) (locs : List Loc) (ls : Array Slot), u + n = 17 → 1 ≤ u → Net m F T P C U x f → va_P (dC, dI) vwCl (wo cyI cyZ a x f) H → va_D A (wo cyI cyZ a x f) → va_S A s.heap H locs → lv_has ls 5 [(4, .int (iI (u : Int))), (3, .int z), (0, .ref (a 0)), (1, .int (iI (i : Int))), (2, .int (iI w))] → W p l e { frames := 3, cells := 0, slots := 0, locals := 60 } s mi args below meth c H locs 0 0 Q (F0 mi 5 ls []) := by
    intro n
    induction n with
    | zero =>
      intro u z x f H locs ls hun h1 hN hP hD hS hl
      refine lv_iload hx hb dL_sumOf_5 (lv_at hl 0 rfl) ?_
      refine lv_iload_n hx hb dL_sumOf_7 rfl (lv_at hl 4 rfl) ?_
      refine lv_icmp_gt (tgt := 27) hx hb dL_sumOf_8 (by decide) (fun c101 => ?_) (fun c101 => ?_)
      · refine lv_iload_n hx hb dL_sumOf_27 rfl (lv_at hl 1 rfl) ?_
        refine W.widen (k := 0) (n := 0) (Nat.le_of_ble_eq_true rfl) (Nat.le_of_ble_eq_true rfl) ?_
        exact y_ret (k := 0) hQ hx hb hr rfl hlocks hN trivial hP hK hD hS hS.1 dL_sumOf_28
      · exfalso
        rw [iI_lt (by omega) (by omega) (by omega) (by omega)] at c101
        omega
    | succ n ih =>
      intro u z x f H locs ls hun h1 hN hP hD hS hl
      refine lv_iload hx hb dL_sumOf_5 (lv_at hl 0 rfl) ?_
      refine lv_iload_n hx hb dL_sumOf_7 rfl (lv_at hl 4 rfl) ?_
      refine lv_icmp_gt (tgt := 27) hx hb dL_sumOf_8 (by decide) (fun c101 => ?_) (fun c101 => ?_)
      · refine lv_iload_n hx hb dL_sumOf_27 rfl (lv_at hl 1 rfl) ?_
        refine W.widen (k := 0) (n := 0) (Nat.le_of_ble_eq_true rfl) (Nat.le_of_ble_eq_true rfl) ?_
        exact y_ret (k := 0) hQ hx hb hr rfl hlocks hN trivial hP hK hD hS hS.1 dL_sumOf_28
      · have h2 : (u : Int) ≤ C i := by
          rw [iI_lt (by omega) (by omega) (by omega) (by omega)] at c101
          omega
        refine lv_iload_n hx hb dL_sumOf_11 rfl (lv_at hl 1 rfl) ?_
        refine lv_aload_n hx hb dL_sumOf_12 rfl (lv_at hl 2 rfl) ?_
        refine lv_iload_n hx hb dL_sumOf_13 rfl (lv_at hl 3 rfl) ?_
        refine lv_iload hx hb dL_sumOf_14 (lv_at hl 0 rfl) ?_
        refine y_call (As := [.int (iI (i : Int)), .int (iI (u : Int))]) (rest := [.int z]) ⟨hx, hb, hml, hown, hts⟩ hN (om_price hi h1 h2) (cwV 2 hts gL_sumOf_X4_price rfl rfl rfl (by decide +kernel) ⟨(Nat.le_of_ble_eq_true rfl), (Nat.le_of_ble_eq_true rfl)⟩) hK hP hD hS hA rfl hl.1 (Nat.le_of_ble_eq_true rfl) (Nat.le_of_ble_eq_true rfl) (Nat.le_of_ble_eq_true rfl) rfl dL_sumOf_16 (fun r2 x f H locs hN hr2 hP hD hS hz1 => ?_)
        refine lv_iadd hx hb dL_sumOf_19 ?_
        refine lv_istore_n (lv' := [(3, .int (z + r2)), (4, .int (iI (u : Int))), (0, .ref (a 0)), (1, .int (iI (i : Int))), (2, .int (iI w))]) hx hb dL_sumOf_20 rfl hl (by decide) rfl (fun ls hl => ?_)
        refine lv_iinc (v := iI ((u + 1 : Nat) : Int)) (lv' := [(4, .int (iI ((u + 1 : Nat) : Int))), (3, .int (z + r2)), (0, .ref (a 0)), (1, .int (iI (i : Int))), (2, .int (iI w))]) hx hb dL_sumOf_21 hl (k := 1) rfl (show iI (u : Int) + iI 1 = _ by rw [iI_add]; rfl) (by decide) rfl (fun ls hl => ?_)
        refine lv_goto (tgt := 5) hx hb dL_sumOf_24 (by decide) ?_
        exact ih _ _ _ _ _ _ _ (by omega) (by omega) hN hP hD hS hl
  refine lv_iconst (v := 0) hx hb dL_sumOf_0 (by decide) ?_
  refine lv_istore_n (lv' := [(3, .int 0), (0, .ref (a 0)), (1, .int (iI (i : Int))), (2, .int (iI w))]) hx hb dL_sumOf_1 rfl hl (by decide) rfl (fun ls hl => ?_)
  refine lv_iconst (v := 1) hx hb dL_sumOf_2 (by decide) ?_
  refine lv_istore (lv' := [(4, .int 1), (3, .int 0), (0, .ref (a 0)), (1, .int (iI (i : Int))), (2, .int (iI w))]) hx hb dL_sumOf_3 hl (by decide) rfl (fun ls hl => ?_)
  exact key 16 1 _ _ _ _ _ _ rfl (Nat.le_refl 1) hN hP hD hS hl
set_option maxHeartbeats 4000000 in
set_option maxRecDepth 100000 in
theorem l_isMoreSo {j : Nat} (hj : j < 2) : LM l (dC, dI) cyI cyZ a yL_isMoreSo wsL_isMoreSo { frames := 8, cells := 0, slots := 0, locals := 160 } [.ref (a 0), .int (iI (j : Int))] (Net m F T P C U) (Net m F T P C U) (fun _ _ => True) 0 0 := by
  refine y_ofW (cc := cL_isMoreSo) (maxL := 3) (rt := (some .boolean)) (by decide) rfl (Nat.le_of_ble_eq_true rfl) ?_
  intro x f p e s mi args below meth c ls A Q H locs hN hQ hx hb hr hts hown hlocks hml hA hK hP hD hS hXc hl
  have hl : lv_has ls 3 [(0, .ref (a 0)), (1, .int (iI (j : Int)))] := hl
  refine lv_aload_n hx hb dL_isMoreSo_0 rfl (lv_at hl 0 rfl) ?_
  refine lv_iload_n hx hb dL_isMoreSo_1 rfl (lv_at hl 1 rfl) ?_
  refine y_call (As := [.int (iI (j : Int))]) (rest := []) ⟨hx, hb, hml, hown, hts⟩ hN (om_more hj) (cwV 1 hts gL_isMoreSo_X4_more rfl rfl rfl (by decide +kernel) ⟨(Nat.le_of_ble_eq_true rfl), (Nat.le_of_ble_eq_true rfl)⟩) hK hP hD hS hA rfl hl.1 (Nat.le_of_ble_eq_true rfl) (Nat.le_of_ble_eq_true rfl) (Nat.le_of_ble_eq_true rfl) rfl dL_isMoreSo_2 (fun r1 x f H locs hN hr1 hP hD hS hz1 => ?_)
  refine lv_istore_n (lv' := [(2, .int r1), (0, .ref (a 0)), (1, .int (iI (j : Int)))]) hx hb dL_isMoreSo_5 rfl hl (by decide) rfl (fun ls hl => ?_)
  refine lv_aload_n hx hb dL_isMoreSo_6 rfl (lv_at hl 1 rfl) ?_
  refine y_call (As := []) (rest := []) ⟨hx, hb, hml, hown, hts⟩ hN om_cost (cwV 0 hts gL_isMoreSo_X4_cost rfl rfl rfl (by decide +kernel) ⟨(Nat.le_of_ble_eq_true rfl), (Nat.le_of_ble_eq_true rfl)⟩) hK hP hD hS hA rfl hl.1 (Nat.le_of_ble_eq_true rfl) (Nat.le_of_ble_eq_true rfl) (Nat.le_of_ble_eq_true rfl) rfl dL_isMoreSo_7 (fun r2 x f H locs hN hr2 hP hD hS hz1 => ?_)
  refine lv_if_ge (tgt := 26) hx hb dL_isMoreSo_10 (by decide) (fun c103 => ?_) (fun c103 => ?_)
  · refine lv_iload_n hx hb dL_isMoreSo_26 rfl (lv_at hl 0 rfl) ?_
    refine lv_iconst (v := (-1)) hx hb dL_isMoreSo_27 (by decide) ?_
    refine lv_icmp_lt (tgt := 35) hx hb dL_isMoreSo_28 (by decide) (fun c104 => ?_) (fun c104 => ?_)
    · refine lv_iconst (v := 0) hx hb dL_isMoreSo_35 (by decide) ?_
      refine W.widen (k := 0) (n := 0) (Nat.le_of_ble_eq_true rfl) (Nat.le_of_ble_eq_true rfl) ?_
      exact y_ret (k := 0) hQ hx hb hr rfl hlocks hN trivial hP hK hD hS hS.1 dL_isMoreSo_36
    · refine lv_iconst (v := 1) hx hb dL_isMoreSo_31 (by decide) ?_
      refine lv_goto (tgt := 36) hx hb dL_isMoreSo_32 (by decide) ?_
      refine W.widen (k := 0) (n := 0) (Nat.le_of_ble_eq_true rfl) (Nat.le_of_ble_eq_true rfl) ?_
      exact y_ret (k := 0) hQ hx hb hr rfl hlocks hN trivial hP hK hD hS hS.1 dL_isMoreSo_36
  · refine lv_iload_n hx hb dL_isMoreSo_13 rfl (lv_at hl 0 rfl) ?_
    refine lv_iconst (v := (-1)) hx hb dL_isMoreSo_14 (by decide) ?_
    refine lv_icmp_ne (tgt := 22) hx hb dL_isMoreSo_15 (by decide) (fun c105 => ?_) (fun c105 => ?_)
    · refine lv_iconst (v := 0) hx hb dL_isMoreSo_22 (by decide) ?_
      refine lv_goto (tgt := 36) hx hb dL_isMoreSo_23 (by decide) ?_
      refine W.widen (k := 0) (n := 0) (Nat.le_of_ble_eq_true rfl) (Nat.le_of_ble_eq_true rfl) ?_
      exact y_ret (k := 0) hQ hx hb hr rfl hlocks hN trivial hP hK hD hS hS.1 dL_isMoreSo_36
    · refine lv_iconst (v := 1) hx hb dL_isMoreSo_18 (by decide) ?_
      refine lv_goto (tgt := 36) hx hb dL_isMoreSo_19 (by decide) ?_
      refine W.widen (k := 0) (n := 0) (Nat.le_of_ble_eq_true rfl) (Nat.le_of_ble_eq_true rfl) ?_
      exact y_ret (k := 0) hQ hx hb hr rfl hlocks hN trivial hP hK hD hS hS.1 dL_isMoreSo_36
set_option maxHeartbeats 4000000 in
set_option maxRecDepth 100000 in
theorem l_isArcSo (hfl : l.stackTraces = false) {i : Nat} (hi : i < m) : LM l (dC, dI) cyI cyZ a yL_isArcSo wsL_isArcSo { frames := 10, cells := 2, slots := 12, locals := 152 } [.ref (a 0), .int (iI (i : Int))] (Net m F T P C U) (Net m F T P C U) (fun r k => r = 0 ∨ k = 2) 2 12 := by
  refine y_ofW (cc := cL_isArcSo) (maxL := 6) (rt := (some .boolean)) (by decide) rfl (Nat.le_of_ble_eq_true rfl) ?_
  intro x f p e s mi args below meth c ls A Q H locs hN hQ hx hb hr hts hown hlocks hml hA hK hP hD hS hXc hl
  have hl : lv_has ls 6 [(0, .ref (a 0)), (1, .int (iI (i : Int)))] := hl
  obtain ⟨⟨Wd, Vd, h⟩, -⟩ := id hN
  have hb9 := c_bd (h.2.2.2.1 i hi)
  have kexit : ∀ (x : Nat → Int32) (f : Nat → Nat → Int32) (H : Heap) (locs : List Loc) (ls : Array Slot), Net m F T P C U x f → va_P (dC, dI) vwCl (wo cyI cyZ a x f) H → va_D A (wo cyI cyZ a x f) → va_S A s.heap H locs → lv_has ls 6 [(2, .int (iI (C i))), (0, .ref (a 0)), (1, .int (iI (i : Int)))] → W p l e { frames := 10, cells := 2, slots := 12, locals := 152 } s mi args below meth c H locs 0 0 Q (F0 mi 50 ls []) := by
    intro x f H locs ls hN hP hD hS hl
    refine lv_iload_n hx hb dL_isArcSo_50 rfl (lv_at hl 0 rfl) ?_
    refine lv_iconst (v := 1) hx hb dL_isArcSo_51 (by decide) ?_
    refine lv_icmp_lt (tgt := 89) hx hb dL_isArcSo_52 (by decide) (fun c101 => ?_) (fun c101 => ?_)
    · refine lv_iconst (v := 0) hx hb dL_isArcSo_89 (by decide) ?_
      refine W.widen (k := 2) (n := 12) (Nat.le_of_ble_eq_true rfl) (Nat.le_of_ble_eq_true rfl) ?_
      exact y_ret (k := 0) hQ hx hb hr rfl hlocks hN (Or.inl rfl) hP hK hD hS hS.1 dL_isArcSo_90
    · refine lv_iload_n hx hb dL_isArcSo_55 rfl (lv_at hl 0 rfl) ?_
      refine lv_bipush (v := 15) hx hb dL_isArcSo_56 (by decide) ?_
      refine lv_icmp_gt (tgt := 89) hx hb dL_isArcSo_58 (by decide) (fun c102 => ?_) (fun c102 => ?_)
      · refine lv_iconst (v := 0) hx hb dL_isArcSo_89 (by decide) ?_
        refine W.widen (k := 2) (n := 12) (Nat.le_of_ble_eq_true rfl) (Nat.le_of_ble_eq_true rfl) ?_
        exact y_ret (k := 0) hQ hx hb hr rfl hlocks hN (Or.inl rfl) hP hK hD hS hS.1 dL_isArcSo_90
      · refine lv_aload_n hx hb dL_isArcSo_61 rfl (lv_at hl 1 rfl) ?_
        refine lv_iload_n hx hb dL_isArcSo_62 rfl (lv_at hl 2 rfl) ?_
        refine lv_iconst (v := 0) hx hb dL_isArcSo_63 (by decide) ?_
        have hS0 := hS
        refine y_callSW (As := [.ref (a 0), .int (iI (i : Int)), .int 0]) (rest := []) ⟨hx, hb, hml, hown, hts⟩ hN (l_price (u := 0) hfl hi zl0 (Or.inl (by decide)) (by decide) (by decide)) (vx_cwSW 3 hts gL_isArcSo_L_price rfl rfl rfl (by decide +kernel) ⟨(Nat.le_of_ble_eq_true rfl), (Nat.le_of_ble_eq_true rfl)⟩) hXc hK hP hD hS hA rfl hl.1 (Nat.le_of_ble_eq_true rfl) (Nat.le_of_ble_eq_true rfl) (Nat.le_of_ble_eq_true rfl) rfl dL_isArcSo_64 (fun r3 k9 x f H locs hN hr3 hP hD hS hz1 => ?_)
        obtain rfl : k9 = 1 := hr3.2
        have hz := Nat.le_trans (Nat.add_le_add_right hS0.1 1) hz1
        refine lv_ldc (own := RL) (v := -99999) hx hb hown (hts (.constant RL 16 (-99999)) (by decide +kernel)) dL_isArcSo_67 ?_
        refine lv_icmp_ne (tgt := 89) hx hb dL_isArcSo_69 (by decide) (fun c104 => ?_) (fun c104 => ?_)
        · refine lv_iconst (v := 0) hx hb dL_isArcSo_89 (by decide) ?_
          refine W.widen (k := 2) (n := 12) (Nat.le_of_ble_eq_true rfl) (Nat.le_of_ble_eq_true rfl) ?_
          exact y_ret (k := 0) hQ hx hb hr rfl hlocks hN (Or.inl rfl) hP hK hD hS hS.1 dL_isArcSo_90
        · refine lv_aload_n hx hb dL_isArcSo_72 rfl (lv_at hl 1 rfl) ?_
          refine lv_iload_n hx hb dL_isArcSo_73 rfl (lv_at hl 2 rfl) ?_
          refine lv_iload_n hx hb dL_isArcSo_74 rfl (lv_at hl 0 rfl) ?_
          refine lv_iconst (v := 1) hx hb dL_isArcSo_75 (by decide) ?_
          refine lv_iadd hx hb dL_isArcSo_76 ?_
          refine y_callSW (As := [.ref (a 0), .int (iI (i : Int)), .int ((iI (C i)) + 1)]) (rest := []) ⟨hx, hb, hml, hown, hts⟩ hN (l_price (u := C i + 1) hfl hi (by rw [zl1, iI_add]) (Or.inr (by omega)) (by omega) (by omega)) (vx_cwSW 3 hts gL_isArcSo_L_price rfl rfl rfl (by decide +kernel) ⟨(Nat.le_of_ble_eq_true rfl), (Nat.le_of_ble_eq_true rfl)⟩) hXc hK hP hD hS hA rfl hl.1 (Nat.le_of_ble_eq_true rfl) (Nat.le_of_ble_eq_true rfl) (Nat.le_of_ble_eq_true rfl) rfl dL_isArcSo_77 (fun r5 k9 x f H locs hN hr5 hP hD hS hz1 => ?_)
          obtain rfl : k9 = 1 := hr5.2
          have hz := Nat.le_trans (Nat.add_le_add_right hz 1) hz1
          refine lv_ldc (own := RL) (v := -99999) hx hb hown (hts (.constant RL 16 (-99999)) (by decide +kernel)) dL_isArcSo_80 ?_
          refine lv_icmp_ne (tgt := 89) hx hb dL_isArcSo_82 (by decide) (fun c106 => ?_) (fun c106 => ?_)
          · refine lv_iconst (v := 0) hx hb dL_isArcSo_89 (by decide) ?_
            refine W.widen (k := 2) (n := 12) (Nat.le_of_ble_eq_true rfl) (Nat.le_of_ble_eq_true rfl) ?_
            exact y_ret (k := 0) hQ hx hb hr rfl hlocks hN (Or.inl rfl) hP hK hD hS hS.1 dL_isArcSo_90
          · refine lv_iconst (v := 1) hx hb dL_isArcSo_85 (by decide) ?_
            refine lv_goto (tgt := 90) hx hb dL_isArcSo_86 (by decide) ?_
            refine W.widen (k := 2) (n := 12) (Nat.le_of_ble_eq_true rfl) (Nat.le_of_ble_eq_true rfl) ?_
            exact y_ret (k := 2) hQ hx hb hr rfl hlocks hN (Or.inr rfl) hP hK hD hS hz dL_isArcSo_90
  have key : ∀ (n u : Nat) (z : Int32) (x : Nat → Int32) (f : Nat → Nat → Int32) (H : Heap) (locs : List Loc) (ls : Array Slot), u + n = 17 → 1 ≤ u → Net m F T P C U x f → va_P (dC, dI) vwCl (wo cyI cyZ a x f) H → va_D A (wo cyI cyZ a x f) → va_S A s.heap H locs → lv_has ls 6 [(4, .int (iI (u : Int))), (3, .int z), (2, .int (iI (C i))), (0, .ref (a 0)), (1, .int (iI (i : Int)))] → W p l e { frames := 10, cells := 2, slots := 12, locals := 152 } s mi args below meth c H locs 0 0 Q (F0 mi 11 ls []) := by
    intro n
    induction n with
    | zero =>
      intro u z x f H locs ls hun h1 hN hP hD hS hl
      refine lv_iload hx hb dL_isArcSo_11 (lv_at hl 0 rfl) ?_
      refine lv_iload_n hx hb dL_isArcSo_13 rfl (lv_at hl 2 rfl) ?_
      refine lv_icmp_gt (tgt := 50) hx hb dL_isArcSo_14 (by decide) (fun c101 => ?_) (fun c101 => ?_)
      · exact kexit _ _ _ _ _ hN hP hD hS (lv_sub hl [2, 3, 4] rfl)
      · exfalso
        rw [iI_lt (by omega) (by omega) (by omega) (by omega)] at c101
        omega
    | succ n ih =>
      intro u z x f H locs ls hun h1 hN hP hD hS hl
      refine lv_iload hx hb dL_isArcSo_11 (lv_at hl 0 rfl) ?_
      refine lv_iload_n hx hb dL_isArcSo_13 rfl (lv_at hl 2 rfl) ?_
      refine lv_icmp_gt (tgt := 50) hx hb dL_isArcSo_14 (by decide) (fun c101 => ?_) (fun c101 => ?_)
      · exact kexit _ _ _ _ _ hN hP hD hS (lv_sub hl [2, 3, 4] rfl)
      · have h2 : (u : Int) ≤ C i := by
          rw [iI_lt (by omega) (by omega) (by omega) (by omega)] at c101
          omega
        refine lv_aload_n hx hb dL_isArcSo_17 rfl (lv_at hl 3 rfl) ?_
        refine lv_iload_n hx hb dL_isArcSo_18 rfl (lv_at hl 4 rfl) ?_
        refine lv_iload hx hb dL_isArcSo_19 (lv_at hl 0 rfl) ?_
        refine y_call (As := [.int (iI (i : Int)), .int (iI (u : Int))]) (rest := []) ⟨hx, hb, hml, hown, hts⟩ hN (om_price hi h1 h2) (cwV 2 hts gL_isArcSo_X4_price rfl rfl rfl (by decide +kernel) ⟨(Nat.le_of_ble_eq_true rfl), (Nat.le_of_ble_eq_true rfl)⟩) hK hP hD hS hA rfl hl.1 (Nat.le_of_ble_eq_true rfl) (Nat.le_of_ble_eq_true rfl) (Nat.le_of_ble_eq_true rfl) rfl dL_isArcSo_21 (fun r2 x f H locs hN hr2 hP hD hS hz1 => ?_)
        refine lv_istore (lv' := [(5, .int r2), (4, .int (iI (u : Int))), (3, .int z), (2, .int (iI (C i))), (0, .ref (a 0)), (1, .int (iI (i : Int)))]) hx hb dL_isArcSo_24 hl (by decide) rfl (fun ls hl => ?_)
        refine lv_iload hx hb dL_isArcSo_26 (lv_at hl 0 rfl) ?_
        refine lv_iload_n hx hb dL_isArcSo_28 rfl (lv_at hl 2 rfl) ?_
        refine lv_icmp_lt (tgt := 39) hx hb dL_isArcSo_29 (by decide) (fun c103 => ?_) (fun c103 => ?_)
        · refine lv_iconst (v := 0) hx hb dL_isArcSo_39 (by decide) ?_
          refine W.widen (k := 2) (n := 12) (Nat.le_of_ble_eq_true rfl) (Nat.le_of_ble_eq_true rfl) ?_
          exact y_ret (k := 0) hQ hx hb hr rfl hlocks hN (Or.inl rfl) hP hK hD hS hS.1 dL_isArcSo_40
        · refine lv_iload hx hb dL_isArcSo_32 (lv_at hl 0 rfl) ?_
          refine lv_bipush (v := 99) hx hb dL_isArcSo_34 (by decide) ?_
          refine lv_icmp_le (tgt := 41) hx hb dL_isArcSo_36 (by decide) (fun c104 => ?_) (fun c104 => ?_)
          · refine lv_iload hx hb dL_isArcSo_41 (lv_at hl 0 rfl) ?_
            refine lv_istore_n (lv' := [(3, .int r2), (5, .int r2), (4, .int (iI (u : Int))), (2, .int (iI (C i))), (0, .ref (a 0)), (1, .int (iI (i : Int)))]) hx hb dL_isArcSo_43 rfl hl (by decide) rfl (fun ls hl => ?_)
            refine lv_iinc (v := iI ((u + 1 : Nat) : Int)) (lv' := [(4, .int (iI ((u + 1 : Nat) : Int))), (3, .int r2), (5, .int r2), (2, .int (iI (C i))), (0, .ref (a 0)), (1, .int (iI (i : Int)))]) hx hb dL_isArcSo_44 hl (k := 2) rfl (show iI (u : Int) + iI 1 = _ by rw [iI_add]; rfl) (by decide) rfl (fun ls hl => ?_)
            refine lv_goto (tgt := 11) hx hb dL_isArcSo_47 (by decide) ?_
            exact ih _ _ _ _ _ _ _ (by omega) (by omega) hN hP hD hS (lv_sub hl [0, 1, 3, 4, 5] rfl)
          · refine lv_iconst (v := 0) hx hb dL_isArcSo_39 (by decide) ?_
            refine W.widen (k := 2) (n := 12) (Nat.le_of_ble_eq_true rfl) (Nat.le_of_ble_eq_true rfl) ?_
            exact y_ret (k := 0) hQ hx hb hr rfl hlocks hN (Or.inl rfl) hP hK hD hS hS.1 dL_isArcSo_40
  refine lv_aload_n hx hb dL_isArcSo_0 rfl (lv_at hl 0 rfl) ?_
  refine lv_iload_n hx hb dL_isArcSo_1 rfl (lv_at hl 1 rfl) ?_
  refine y_call (As := [.int (iI (i : Int))]) (rest := []) ⟨hx, hb, hml, hown, hts⟩ hN (om_capacity hi) (cwV 1 hts gL_isArcSo_X4_capacity rfl rfl rfl (by decide +kernel) ⟨(Nat.le_of_ble_eq_true rfl), (Nat.le_of_ble_eq_true rfl)⟩) hK hP hD hS hA rfl hl.1 (Nat.le_of_ble_eq_true rfl) (Nat.le_of_ble_eq_true rfl) (Nat.le_of_ble_eq_true rfl) rfl dL_isArcSo_2 (fun r1 x f H locs hN hr1 hP hD hS hz1 => ?_)
  obtain rfl : r1 = iI (C i) := hr1
  refine lv_istore_n (lv' := [(2, .int (iI (C i))), (0, .ref (a 0)), (1, .int (iI (i : Int)))]) hx hb dL_isArcSo_5 rfl hl (by decide) rfl (fun ls hl => ?_)
  refine lv_iconst (v := 0) hx hb dL_isArcSo_6 (by decide) ?_
  refine lv_istore_n (lv' := [(3, .int 0), (2, .int (iI (C i))), (0, .ref (a 0)), (1, .int (iI (i : Int)))]) hx hb dL_isArcSo_7 rfl hl (by decide) rfl (fun ls hl => ?_)
  refine lv_iconst (v := 1) hx hb dL_isArcSo_8 (by decide) ?_
  refine lv_istore (lv' := [(4, .int 1), (3, .int 0), (2, .int (iI (C i))), (0, .ref (a 0)), (1, .int (iI (i : Int)))]) hx hb dL_isArcSo_9 hl (by decide) rfl (fun ls hl => ?_)
  exact key 16 1 _ _ _ _ _ _ rfl (Nat.le_refl 1) hN hP hD hS hl
set_option maxHeartbeats 4000000 in
set_option maxRecDepth 100000 in
theorem l_act (hfl : l.stackTraces = false) (hm : m ≤ 12) : LM l (dC, dI) cyI cyZ a yL_act wsL_act { frames := 10, cells := 1, slots := 6, locals := 160 } [.ref (a 0), .int 16777218] (NN m) (NN (min (m + 1) 12)) (fun _ _ => True) 1 6 := by
  refine y_ofW (cc := cL_act) (maxL := 6) (rt := (some .int)) (by decide) rfl (Nat.le_of_ble_eq_true rfl) ?_
  intro x f p e s mi args below meth c ls A Q H locs hN hQ hx hb hr hts hown hlocks hml hA hK hP hD hS hXc hl
  have hl : lv_has ls 6 [(0, .ref (a 0)), (1, .int 16777218)] := hl
  obtain ⟨F, T, P, C, U, hN⟩ := hN
  refine lv_iload_n hx hb dL_act_0 rfl (lv_at hl 1 rfl) ?_
  refine lv_bipush (v := 24) hx hb dL_act_1 (by decide) ?_
  refine lv_ishr hx hb dL_act_3 ?_
  refine lv_bipush (v := 9) hx hb dL_act_4 (by decide) ?_
  refine q_callSi (As := [.int ((16777218 : Int32) >>> ((24 : Int32) &&& 31)), .int 9]) (rest := []) (ret := 1) ⟨hx, hb, hml, hown, hts⟩ (c_L_low l dC dI H.size ((16777218 : Int32) >>> ((24 : Int32) &&& 31)) 9 1 (by decide +kernel) (by decide +kernel)) (va_cwS 2 hts gL_act_L_low rfl rfl rfl (by decide +kernel) ⟨(Nat.le_of_ble_eq_true rfl), (Nat.le_of_ble_eq_true rfl)⟩) hK hP hD hS hA [0, 1, 2, 3, 4, 5, 6, 7, 8, 9, 10, 11, 12, 13, 14, 15, 16, 17, 18, 19] rfl rfl rfl hl.1 (Nat.le_of_ble_eq_true rfl) (Nat.le_of_ble_eq_true rfl) (Nat.le_of_ble_eq_true rfl) rfl dL_act_6 (fun H locs hP hD hS => ?_)
  refine lv_if_ne (tgt := 16) hx hb dL_act_9 (by decide) (fun _ => ?_) (fun c9 => absurd c9 (by decide))
  refine lv_iconst (v := 0) hx hb dL_act_16 (by decide) ?_
  refine lv_istore_n (lv' := [(2, .int 0), (0, .ref (a 0)), (1, .int 16777218)]) hx hb dL_act_17 rfl hl (by decide) rfl (fun ls hl => ?_)
  refine lv_aload_n hx hb dL_act_18 rfl (lv_at hl 1 rfl) ?_
  refine y_call (As := []) (rest := []) ⟨hx, hb, hml, hown, hts⟩ hN om_nodes (cwV 0 hts gL_act_X4_nodes rfl rfl rfl (by decide +kernel) ⟨(Nat.le_of_ble_eq_true rfl), (Nat.le_of_ble_eq_true rfl)⟩) hK hP hD hS hA rfl hl.1 (Nat.le_of_ble_eq_true rfl) (Nat.le_of_ble_eq_true rfl) (Nat.le_of_ble_eq_true rfl) rfl dL_act_19 (fun r1 x f H locs hN hr1 hP hD hS hz1 => ?_)
  obtain rfl : r1 = 2 := hr1
  refine lv_iload_n hx hb dL_act_22 rfl (lv_at hl 0 rfl) ?_
  refine lv_if_eq (tgt := 30) hx hb dL_act_23 (by decide) (fun _ => ?_) (fun c9 => absurd (by decide) c9)
  refine lv_iconst (v := 0) hx hb dL_act_30 (by decide) ?_
  refine lv_iadd hx hb dL_act_31 ?_
  refine lv_istore_n (lv' := [(3, .int (2 + 0)), (2, .int 0), (0, .ref (a 0)), (1, .int 16777218)]) hx hb dL_act_32 rfl hl (by decide) rfl (fun ls hl => ?_)
  refine lv_iload_n hx hb dL_act_33 rfl (lv_at hl 3 rfl) ?_
  refine lv_iconst (v := 4) hx hb dL_act_34 (by decide) ?_
  refine lv_ishr hx hb dL_act_35 ?_
  refine lv_iload_n hx hb dL_act_36 rfl (lv_at hl 0 rfl) ?_
  refine q_callSi (As := [.int ((16777218 : Int32) >>> ((4 : Int32) &&& 31)), .int (2 + 0)]) (rest := []) (ret := 0) ⟨hx, hb, hml, hown, hts⟩ (c_L_low l dC dI H.size ((16777218 : Int32) >>> ((4 : Int32) &&& 31)) (2 + 0) 0 (by decide +kernel) (by decide +kernel)) (va_cwS 2 hts gL_act_L_low rfl rfl rfl (by decide +kernel) ⟨(Nat.le_of_ble_eq_true rfl), (Nat.le_of_ble_eq_true rfl)⟩) hK hP hD hS hA [0, 1, 2, 3, 4, 5, 6, 7, 8, 9, 10, 11, 12, 13, 14, 15, 16, 17, 18, 19] rfl rfl rfl hl.1 (Nat.le_of_ble_eq_true rfl) (Nat.le_of_ble_eq_true rfl) (Nat.le_of_ble_eq_true rfl) rfl dL_act_37 (fun H locs hP hD hS => ?_)
  refine lv_istore (lv' := [(4, .int 0), (3, .int (2 + 0)), (2, .int 0), (0, .ref (a 0)), (1, .int 16777218)]) hx hb dL_act_40 hl (by decide) rfl (fun ls hl => ?_)
  refine lv_iload_n hx hb dL_act_42 rfl (lv_at hl 2 rfl) ?_
  refine lv_if_eq (tgt := 57) hx hb dL_act_43 (by decide) (fun _ => ?_) (fun c9 => absurd (by decide) c9)
  refine lv_iload hx hb dL_act_57 (lv_at hl 0 rfl) ?_
  refine lv_iconst (v := 1) hx hb dL_act_59 (by decide) ?_
  refine lv_iadd hx hb dL_act_60 ?_
  refine lv_iload_n hx hb dL_act_61 rfl (lv_at hl 4 rfl) ?_
  refine lv_bipush (v := 8) hx hb dL_act_62 (by decide) ?_
  refine lv_ishr hx hb dL_act_64 ?_
  refine lv_iload_n hx hb dL_act_65 rfl (lv_at hl 1 rfl) ?_
  refine lv_iconst (v := 1) hx hb dL_act_66 (by decide) ?_
  refine lv_isub hx hb dL_act_67 ?_
  refine q_callSi (As := [.int ((16777218 : Int32) >>> ((8 : Int32) &&& 31)), .int ((2 + 0) - 1)]) (rest := [.int (0 + 1)]) (ret := 0) ⟨hx, hb, hml, hown, hts⟩ (c_L_low l dC dI H.size ((16777218 : Int32) >>> ((8 : Int32) &&& 31)) ((2 + 0) - 1) 0 (by decide +kernel) (by decide +kernel)) (va_cwS 2 hts gL_act_L_low rfl rfl rfl (by decide +kernel) ⟨(Nat.le_of_ble_eq_true rfl), (Nat.le_of_ble_eq_true rfl)⟩) hK hP hD hS hA [0, 1, 2, 3, 4, 5, 6, 7, 8, 9, 10, 11, 12, 13, 14, 15, 16, 17, 18, 19] rfl rfl rfl hl.1 (Nat.le_of_ble_eq_true rfl) (Nat.le_of_ble_eq_true rfl) (Nat.le_of_ble_eq_true rfl) rfl dL_act_68 (fun H locs hP hD hS => ?_)
  refine lv_iadd hx hb dL_act_71 ?_
  refine lv_iload_n hx hb dL_act_72 rfl (lv_at hl 1 rfl) ?_
  refine lv_irem hx hb dL_act_73 (by decide +kernel) ?_
  refine lv_istore (lv' := [(5, .int (((0 + 1) + 0) - ((0 + 1) + 0) / (2 + 0) * (2 + 0))), (4, .int 0), (3, .int (2 + 0)), (2, .int 0), (0, .ref (a 0)), (1, .int 16777218)]) hx hb dL_act_74 hl (by decide) rfl (fun ls hl => ?_)
  refine lv_iload_n hx hb dL_act_76 rfl (lv_at hl 5 rfl) ?_
  refine lv_bipush (v := 7) hx hb dL_act_77 (by decide) ?_
  refine q_callSi (As := [.int 16777218, .int 7]) (rest := []) (ret := 3) ⟨hx, hb, hml, hown, hts⟩ (c_L_low l dC dI H.size 16777218 7 3 (by decide +kernel) (by decide +kernel)) (va_cwS 2 hts gL_act_L_low rfl rfl rfl (by decide +kernel) ⟨(Nat.le_of_ble_eq_true rfl), (Nat.le_of_ble_eq_true rfl)⟩) hK hP hD hS hA [0, 1, 2, 3, 4, 5, 6, 7, 8, 9, 10, 11, 12, 13, 14, 15, 16, 17, 18, 19] rfl rfl rfl hl.1 (Nat.le_of_ble_eq_true rfl) (Nat.le_of_ble_eq_true rfl) (Nat.le_of_ble_eq_true rfl) rfl dL_act_79 (fun H locs hP hD hS => ?_)
  refine lv_tableOut (tgt := 205) hx hb dL_act_82 (Or.inr (by decide)) (by decide) ?_
  refine lv_aload_n hx hb dL_act_205 rfl (lv_at hl 4 rfl) ?_
  refine lv_iload hx hb dL_act_206 (lv_at hl 1 rfl) ?_
  refine lv_iload hx hb dL_act_208 (lv_at hl 0 rfl) ?_
  refine lv_iload_n hx hb dL_act_210 rfl (lv_at hl 3 rfl) ?_
  refine lv_if_eq (tgt := 226) hx hb dL_act_211 (by decide) (fun _ => ?_) (fun c9 => absurd (by decide) c9)
  refine lv_iconst (v := 1) hx hb dL_act_226 (by decide) ?_
  refine lv_iload_n hx hb dL_act_227 rfl (lv_at hl 5 rfl) ?_
  refine lv_bipush (v := 12) hx hb dL_act_228 (by decide) ?_
  refine lv_ishr hx hb dL_act_230 ?_
  refine lv_iconst (v := 5) hx hb dL_act_231 (by decide) ?_
  refine q_callSi (As := [.int ((16777218 : Int32) >>> ((12 : Int32) &&& 31)), .int 5]) (rest := [.int 1, .int (((0 + 1) + 0) - ((0 + 1) + 0) / (2 + 0) * (2 + 0)), .int 0, .ref (a 0)]) (ret := 1) ⟨hx, hb, hml, hown, hts⟩ (c_L_low l dC dI H.size ((16777218 : Int32) >>> ((12 : Int32) &&& 31)) 5 1 (by decide +kernel) (by decide +kernel)) (va_cwS 2 hts gL_act_L_low rfl rfl rfl (by decide +kernel) ⟨(Nat.le_of_ble_eq_true rfl), (Nat.le_of_ble_eq_true rfl)⟩) hK hP hD hS hA [0, 1, 2, 3, 4, 5, 6, 7, 8, 9, 10, 11, 12, 13, 14, 15, 16, 17, 18, 19] rfl rfl rfl hl.1 (Nat.le_of_ble_eq_true rfl) (Nat.le_of_ble_eq_true rfl) (Nat.le_of_ble_eq_true rfl) rfl dL_act_232 (fun H locs hP hD hS => ?_)
  refine lv_iadd hx hb dL_act_235 ?_
  refine lv_iload_n hx hb dL_act_236 rfl (lv_at hl 3 rfl) ?_
  refine lv_if_eq (tgt := 254) hx hb dL_act_237 (by decide) (fun _ => ?_) (fun c9 => absurd (by decide) c9)
  refine lv_iload_n hx hb dL_act_254 rfl (lv_at hl 5 rfl) ?_
  refine lv_bipush (v := 15) hx hb dL_act_255 (by decide) ?_
  refine lv_ishr hx hb dL_act_257 ?_
  refine lv_bipush (v := 12) hx hb dL_act_258 (by decide) ?_
  refine q_callSi (As := [.int ((16777218 : Int32) >>> ((15 : Int32) &&& 31)), .int 12]) (rest := [.int (1 + 1), .int (((0 + 1) + 0) - ((0 + 1) + 0) / (2 + 0) * (2 + 0)), .int 0, .ref (a 0)]) (ret := 8) ⟨hx, hb, hml, hown, hts⟩ (c_L_low l dC dI H.size ((16777218 : Int32) >>> ((15 : Int32) &&& 31)) 12 8 (by decide +kernel) (by decide +kernel)) (va_cwS 2 hts gL_act_L_low rfl rfl rfl (by decide +kernel) ⟨(Nat.le_of_ble_eq_true rfl), (Nat.le_of_ble_eq_true rfl)⟩) hK hP hD hS hA [0, 1, 2, 3, 4, 5, 6, 7, 8, 9, 10, 11, 12, 13, 14, 15, 16, 17, 18, 19] rfl rfl rfl hl.1 (Nat.le_of_ble_eq_true rfl) (Nat.le_of_ble_eq_true rfl) (Nat.le_of_ble_eq_true rfl) rfl dL_act_260 (fun H locs hP hD hS => ?_)
  refine y_callSW (As := [.ref (a 0), .int 0, .int (((0 + 1) + 0) - ((0 + 1) + 0) / (2 + 0) * (2 + 0)), .int (1 + 1), .int 8]) (rest := []) ⟨hx, hb, hml, hown, hts⟩ (⟨F, T, P, C, U, hN⟩ : NN m x f) (l_arc hfl (by decide +kernel) (by decide +kernel) (by decide +kernel) (by decide +kernel) hm) (vx_cwSW 5 hts gL_act_L_arc rfl rfl rfl (by decide +kernel) ⟨(Nat.le_of_ble_eq_true rfl), (Nat.le_of_ble_eq_true rfl)⟩) hXc hK hP hD hS hA rfl hl.1 (Nat.le_of_ble_eq_true rfl) (Nat.le_of_ble_eq_true rfl) (Nat.le_of_ble_eq_true rfl) rfl dL_act_263 (fun r9 k9 x f H locs hN hr9 hP hD hS hz1 => ?_)
  exact y_ret (k := 0) hQ hx hb hr rfl hlocks hN trivial hP hK hD hS hS.1 dL_act_266
end LMS
