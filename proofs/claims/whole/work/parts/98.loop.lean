/-! rows of my own: the law's loop -/
section LAWL
variable {p : Program} {l : Launch} {e : Env} {s : State} {m : MethodId} {args : Array Value} {below : List Frame} {meth : Method} {c : Code} {H : Heap} {locs : List Loc} {cells slots : Nat} {Q : State → Prop} {ls : Array Slot} {dC : Nat → ClassId} {dI : Nat → Nat → Nat} {cyI cyZ cyJ : ClassId} {ob nw aF aT aP aC aU cf aO aL aH aD aB uc aUT aUD aUB dr aDT aDW mo aMF aMT aMW aMU aMP aML aMM aMO aMR aMD aMB aMK ot : Nat} {A0 : Nat → Prop} {b L : Nat} {xs : Nat → Int32}
theorem LI_S {H0 H1 : Heap} {locs1 : List Loc} (hI : LI dC dI cyI cyZ cyJ ob nw aF aT aP aC aU cf aO aL aH aD aB uc aUT aUD aUB dr aDT aDW mo aMF aMT aMW aMU aMP aML aMM aMO aMR aMD aMB aMK ot A0 H0 H1 locs1) : va_S A0 H0 H1 locs1 := by
  obtain ⟨_, _, _, _, _, _, _, _, _, _, _, _, _, _, _, _, _, _, _, _, _, _, _, _, _, _, _, _, _, _, _, _, _, _, _, _, _, -, -, -, -, hS⟩ := hI
  exact hS
theorem oN (L : Nat) : Int32.ofNat L = iI (L : Int) := Int32.ofInt_eq_ofNat.symm
theorem k_head (hF : LFix p l s m args c dC dI cyI cyZ cyJ A0 b L xs) {i : Nat} (hi : i < 100000) (hI : LI dC dI cyI cyZ cyJ ob nw aF aT aP aC aU cf aO aL aH aD aB uc aUT aUD aUB dr aDT aDW mo aMF aMT aMW aMU aMP aML aMM aMO aMR aMD aMB aMK ot A0 s.heap H locs) (hl : lv_has ls 7 [(4, .int (iI (i : Int))), (3, .ref ot), (2, .ref mo), (1, .ref ob), (0, .ref b)]) (kt : L < i + 5 → W p l e room_1 s m args below meth c H locs cells slots Q (F0 m 865 ls [])) (kf : i + 5 ≤ L → W p l e room_1 s m args below meth c H locs cells slots Q (F0 m 42 ls [])) : W p l e room_1 s m args below meth c H locs cells slots Q (F0 m 33 ls []) := by
  obtain ⟨hx, hb, hml, hown, hts, hfl, hXc, hX, hbl, hbA, hA, hK, hL⟩ := id hF
  have hS := LI_S hI
  refine lv_iload hx hb dL_law_33 (lv_at hl 0 rfl) ?_
  refine lv_aload_n hx hb dL_law_35 rfl (lv_at hl 4 rfl) ?_
  refine va_slen hx hb hX hbl hbA hS dL_law_36 ?_
  refine lv_iconst (v := iI 5) hx hb dL_law_37 rfl ?_
  refine lv_isub hx hb dL_law_38 ?_
  rw [oN, iI_sub]
  refine lv_icmp_gt (tgt := 865) hx hb dL_law_39 (by decide) (fun c9 => kt ?_) (fun c9 => kf ?_)
  · rw [iI_lt (by omega) (by omega) (by omega) (by omega)] at c9
    omega
  · rw [iI_lt (by omega) (by omega) (by omega) (by omega)] at c9
    omega
set_option maxHeartbeats 4000000 in
set_option maxRecDepth 100000 in
theorem k_iter (hF : LFix p l s m args c dC dI cyI cyZ cyJ A0 b L xs) {i : Nat} (hi : i + 5 ≤ L) (hI : LI dC dI cyI cyZ cyJ ob nw aF aT aP aC aU cf aO aL aH aD aB uc aUT aUD aUB dr aDT aDW mo aMF aMT aMW aMU aMP aML aMM aMO aMR aMD aMB aMK ot A0 s.heap H locs) (hl : lv_has ls 7 [(4, .int (iI (i : Int))), (3, .ref ot), (2, .ref mo), (1, .ref ob), (0, .ref b)]) (hfc : cells + 1 ≤ room_1.cells) (hfs : slots + 6 ≤ room_1.slots) (kk : ∀ (H1 : Heap) (locs1 : List Loc) (ls1 : Array Slot), LI dC dI cyI cyZ cyJ ob nw aF aT aP aC aU cf aO aL aH aD aB uc aUT aUD aUB dr aDT aDW mo aMF aMT aMW aMU aMP aML aMM aMO aMR aMD aMB aMK ot A0 s.heap H1 locs1 → lv_has ls1 7 [(4, .int (iI (i : Int))), (3, .ref ot), (2, .ref mo), (1, .ref ob), (0, .ref b)] → W p l e room_1 s m args below meth c H1 locs1 (cells + 1) (slots + 6) Q (F0 m 859 ls1 [])) : W p l e room_1 s m args below meth c H locs cells slots Q (F0 m 42 ls []) := by
  obtain ⟨hx, hb, hml, hown, hts, hfl, hXc, hX, hbl, hbA, hA, hK, hL⟩ := id hF
  have hS := LI_S hI
  refine lv_aload_n hx hb dL_law_42 rfl (lv_at hl 4 rfl) ?_
  refine lv_iload hx hb dL_law_43 (lv_at hl 0 rfl) ?_
  refine va_sld hx hb hX hbl hbA hS (i := iI (i : Int)) ?_ dL_law_45 ?_
  · show ¬ (iI (i : Int) < 0 ∨ L ≤ (iI (i : Int)).toNatClampNeg)
    rw [iI_nat (by omega), zl0, iI_lt (by omega) (by omega) (by omega) (by omega)]
    omega
  refine lv_bipush (v := 31) hx hb dL_law_46 (by decide) ?_
  refine lv_iand hx hb dL_law_48 ?_
  generalize xs (iI (i : Int)).toNatClampNeg &&& (31 : Int32) = z
  by_cases h0 : z.toInt < 0 ∨ 16 < z.toInt
  · refine lv_tableOut (tgt := 859) hx hb dL_law_49 h0 (by decide) ?_
    refine W.widen (k := cells + 1) (n := slots + 6) (Nat.le_add_right _ _) (Nat.le_add_right _ _) ?_
    exact kk _ _ _ hI hl
  · rcases (show z.toInt = 0 ∨ z.toInt = 1 ∨ z.toInt = 2 ∨ z.toInt = 3 ∨ z.toInt = 4 ∨ z.toInt = 5 ∨ z.toInt = 6 ∨ z.toInt = 7 ∨ z.toInt = 8 ∨ z.toInt = 9 ∨ z.toInt = 10 ∨ z.toInt = 11 ∨ z.toInt = 12 ∨ z.toInt = 13 ∨ z.toInt = 14 ∨ z.toInt = 15 ∨ z.toInt = 16 by omega) with h | h | h | h | h | h | h | h | h | h | h | h | h | h | h | h | h
    · refine lv_tableIn (off := 83) (tgt := 132) hx hb dL_law_49 (by omega) (by omega) (by rw [h]; rfl) (by decide) ?_
      exact k_arc hF hi hI hl hfc hfs kk
    · refine lv_tableIn (off := 175) (tgt := 224) hx hb dL_law_49 (by omega) (by omega) (by rw [h]; rfl) (by decide) ?_
      exact k_piece hF hi hI hl hfc hfs kk
    · refine lv_tableIn (off := 255) (tgt := 304) hx hb dL_law_49 (by omega) (by omega) (by rw [h]; rfl) (by decide) ?_
      exact k_demand hF hi hI hl hfc hfs kk
    · refine lv_tableIn (off := 315) (tgt := 364) hx hb dL_law_49 (by omega) (by omega) (by rw [h]; rfl) (by decide) ?_
      exact k_nodes hF hi hI hl hfc hfs kk
    · refine lv_tableIn (off := 328) (tgt := 377) hx hb dL_law_49 (by omega) (by omega) (by rw [h]; rfl) (by decide) ?_
      exact k_arcs hF hi hI hl hfc hfs kk
    · refine lv_tableIn (off := 341) (tgt := 390) hx hb dL_law_49 (by omega) (by omega) (by rw [h]; rfl) (by decide) ?_
      exact k_capacity hF hi hI hl hfc hfs kk
    · refine lv_tableIn (off := 397) (tgt := 446) hx hb dL_law_49 (by omega) (by omega) (by rw [h]; rfl) (by decide) ?_
      exact k_price hF hi hI hl hfc hfs kk
    · refine lv_tableIn (off := 465) (tgt := 514) hx hb dL_law_49 (by omega) (by omega) (by rw [h]; rfl) (by decide) ?_
      exact k_most hF hi hI hl hfc hfs kk
    · refine lv_tableIn (off := 478) (tgt := 527) hx hb dL_law_49 (by omega) (by omega) (by rw [h]; rfl) (by decide) ?_
      exact k_cost hF hi hI hl hfc hfs kk
    · refine lv_tableIn (off := 491) (tgt := 540) hx hb dL_law_49 (by omega) (by omega) (by rw [h]; rfl) (by decide) ?_
      exact k_costByCircles hF hi hI hl hfc hfs kk
    · refine lv_tableIn (off := 504) (tgt := 553) hx hb dL_law_49 (by omega) (by omega) (by rw [h]; rfl) (by decide) ?_
      exact k_more hF hi hI hl hfc hfs kk
    · refine lv_tableIn (off := 560) (tgt := 609) hx hb dL_law_49 (by omega) (by omega) (by rw [h]; rfl) (by decide) ?_
      exact k_flow hF hi hI hl hfc hfs kk
    · refine lv_tableIn (off := 616) (tgt := 665) hx hb dL_law_49 (by omega) (by omega) (by rw [h]; rfl) (by decide) ?_
      exact k_leastOn hF hi hI hl hfc hfs kk
    · refine lv_tableIn (off := 672) (tgt := 721) hx hb dL_law_49 (by omega) (by omega) (by rw [h]; rfl) (by decide) ?_
      exact k_mostOn hF hi hI hl hfc hfs kk
    · refine lv_tableIn (off := 728) (tgt := 777) hx hb dL_law_49 (by omega) (by omega) (by rw [h]; rfl) (by decide) ?_
      exact k_driven hF hi hI hl hfc hfs kk
    · refine lv_tableIn (off := 741) (tgt := 790) hx hb dL_law_49 (by omega) (by omega) (by rw [h]; rfl) (by decide) ?_
      exact k_drivenOn hF hi hI hl hfc hfs kk
    · refine lv_tableIn (off := 797) (tgt := 846) hx hb dL_law_49 (by omega) (by omega) (by rw [h]; rfl) (by decide) ?_
      exact k_lastPaid hF hi hI hl hfc hfs kk
theorem k_loop (hF : LFix p l s m args c dC dI cyI cyZ cyJ A0 b L xs) (hend : ∀ (H1 : Heap) (locs1 : List Loc) (ls1 : Array Slot) (c1 s1 : Nat), c1 ≤ 1066 → s1 ≤ 8968 → va_S A0 s.heap H1 locs1 → W p l e room_1 s m args below meth c H1 locs1 c1 s1 Q (F0 m 865 ls1 [])) : ∀ (M i j : Nat) (H : Heap) (locs : List Loc) (ls : Array Slot), i = 1 + 5 * j → L < i + M → j ≤ 512 → LI dC dI cyI cyZ cyJ ob nw aF aT aP aC aU cf aO aL aH aD aB uc aUT aUD aUB dr aDT aDW mo aMF aMT aMW aMU aMP aML aMM aMO aMR aMD aMB aMK ot A0 s.heap H locs → lv_has ls 7 [(4, .int (iI (i : Int))), (3, .ref ot), (2, .ref mo), (1, .ref ob), (0, .ref b)] → W p l e room_1 s m args below meth c H locs (34 + j) (728 + 6 * j) Q (F0 m 33 ls []) := by
  intro M
  induction M with
  | zero =>
    intro i j H locs ls hij hM hj hI hl
    refine k_head hF (by omega) hI hl (fun _ => ?_) (fun h => ?_)
    · exact hend _ _ _ _ _ (by omega) (by omega) (LI_S hI)
    · omega
  | succ M ih =>
    intro i j H locs ls hij hM hj hI hl
    refine k_head hF (by omega) hI hl (fun _ => ?_) (fun h => ?_)
    · exact hend _ _ _ _ _ (by omega) (by omega) (LI_S hI)
    · have hL : L ≤ 2561 := hF.2.2.2.2.2.2.2.2.2.2.2.2
      refine k_iter hF h hI hl (show 34 + j + 1 ≤ 1066 by omega) (show 728 + 6 * j + 6 ≤ 8968 by omega) (fun H1 locs1 ls1 hI1 hl1 => ?_)
      refine lv_iinc (k := 0) (v := iI ((i + 5 : Nat) : Int)) hF.1 hF.2.1 dL_law_859 hl1 rfl (show iI (i : Int) + iI 5 = _ by rw [iI_add]; rfl) (by decide) rfl (fun ls2 hl2 => ?_)
      refine lv_goto (tgt := 33) hF.1 hF.2.1 dL_law_862 (by decide) ?_
      exact ih (i + 5) (j + 1) H1 locs1 ls2 (by omega) (by omega) (by omega) hI1 hl2
end LAWL
section LAWQ
variable {p : Program} {l : Launch} {e : Env} {R : Room} {s : State} {m : MethodId} {args : Array Value} {below : List Frame} {meth : Method} {c : Code} {H : Heap} {locs : List Loc} {cells slots : Nat} {Q : State → Prop}
variable {cc : ByteArray} {pc : Nat} {ls : Array Slot} {rest : List Value} {D : va_G} {ws : va_W} {A0 : Nat → Prop} {H0 : Heap} {bytes : ByteArray} {maxL nL index : Nat} {rt : Option FieldType} {rm : Room} {Ts : List Cond} {own : String} {bs L : Nat} {xs : Nat → Int32} {st : List Value}
theorem q_callCell (S : CallFix p m c cc nL s args Ts own) (hM : Met l yL_cell wsL_cell rm (va_Pc [.ref bs, .int 0] (zPreC bs L xs H.size)) (va_Qi (fun (r : Int32) (_ : Unit) => r = cl0 L xs) (fun _ _ => True) (va_A [] H.size)) 0 0 (va_A [] H.size))
    (cw : CallB R s args own index yL_cell bytes maxL rt wsL_cell rm 0 0 2 ∧ (Cond.static yL_cell).before args s = true) (hX : va_X bs L xs s H0) (hbl : bs < H0.size) (hbA : ¬ A0 bs) (hP : va_P D vwCl ws H) (hD : va_D A0 ws) (hS : va_S A0 H0 H locs) (hA : ∀ q, H0.size ≤ q → A0 q)
    (hsize : ls.size = nL) (hW : (rest.map fun v => v.category).sum ≤ 8) (hfc : cells ≤ R.cells) (hfs : slots ≤ R.slots) (hdg : decode cc pc = .ok (.invokestatic index, 3))
    (kk : ∀ (H1 : Heap) (locs1 : List Loc), va_P D vwCl ws H1 → va_S A0 H0 H1 locs1 → W p l e R s m args below meth c H1 locs1 cells slots Q (F0 m (pc + 3) ls (.int (cl0 L xs) :: rest))) : W p l e R s m args below meth c H locs cells slots Q (F0 m pc ls (.int 0 :: .ref bs :: rest)) := by
  have hFc := va_free (wc := []) hD hS hA [] rfl
  have hXH : va_X bs L xs s H := hX.kept (hS.2.1 bs hbl hbA)
  have hbH : bs < H.size := Nat.lt_of_lt_of_le hbl hS.1
  refine va_calli (va_runS (As := [.ref bs, .int 0]) S hM cw ⟨zBlindC, fun U hU hW => ⟨rfl, by rw [hU], by rw [hU]; exact va_X.moved hW.alike hXH, hbH⟩⟩ rfl rfl hsize rfl (lv_room hW) hdg ⟨hfc, hfs⟩) hS (fun q _ h => hFc q h) hFc (fun r u t H1 locs1 ht hvm hw hB hz1 hk1 hS1 => ?_)
  have hP2 : va_P D vwCl ws H1 := hP.kept (fun k x hx => hk1 x.1 ((hP k x hx).lt) (by
    rintro (⟨k9, e9, h9⟩ | h9)
    · cases h9
    · exact absurd ((hP k x hx).lt) (Nat.not_lt.mpr h9)))
  have hw : r = cl0 L xs := hw
  rw [hw]
  exact kk H1 locs1 hP2 hS1
end LAWQ
theorem nn_is (p0 : Int32) : ∃ nn : Nat, 2 ≤ nn ∧ nn ≤ 8 ∧ (if (2 : Int32) < (if p0 < 8 then p0 else 8) then (if p0 < 8 then p0 else 8) else 2) = iI (nn : Int) ∧ (if p0 < 2 then 2 else if p0 ≤ 8 then p0 else 8) = iI (nn : Int) := by
  obtain ⟨x, rfl, l0, u0⟩ := i32 p0
  have z2 : (2 : Int32) = iI 2 := rfl
  have z8 : (8 : Int32) = iI 8 := rfl
  rw [z2, z8]
  by_cases h8 : x < 8
  · rw [lt_y h8 (by omega) (by omega)]
    by_cases h2 : 2 < x
    · obtain ⟨nn, rfl⟩ : ∃ nn : Nat, x = nn := ⟨x.toNat, by omega⟩
      exact ⟨nn, by omega, by omega, by rw [lt_y h2 (by omega) (by omega)], by rw [lt_n (by omega) (by omega) (by omega), le_y (by omega) (by omega) (by omega)]⟩
    · refine ⟨2, by omega, by omega, by rw [lt_n (by omega) (by omega) (by omega)]; rfl, ?_⟩
      by_cases h3 : x < 2
      · rw [lt_y h3 (by omega) (by omega)]; rfl
      · have : x = 2 := by omega
        subst this
        rw [lt_n (by omega) (by omega) (by omega), le_y (by omega) (by omega) (by omega)]; rfl
  · rw [lt_n (by omega) (by omega) (by omega), lt_y (by omega) (by omega) (by omega)]
    refine ⟨8, by omega, by omega, rfl, ?_⟩
    rw [lt_n (by omega) (by omega) (by omega)]
    by_cases h3 : x ≤ 8
    · have : x = 8 := by omega
      subst this
      rw [le_y (by omega) (by omega) (by omega)]; rfl
    · rw [le_n (by omega) (by omega) (by omega)]; rfl
