/-! rows of my own: the law, over a room that is wide enough -/
def PreB (b L : Nat) (xs : Nat → Int32) (sz : Nat) : State → Prop := fun U => U.heap.size = sz ∧ va_X b L xs U U.heap ∧ b < sz ∧ (Jvm.Cond.and given_1 narrow_1).before #[Value.ref b] U = true
theorem b_ofW {l : Launch} {b L sz : Nat} {xs : Nat → Int32}
    (body : ∀ (p : Program) (e : Env) (s : State) (m : MethodId) (below : List Frame) (meth : Method) (c : Code) (ls : Array Slot) (A : Nat → Prop) (Q : State → Prop), Q = MQ below (QB s.heap.size) #[Value.ref b] s 2000 20000 A → p.tables.exec = Jvm.exec → c.code = cL_law → meth.sig.returnType = some .boolean → (∀ w ∈ (Jvm.Cond.code x code maxLocals ret :: tables_1), w.before #[Value.ref b] s = true) → s.vm.findClass RL = some m.cls → meth.locks = false → c.maxLocals = 7 → (∀ q, s.heap.size ≤ q → A q) → (∀ q, A q → s.heap.size ≤ q) → va_S A s.heap s.heap [] → va_X b L xs s s.heap → b < s.heap.size → (Jvm.Cond.and given_1 narrow_1).before #[Value.ref b] s = true → lv_has ls 7 [(0, .ref b)] → W p l e rB s m #[Value.ref b] below meth c s.heap [] 0 0 Q (F0 m 0 ls [])) :
    Met l x (Jvm.Cond.code x code maxLocals ret :: tables_1) rB (va_Pc [.ref b] (PreB b L xs sz)) (QB sz) 2000 20000 (va_A [] sz) := by
  refine Met.ofW (cc := code) (maxL := maxLocals) (ret := ret) (by decide) rfl ?_
  intro p e s m args below meth c s₁ B hml hv
  obtain ⟨rfl, hsz, hX, hbl, hgv⟩ := hv
  subst hsz
  rw [lg_entry_eq]
  exact body p e s m below meth c _ (va_A [] s.heap.size) _ rfl B.exec B.bytes B.returns (atoms_spec (ws := Jvm.Cond.code x code maxLocals ret :: tables_1) B.pre) (findClass_of_methodNamed B.named) B.notSynchronized hml (fun q h => Or.inr h) (fun q h => by
    rcases h with ⟨k, e9, h⟩ | h
    · cases h
    · exact h) va_S.rf hX hbl hgv (lv_entry [.ref b] (Nat.le_of_ble_eq_true rfl))
set_option maxHeartbeats 4000000 in
set_option maxRecDepth 100000 in
theorem c_law (l : Launch) (hflags : l.flags = flags0) (b L : Nat) (xs : Nat → Int32) (sz : Nat) (hL1 : 40 ≤ L) (hL2 : L ≤ 260) (hxs : ∀ k, k < 40 → xs k = 16777218) : Met l x (Jvm.Cond.code x code maxLocals ret :: tables_1) rB (va_Pc [.ref b] (PreB b L xs sz)) (QB sz) 2000 20000 (va_A [] sz) := by
  refine b_ofW ?_
  intro p env s mi below meth c ls A Q hQ hx hb hr hts0 hown hlocks hml hA hAl hS hX hbl hgv hl
  have htl : ∀ w ∈ lw_tbl, w.before #[Value.ref b] s = true := k2_hts_sels lw_privs (fun w hw => hts0 w (List.mem_cons_of_mem _ hw)) lw_privs_ok
  have hts : ∀ w ∈ wsL_law, w.before #[Value.ref b] s = true := fun w hw => htl w (lw_inL w hw)
  have hfl : l.stackTraces = false := by
    unfold Launch.stackTraces
    rw [hflags]
    decide +kernel
  have hbA : ¬ A b := fun h => by
    have := hAl b h
    omega
  have hZ : ∀ a : Nat, a < s.heap.size → ¬ A a := fun a ha h => by
    have := hAl a h
    omega
  have hs := flat_of_before _ hgv
  have hXc : zXc A s s.heap := ⟨fun w hw => va_any (zMv_ot (zBw_mv w hw)) (htl w (zBw_in w hw)), ⟨va_Nc.of (hs (.not (.castable (zEx 2) (zEx 1))) (by decide +kernel)), va_Nc.of (hs (.not (.castable (zEx 3) (zEx 1))) (by decide +kernel)), va_Nc.of (hs (.not (.castable (zEx 3) (zEx 2))) (by decide +kernel))⟩, vx_Zqof (htl (.laysStatic Bundle.tN "UNASSIGNED_STACK" Bundle.steD) (by decide +kernel)) (htl (.initialized Bundle.tN) (by decide +kernel)) (hs (.isRef (.static Bundle.tN "UNASSIGNED_STACK" Bundle.steD)) (by decide +kernel)) hZ, vx_Zqof (htl (.laysStatic Bundle.tN "SUPPRESSED_SENTINEL" Bundle.listD) (by decide +kernel)) (htl (.initialized Bundle.tN) (by decide +kernel)) (hs (.isRef (.static Bundle.tN "SUPPRESSED_SENTINEL" Bundle.listD)) (by decide +kernel)) hZ⟩
  have w0 : ∀ w ∈ u_ws RX0 TX0 6, w ∈ wsL_law := by decide +kernel
  obtain ⟨c0, i0, hKn0⟩ := u_known (C := RX0) (T := TX0) (N := 6) (n := 6) hts w0 (hts (.instantiable RX0 6) (by decide +kernel))
  have w1 : ∀ w ∈ u_ws RX1 TX1 6, w ∈ wsL_law := by decide +kernel
  obtain ⟨c1, i1, hKn1⟩ := u_known (C := RX1) (T := TX1) (N := 6) (n := 6) hts w1 (hts (.instantiable RX1 6) (by decide +kernel))
  have w2 : ∀ w ∈ u_ws RX2 TX2 7, w ∈ wsL_law := by decide +kernel
  obtain ⟨c2, i2, hKn2⟩ := u_known (C := RX2) (T := TX2) (N := 7) (n := 7) hts w2 (hts (.instantiable RX2 7) (by decide +kernel))
  have w3 : ∀ w ∈ u_ws RX3 TX3 4, w ∈ wsL_law := by decide +kernel
  obtain ⟨c3, i3, hKn3⟩ := u_known (C := RX3) (T := TX3) (N := 4) (n := 4) hts w3 (hts (.instantiable RX3 4) (by decide +kernel))
  have w4 : ∀ w ∈ u_ws RX4 TX4 7, w ∈ wsL_law := by decide +kernel
  obtain ⟨c4, i4, hKn4⟩ := u_known (C := RX4) (T := TX4) (N := 7) (n := 7) hts w4 (hts (.instantiable RX4 7) (by decide +kernel))
  obtain ⟨dC, dI, hKc⟩ : ∃ (dC : Nat → ClassId) (dI : Nat → Nat → Nat), ∀ (k : Nat) (q : vw_C), vwCl[k]? = some q → u_Kn s q.1 q.2.1 q.2.2 (dC k) (dI k) := by
    refine ⟨fun k => if k = 0 then c0 else if k = 1 then c1 else if k = 2 then c2 else if k = 3 then c3 else c4, fun k => if k = 0 then i0 else if k = 1 then i1 else if k = 2 then i2 else if k = 3 then i3 else i4, ?_⟩
    intro k q hq
    match k, hq with
    | 0, hq => cases hq; exact hKn0
    | 1, hq => cases hq; exact hKn1
    | 2, hq => cases hq; exact hKn2
    | 3, hq => cases hq; exact hKn3
    | 4, hq => cases hq; exact hKn4
    | k + 5, hq => simp [vwCl] at hq
  have hK : va_K (dC, dI) vwCl [] s := ⟨hKc, fun k q h => by simp at h⟩
  have hP : va_P (dC, dI) vwCl [] s.heap := fun k q h => by simp at h
  have hD : va_D A [] := ⟨fun i j p q h => by simp at h, fun k q h => by simp at h⟩
  refine lv_iconst (v := 1) hx hb dL_law_0 (by decide) ?_
  refine lv_aload_n hx hb dL_law_1 rfl (lv_at hl 0 rfl) ?_
  refine lv_iconst (v := iI ((0 : Nat) : Int)) hx hb dL_law_2 rfl ?_
  refine q_callCell (rest := [.int 1]) ⟨hx, hb, hml, hown, hts⟩ (c_L_cell l b L xs 0 (by omega) hL2 s.heap.size) (va_cwS 2 hts gL_law_L_cell rfl rfl rfl (by decide +kernel) ⟨(Nat.le_of_ble_eq_true rfl), (Nat.le_of_ble_eq_true rfl)⟩) hX hbl hbA hP hD hS hA hl.1 (Nat.le_of_ble_eq_true rfl) (Nat.le_of_ble_eq_true rfl) (Nat.le_of_ble_eq_true rfl) rfl dL_law_3 (fun H locs hP hS hz1 => ?_)
  rw [hxs 0 (by decide)]
  refine lv_bipush (v := 6) hx hb dL_law_6 (by decide) ?_
  refine q_callSi (As := [.int 16777218, .int 6]) (rest := [.int 1]) (ret := 0) ⟨hx, hb, hml, hown, hts⟩ (c_L_low l dC dI H.size 16777218 6 0 (by decide +kernel) (by decide +kernel)) (va_cwS 2 hts gL_law_L_low rfl rfl rfl (by decide +kernel) ⟨(Nat.le_of_ble_eq_true rfl), (Nat.le_of_ble_eq_true rfl)⟩) hK hP hD hS hA [] rfl rfl rfl hl.1 (Nat.le_of_ble_eq_true rfl) (Nat.le_of_ble_eq_true rfl) (Nat.le_of_ble_eq_true rfl) rfl dL_law_8 (fun H locs hP hD hS => ?_)
  refine lv_iadd hx hb dL_law_11 ?_
  rw [show (1 : Int32) + 0 = 1 from by decide]
  refine lv_istore_n (lv' := [(1, .int 1), (0, .ref b)]) hx hb dL_law_12 rfl hl (by decide) rfl (fun ls hl => ?_)
  refine va_new (ci := 4) (fs := [.null, .null, .null, .null, .int 0, .int 0, .int 0]) (C := RX4) (T := TX4) (N := 7) hx hb hts w4 tyX4 tyX4_ok hown (hts (.classLink RL 9 RX4) (by decide +kernel)) (hts (.instantiable RX4 7) (by decide +kernel)) (hts (.initialized RX4) (by decide +kernel)) hK hP hD hS hA rfl (fun j hj => by rcases (show j = 0 ∨ j = 1 ∨ j = 2 ∨ j = 3 ∨ j = 4 ∨ j = 5 ∨ j = 6 by omega) with rfl | rfl | rfl | rfl | rfl | rfl | rfl <;> rfl) (Nat.le_of_ble_eq_true rfl) (Nat.le_of_ble_eq_true rfl) dL_law_13 (fun ob H hP hD hS => ?_)
  have hP : va_P (dC, dI) vwCl ([(ob, .inr (4, [.null, .null, .null, .null, .int 0, .int 0, .int 0]))]) H := hP
  have hD : va_D A ([(ob, .inr (4, [.null, .null, .null, .null, .int 0, .int 0, .int 0]))]) := hD
  refine lv_dup hx hb dL_law_16 rfl ?_
  refine lv_iload_n hx hb dL_law_17 rfl (lv_at hl 0 rfl) ?_
  refine q_callI (As := [.int 1]) (rest := [.ref ob]) ⟨hx, hb, hml, hown, hts⟩ (c_X4_init l dC dI ob H.size 1) (cwI 1 hts gL_law_X4_init rfl rfl rfl (hts (.initialized RX4) (by decide +kernel)) (hts (.methodLink RL 101 yX4_init) (by decide +kernel)) (hts (.instanceMethod yX4_init) (by decide +kernel)) rfl (by decide +kernel) ⟨(Nat.le_of_ble_eq_true rfl), (Nat.le_of_ble_eq_true rfl)⟩) hK hP hD hS hA [0] [] [] rfl rfl rfl rfl (by decide) rfl rfl hl.1 (Nat.le_of_ble_eq_true rfl) (Nat.le_of_ble_eq_true rfl) (Nat.le_of_ble_eq_true rfl) rfl dL_law_18 (fun u H locs hP hD hK hS => ?_)
  obtain ⟨nw, aF, aT, aP, aC, aU, cf, aO, aL, aH, aD, aB, uc, aUT, aUD, aUB, dr, aDT, aDW, cyI, cyZ⟩ := u
  have hP : va_P (dC, dI) vwCl (wX4 cyI cyZ ob nw aF aT aP aC aU cf aO aL aH aD aB uc aUT aUD aUB dr aDT aDW 0 1 0 (if (2 : Int32) < (if (1 : Int32) < 8 then (1 : Int32) else 8) then (if (1 : Int32) < 8 then (1 : Int32) else 8) else 2) 0 0 0 (-1) (fun _ => 0) (fun _ => 0) (fun _ => 0) (fun _ => 0) (fun _ => 0) (fun _ => 0) (fun _ => 0) (fun _ => 0) (fun _ => 0) (fun _ => 0) (fun _ => 0) (fun _ => 0) (fun _ => 0) (fun _ => 0) (fun _ => 0)) H := hP
  have hD : va_D A (wX4 cyI cyZ ob nw aF aT aP aC aU cf aO aL aH aD aB uc aUT aUD aUB dr aDT aDW 0 1 0 (if (2 : Int32) < (if (1 : Int32) < 8 then (1 : Int32) else 8) then (if (1 : Int32) < 8 then (1 : Int32) else 8) else 2) 0 0 0 (-1) (fun _ => 0) (fun _ => 0) (fun _ => 0) (fun _ => 0) (fun _ => 0) (fun _ => 0) (fun _ => 0) (fun _ => 0) (fun _ => 0) (fun _ => 0) (fun _ => 0) (fun _ => 0) (fun _ => 0) (fun _ => 0) (fun _ => 0)) := hD
  have hK : va_K (dC, dI) vwCl [(cyI, .int), (cyZ, .boolean)] s := hK
  have hnd : (if (2 : Int32) < (if (1 : Int32) < 8 then (1 : Int32) else 8) then (if (1 : Int32) < 8 then (1 : Int32) else 8) else 2) = 2 := by decide
  rw [hnd] at hP hD
  refine lv_astore_n (lv' := [(2, .ref ob), (1, .int 1), (0, .ref b)]) hx hb dL_law_21 rfl hl (by decide) rfl (fun ls hl => ?_)
  refine va_new (ci := 4) (fs := [.null, .null, .null, .null, .int 0, .int 0, .int 0]) (C := RX4) (T := TX4) (N := 7) hx hb hts w4 tyX4 tyX4_ok hown (hts (.classLink RL 9 RX4) (by decide +kernel)) (hts (.instantiable RX4 7) (by decide +kernel)) (hts (.initialized RX4) (by decide +kernel)) hK hP hD hS hA rfl (fun j hj => by rcases (show j = 0 ∨ j = 1 ∨ j = 2 ∨ j = 3 ∨ j = 4 ∨ j = 5 ∨ j = 6 by omega) with rfl | rfl | rfl | rfl | rfl | rfl | rfl <;> rfl) (Nat.le_of_ble_eq_true rfl) (Nat.le_of_ble_eq_true rfl) dL_law_22 (fun ob2 H hP hD hS => ?_)
  have hP : va_P (dC, dI) vwCl (wX4 cyI cyZ ob nw aF aT aP aC aU cf aO aL aH aD aB uc aUT aUD aUB dr aDT aDW 0 1 0 2 0 0 0 (-1) (fun _ => 0) (fun _ => 0) (fun _ => 0) (fun _ => 0) (fun _ => 0) (fun _ => 0) (fun _ => 0) (fun _ => 0) (fun _ => 0) (fun _ => 0) (fun _ => 0) (fun _ => 0) (fun _ => 0) (fun _ => 0) (fun _ => 0) ++ [(ob2, .inr (4, [.null, .null, .null, .null, .int 0, .int 0, .int 0]))]) H := hP
  have hD : va_D A (wX4 cyI cyZ ob nw aF aT aP aC aU cf aO aL aH aD aB uc aUT aUD aUB dr aDT aDW 0 1 0 2 0 0 0 (-1) (fun _ => 0) (fun _ => 0) (fun _ => 0) (fun _ => 0) (fun _ => 0) (fun _ => 0) (fun _ => 0) (fun _ => 0) (fun _ => 0) (fun _ => 0) (fun _ => 0) (fun _ => 0) (fun _ => 0) (fun _ => 0) (fun _ => 0) ++ [(ob2, .inr (4, [.null, .null, .null, .null, .int 0, .int 0, .int 0]))]) := hD
  refine lv_dup hx hb dL_law_25 rfl ?_
  refine lv_iload_n hx hb dL_law_26 rfl (lv_at hl 1 rfl) ?_
  refine q_callI (As := [.int 1]) (rest := [.ref ob2]) ⟨hx, hb, hml, hown, hts⟩ (c_X4_init l dC dI ob2 H.size 1) (cwI 1 hts gL_law_X4_init rfl rfl rfl (hts (.initialized RX4) (by decide +kernel)) (hts (.methodLink RL 101 yX4_init) (by decide +kernel)) (hts (.instanceMethod yX4_init) (by decide +kernel)) rfl (by decide +kernel) ⟨(Nat.le_of_ble_eq_true rfl), (Nat.le_of_ble_eq_true rfl)⟩) hK hP hD hS hA [20] [0, 1, 2, 3, 4, 5, 6, 7, 8, 9, 10, 11, 12, 13, 14, 15, 16, 17, 18, 19] [] rfl rfl rfl rfl (by decide) rfl rfl hl.1 (Nat.le_of_ble_eq_true rfl) (Nat.le_of_ble_eq_true rfl) (Nat.le_of_ble_eq_true rfl) rfl dL_law_27 (fun u H locs hP hD hK hS => ?_)
  obtain ⟨nw2, aF2, aT2, aP2, aC2, aU2, cf2, aO2, aL2, aH2, aD2, aB2, uc2, aUT2, aUD2, aUB2, dr2, aDT2, aDW2, cyI2, cyZ2⟩ := u
  have hK : va_K (dC, dI) vwCl [(cyI, .int), (cyZ, .boolean), (cyI2, .int), (cyZ2, .boolean)] s := hK
  have ec : cyI = cyI2 := zcls hK 2 0 rfl rfl
  have ez : cyZ = cyZ2 := zclsZ hK 3 1 rfl rfl
  subst ec ez
  have hP : va_P (dC, dI) vwCl (wX4 cyI cyZ ob nw aF aT aP aC aU cf aO aL aH aD aB uc aUT aUD aUB dr aDT aDW 0 1 0 2 0 0 0 (-1) (fun _ => 0) (fun _ => 0) (fun _ => 0) (fun _ => 0) (fun _ => 0) (fun _ => 0) (fun _ => 0) (fun _ => 0) (fun _ => 0) (fun _ => 0) (fun _ => 0) (fun _ => 0) (fun _ => 0) (fun _ => 0) (fun _ => 0) ++ wX4 cyI cyZ ob2 nw2 aF2 aT2 aP2 aC2 aU2 cf2 aO2 aL2 aH2 aD2 aB2 uc2 aUT2 aUD2 aUB2 dr2 aDT2 aDW2 0 1 0 (if (2 : Int32) < (if (1 : Int32) < 8 then (1 : Int32) else 8) then (if (1 : Int32) < 8 then (1 : Int32) else 8) else 2) 0 0 0 (-1) (fun _ => 0) (fun _ => 0) (fun _ => 0) (fun _ => 0) (fun _ => 0) (fun _ => 0) (fun _ => 0) (fun _ => 0) (fun _ => 0) (fun _ => 0) (fun _ => 0) (fun _ => 0) (fun _ => 0) (fun _ => 0) (fun _ => 0)) H := hP
  have hD : va_D A (wX4 cyI cyZ ob nw aF aT aP aC aU cf aO aL aH aD aB uc aUT aUD aUB dr aDT aDW 0 1 0 2 0 0 0 (-1) (fun _ => 0) (fun _ => 0) (fun _ => 0) (fun _ => 0) (fun _ => 0) (fun _ => 0) (fun _ => 0) (fun _ => 0) (fun _ => 0) (fun _ => 0) (fun _ => 0) (fun _ => 0) (fun _ => 0) (fun _ => 0) (fun _ => 0) ++ wX4 cyI cyZ ob2 nw2 aF2 aT2 aP2 aC2 aU2 cf2 aO2 aL2 aH2 aD2 aB2 uc2 aUT2 aUD2 aUB2 dr2 aDT2 aDW2 0 1 0 (if (2 : Int32) < (if (1 : Int32) < 8 then (1 : Int32) else 8) then (if (1 : Int32) < 8 then (1 : Int32) else 8) else 2) 0 0 0 (-1) (fun _ => 0) (fun _ => 0) (fun _ => 0) (fun _ => 0) (fun _ => 0) (fun _ => 0) (fun _ => 0) (fun _ => 0) (fun _ => 0) (fun _ => 0) (fun _ => 0) (fun _ => 0) (fun _ => 0) (fun _ => 0) (fun _ => 0)) := hD
  rw [hnd] at hP hD
  refine lv_astore_n (lv' := [(3, .ref ob2), (2, .ref ob), (1, .int 1), (0, .ref b)]) hx hb dL_law_30 rfl hl (by decide) rfl (fun ls hl => ?_)
  refine lv_iconst (v := iI ((1 : Nat) : Int)) hx hb dL_law_31 rfl ?_
  refine lv_istore (lv' := [(4, .int (iI ((1 : Nat) : Int))), (3, .ref ob2), (2, .ref ob), (1, .int 1), (0, .ref b)]) hx hb dL_law_32 hl (by decide) rfl (fun ls hl => ?_)
  have hK : va_K (dC, dI) vwCl (tyI cyI cyZ) s := hK.sub [0, 1] rfl
  have hP : va_P (dC, dI) vwCl (wo cyI cyZ (fun i => ([ob, nw, aF, aT, aP, aC, aU, cf, aO, aL, aH, aD, aB, uc, aUT, aUD, aUB, dr, aDT, aDW] : List Nat).getD i 0) (tx [0, 1, 0, 2, 0, 0, 0, -1]) (fun _ _ => 0) ++ wo cyI cyZ (fun i => ([ob2, nw2, aF2, aT2, aP2, aC2, aU2, cf2, aO2, aL2, aH2, aD2, aB2, uc2, aUT2, aUD2, aUB2, dr2, aDT2, aDW2] : List Nat).getD i 0) (tx [0, 1, 0, 2, 0, 0, 0, -1]) (fun _ _ => 0)) H := hP
  have hD : va_D A (wo cyI cyZ (fun i => ([ob, nw, aF, aT, aP, aC, aU, cf, aO, aL, aH, aD, aB, uc, aUT, aUD, aUB, dr, aDT, aDW] : List Nat).getD i 0) (tx [0, 1, 0, 2, 0, 0, 0, -1]) (fun _ _ => 0) ++ wo cyI cyZ (fun i => ([ob2, nw2, aF2, aT2, aP2, aC2, aU2, cf2, aO2, aL2, aH2, aD2, aB2, uc2, aUT2, aUD2, aUB2, dr2, aDT2, aDW2] : List Nat).getD i 0) (tx [0, 1, 0, 2, 0, 0, 0, -1]) (fun _ _ => 0)) := hD
  have hz9 : s.heap.size + 40 ≤ H.size := y_pig hP hD hAl hS.1 rfl
  have hN0 : NN 0 (tx [0, 1, 0, 2, 0, 0, 0, -1]) (fun _ _ => 0) := ⟨fun _ => 0, fun _ => 0, fun _ => 0, fun _ => 0, fun _ => 0, ⟨fun _ => 0, fun _ => 0, sr_zero (by decide) (by decide)⟩, rfl, rfl, rfl, rfl, rfl, rfl, rfl, rfl, rfl, rfl⟩
  have hN1 : NN (min (1 - 1) 12) (tx [0, 1, 0, 2, 0, 0, 0, -1]) (fun _ _ => 0) := by
    rw [show min (1 - 1) 12 = 0 by decide]
    exact hN0
  have hz1 : s.heap.size + (40 + gG 1) ≤ H.size := by
    rw [show gG 1 = 0 by decide]
    exact hz9
  refine W.widen (k := 40 + 26 * 1) (n := 1052 + 156 * 1) (Nat.le_of_ble_eq_true rfl) (Nat.le_of_ble_eq_true rfl) ?_
  exact t_loop ⟨hx, hb, hml, hown, hts, hfl, hXc, hX, hbl, hbA, hA, hK, hr, hlocks, hL1, hL2, hxs⟩ hQ 39 1 0 _ _ _ _ _ _ _ rfl (Nat.le_refl 1) hN1 hN0 hz1 hP hD hS hl
