/-! rows of my own: the start; and behind it the skeleton of the kit -/
/-! THE CLAIM OUT OF ONE WALK OF THE LAW'S BODY. Your part is whole_start (and what it stands on); all else here is the same for every law, but numbers. -/
def R_law : String := "ConvexConduitLaw"
def lw_P (b : Addr) (xs : List Int32) (args : Array Value) (s : State) : Prop := args = #[.ref b] ∧ s.IntsAt b xs ∧ xs.length ≤ 2561 ∧ (Jvm.Cond.and given_1 narrow_1).before args s = true
def lw_Q (_ : Array Value) (s : State) (o : Outcome) (t : State) : Prop := o = .returned (some (.int 1)) ∧ Framed s o t [] 1066 8968
def lw_Z (below : List Frame) (a : Array Value) (s : State) : State → Prop := fun t => ∃ o, t.status = .running ∧ Ended t below o ∧ lw_Q a s o t
/-- the law's own end, with 1 on the stack, nothing written that was there before, its room as the claim has it -/
theorem lw_ret {p : Program} {l : Launch} {e : Env} {s : State} {m : MethodId} {below : List Frame} {meth : Method} {c : Code} {b : Nat} (hx : p.tables.exec = Jvm.exec) (hb : c.code = code) (hr : meth.sig.returnType = ret) (hlocks : meth.locks = false) {pc : Nat} {H : Heap} {ls : Array Slot} (hdg : decode code pc = .ok (.ireturn, 1)) : W p l e room_1 s m #[Value.ref b] below meth c H [] 1066 8968 (lw_Z below #[Value.ref b] s) (F0 m pc ls [.int 1]) := by
  intro T hT X
  obtain ⟨fs, hret, hrun, hended, hW, hframe⟩ := X.leave (v := some (.int 1)) (hlocks := hlocks) (fun h => by rw [hr] at h; cases h)
  have hmeth' : T.vm.method? m = some meth := X.method'
  refine ⟨T.setFrames fs, ?_, .returned (some (.int 1)), hrun, hended, rfl, ⟨_, rfl⟩, hW, hframe⟩
  jvm_step X.here [X.here.top, hx, hb, hdg, hmeth', hr, ret, narrow_b1]
  (try refine ⟨rfl, ?_⟩); (try refine ⟨rfl, ?_⟩)
  first | (intro acts; rw [hret _ acts rfl rfl rfl]) | rw [hret _ _ rfl rfl rfl]
  exact Steps.refl _
/-- what holds at the law's entry: the machine, the code, the tables' words (any of lw_tbl by 'hts w (by decide +kernel)'), the script of L ints xs at the cell b, what the Statement gives of the start (any of its parts by flat_of_before) -/
def lw_At (p : Program) (s : State) (m : MethodId) (meth : Method) (c : Code) (b L : Nat) (xs : Nat → Int32) : Prop :=
  p.tables.exec = Jvm.exec ∧ c.code = code ∧ meth.sig.returnType = ret ∧ c.maxLocals = 7 ∧ s.vm.findClass R_law = some m.cls ∧ (∀ w ∈ lw_tbl, w.before #[Value.ref b] s = true) ∧ va_X b L xs s s.heap ∧ b < s.heap.size ∧ meth.locks = false ∧ (Jvm.Cond.and given_1 narrow_1).before #[Value.ref b] s = true
set_option maxHeartbeats 4000000 in
set_option maxRecDepth 100000 in
/-- YOUR PART: from the entry, for every script of at most 2561 ints, the law comes to its end with true ('hflags': the launch's flags, for a law that throws: no stack traces) -/
theorem whole_start {p : Program} {e : Env} {s : State} {m : MethodId} {below : List Frame} {meth : Method} {c : Code} (l : Launch) (hflags : l.flags = flags0) {b L : Nat} {xs : Nat → Int32} (hL : L ≤ 2561) (C0 : lw_At p s m meth c b L xs) : W p l e room_1 s m #[Value.ref b] below meth c s.heap [] 0 0 (lw_Z below #[Value.ref b] s) (entryFrame m ([Value.ref b] : List Value).toArray 7) := by
  obtain ⟨hx, hb, hr, hml, hown0, hts0, hX, hbl, hlocks, hgv⟩ := id C0
  have hown : s.vm.findClass RL = some m.cls := hown0
  have hts : ∀ w ∈ wsL_law, w.before #[Value.ref b] s = true := fun w hw => hts0 w (lw_inL w hw)
  have hfl : l.stackTraces = false := by
    unfold Launch.stackTraces
    rw [hflags]
    decide +kernel
  have hA : ∀ q : Nat, s.heap.size ≤ q → (fun q : Nat => s.heap.size ≤ q) q := fun _ h => h
  have hbA : ¬ (fun q : Nat => s.heap.size ≤ q) b := Nat.not_le.mpr hbl
  have hZ : ∀ a : Nat, a < s.heap.size → ¬ (fun q : Nat => s.heap.size ≤ q) a := fun a h => Nat.not_le.mpr h
  have hs := flat_of_before _ hgv
  have hXc : zXc (fun q : Nat => s.heap.size ≤ q) s s.heap := ⟨fun w hw => va_any (zMv_ot (zBw_mv w hw)) (hts0 w (zBw_in w hw)), ⟨va_Nc.of (hs (.not (.castable (zEx 2) (zEx 1))) (by decide +kernel)), va_Nc.of (hs (.not (.castable (zEx 3) (zEx 1))) (by decide +kernel)), va_Nc.of (hs (.not (.castable (zEx 3) (zEx 2))) (by decide +kernel))⟩, vx_Zqof (hts0 (.laysStatic Bundle.tN "UNASSIGNED_STACK" Bundle.steD) (by decide +kernel)) (hts0 (.initialized Bundle.tN) (by decide +kernel)) (hs (.isRef (.static Bundle.tN "UNASSIGNED_STACK" Bundle.steD)) (by decide +kernel)) hZ, vx_Zqof (hts0 (.laysStatic Bundle.tN "SUPPRESSED_SENTINEL" Bundle.listD) (by decide +kernel)) (hts0 (.initialized Bundle.tN) (by decide +kernel)) (hs (.isRef (.static Bundle.tN "SUPPRESSED_SENTINEL" Bundle.listD)) (by decide +kernel)) hZ⟩
  have w0 : ∀ w ∈ u_ws RX0 TX0 6, w ∈ wsL_law := by decide +kernel
  obtain ⟨c0, i0, hKn0⟩ := u_known (C := RX0) (T := TX0) (N := 6) (n := 6) hts w0 (hts (.instantiable RX0 6) (by decide +kernel))
  have w1 : ∀ w ∈ u_ws RX1 TX1 6, w ∈ wsL_law := by decide +kernel
  obtain ⟨c1, i1, hKn1⟩ := u_known (C := RX1) (T := TX1) (N := 6) (n := 6) hts w1 (hts (.instantiable RX1 6) (by decide +kernel))
  have w2 : ∀ w ∈ u_ws RX2 TX2 7, w ∈ wsL_law := by decide +kernel
  obtain ⟨c2, i2, hKn2⟩ := u_known (C := RX2) (T := TX2) (N := 7) (n := 7) hts w2 (hts (.instantiable RX2 7) (by decide +kernel))
  have w3 : ∀ w ∈ u_ws RX3 TX3 4, w ∈ wsL_law := by decide +kernel
  obtain ⟨c3, i3, hKn3⟩ := u_known (C := RX3) (T := TX3) (N := 4) (n := 4) hts w3 (hts (.instantiable RX3 4) (by decide +kernel))
  have w4 : ∀ w ∈ u_ws RX4 TX4 7, w ∈ wsL_law := by decide +kernel
  obtain ⟨c4, i4, hKn4⟩ := u_known (C := RX4) (T := TX4) (N := 7) (n := 7) hts w4 (hts (.instantiable RX4 7) (by decide +kernel))
  have w5 : ∀ w ∈ u_ws RX5 TX5 21, w ∈ wsL_law := by decide +kernel
  obtain ⟨c5, i5, hKn5⟩ := u_known (C := RX5) (T := TX5) (N := 21) (n := 21) hts w5 (hts (.instantiable RX5 21) (by decide +kernel))
  obtain ⟨dC, dI, hKc⟩ : ∃ (dC : Nat → ClassId) (dI : Nat → Nat → Nat), ∀ (k : Nat) (q : vw_C), vwCl[k]? = some q → u_Kn s q.1 q.2.1 q.2.2 (dC k) (dI k) := by
    refine ⟨fun k => if k = 0 then c0 else if k = 1 then c1 else if k = 2 then c2 else if k = 3 then c3 else if k = 4 then c4 else c5, fun k => if k = 0 then i0 else if k = 1 then i1 else if k = 2 then i2 else if k = 3 then i3 else if k = 4 then i4 else i5, ?_⟩
    intro k q hq
    match k, hq with
    | 0, hq => cases hq; exact hKn0
    | 1, hq => cases hq; exact hKn1
    | 2, hq => cases hq; exact hKn2
    | 3, hq => cases hq; exact hKn3
    | 4, hq => cases hq; exact hKn4
    | 5, hq => cases hq; exact hKn5
    | k + 6, hq => simp [vwCl] at hq
  have hS : va_S (fun q : Nat => s.heap.size ≤ q) s.heap s.heap [] := va_S.rf
  have hK : va_K (dC, dI) vwCl [] s := ⟨hKc, fun k q h => by simp at h⟩
  have hP : va_P (dC, dI) vwCl [] s.heap := fun k q h => by simp at h
  have hD : va_D (fun q : Nat => s.heap.size ≤ q) [] := ⟨fun i j p q h => by simp at h, fun k q h => by simp at h⟩
  have hl := lv_entry ([.ref b]) (n := 7) (Nat.le_of_ble_eq_true rfl)
  rw [lg_entry_eq]
  generalize (lg_sl ([.ref b]) ++ List.replicate (7 - (lg_sl ([.ref b])).length) Slot.unset).toArray = ls at hl ⊢
  have hl : lv_has ls 7 [(0, .ref b)] := hl
  refine va_new (ci := 4) (fs := [.null, .null, .null, .null, .int 0, .int 0, .int 0]) (C := RX4) (T := TX4) (N := 7) hx hb hts w4 tyX4 tyX4_ok hown (hts (.classLink RL 8 RX4) (by decide +kernel)) (hts (.instantiable RX4 7) (by decide +kernel)) (hts (.initialized RX4) (by decide +kernel)) hK hP hD hS hA rfl (fun j hj => by rcases (show j = 0 ∨ j = 1 ∨ j = 2 ∨ j = 3 ∨ j = 4 ∨ j = 5 ∨ j = 6 by omega) with rfl | rfl | rfl | rfl | rfl | rfl | rfl <;> rfl) (Nat.le_of_ble_eq_true rfl) (Nat.le_of_ble_eq_true rfl) dL_law_0 (fun ob H hP hD hS => ?_)
  have hP : va_P (dC, dI) vwCl ([(ob, .inr (4, [.null, .null, .null, .null, .int 0, .int 0, .int 0]))]) H := hP
  have hD : va_D (fun q : Nat => s.heap.size ≤ q) ([(ob, .inr (4, [.null, .null, .null, .null, .int 0, .int 0, .int 0]))]) := hD
  refine lv_dup hx hb dL_law_3 rfl ?_
  refine lv_aload_n hx hb dL_law_4 rfl (lv_at hl 0 rfl) ?_
  refine lv_iconst (v := 0) hx hb dL_law_5 (by decide) ?_
  refine q_callCell ⟨hx, hb, hml, hown, hts⟩ (c_L_cell l b L xs hL H.size) (va_cwS 2 hts gL_law_L_cell rfl rfl rfl (by decide +kernel) ⟨(Nat.le_of_ble_eq_true rfl), (Nat.le_of_ble_eq_true rfl)⟩) hX hbl hbA hP hD hS hA hl.1 (Nat.le_of_ble_eq_true rfl) (Nat.le_of_ble_eq_true rfl) (Nat.le_of_ble_eq_true rfl) dL_law_6 (fun H locs hP hS => ?_)
  refine q_callI (As := [.int (cl0 L xs)]) (rest := [.ref ob]) ⟨hx, hb, hml, hown, hts⟩ (c_X4_init l dC dI ob H.size (cl0 L xs)) (cwI 1 hts gL_law_X4_init rfl rfl rfl (hts (.initialized RX4) (by decide +kernel)) (hts (.methodLink RL 56 yX4_init) (by decide +kernel)) (hts (.instanceMethod yX4_init) (by decide +kernel)) rfl (by decide +kernel) ⟨(Nat.le_of_ble_eq_true rfl), (Nat.le_of_ble_eq_true rfl)⟩) hK hP hD hS hA [0] [] [] rfl rfl rfl rfl (by decide) rfl rfl hl.1 (Nat.le_of_ble_eq_true rfl) (Nat.le_of_ble_eq_true rfl) (Nat.le_of_ble_eq_true rfl) rfl dL_law_9 (fun u H locs hP hD hK hS => ?_)
  obtain ⟨nw, aF, aT, aP, aC, aU, cf, aO, aL, aH, aD, aB, uc, aUT, aUD, aUB, dr, aDT, aDW, cyI, cyZ⟩ := u
  have hP : va_P (dC, dI) vwCl (wX4 cyI cyZ ob nw aF aT aP aC aU cf aO aL aH aD aB uc aUT aUD aUB dr aDT aDW 0 1 0 (if (2 : Int32) < (if cl0 L xs < 8 then cl0 L xs else 8) then (if cl0 L xs < 8 then cl0 L xs else 8) else 2) 0 0 0 (-1) (fun _ => 0) (fun _ => 0) (fun _ => 0) (fun _ => 0) (fun _ => 0) (fun _ => 0) (fun _ => 0) (fun _ => 0) (fun _ => 0) (fun _ => 0) (fun _ => 0) (fun _ => 0) (fun _ => 0) (fun _ => 0) (fun _ => 0)) H := hP
  have hD : va_D (fun q : Nat => s.heap.size ≤ q) (wX4 cyI cyZ ob nw aF aT aP aC aU cf aO aL aH aD aB uc aUT aUD aUB dr aDT aDW 0 1 0 (if (2 : Int32) < (if cl0 L xs < 8 then cl0 L xs else 8) then (if cl0 L xs < 8 then cl0 L xs else 8) else 2) 0 0 0 (-1) (fun _ => 0) (fun _ => 0) (fun _ => 0) (fun _ => 0) (fun _ => 0) (fun _ => 0) (fun _ => 0) (fun _ => 0) (fun _ => 0) (fun _ => 0) (fun _ => 0) (fun _ => 0) (fun _ => 0) (fun _ => 0) (fun _ => 0)) := hD
  have hK : va_K (dC, dI) vwCl [(cyI, .int), (cyZ, .boolean)] s := hK
  refine lv_astore_n (lv' := [(1, .ref ob), (0, .ref b)]) hx hb dL_law_12 rfl hl (by decide) rfl (fun ls hl => ?_)
  refine va_new (ci := 5) (fs := [.int 0, .int 0, .int 0, .null, .null, .null, .null, .null, .int 0, .int 0, .int 0, .null, .null, .null, .null, .null, .null, .null, .int 0, .int 0, .int 0]) (C := RX5) (T := TX5) (N := 21) hx hb hts w5 tyX5 tyX5_ok hown (hts (.classLink RL 59 RX5) (by decide +kernel)) (hts (.instantiable RX5 21) (by decide +kernel)) (hts (.initialized RX5) (by decide +kernel)) hK hP hD hS hA rfl (fun j hj => by rcases (show j = 0 ∨ j = 1 ∨ j = 2 ∨ j = 3 ∨ j = 4 ∨ j = 5 ∨ j = 6 ∨ j = 7 ∨ j = 8 ∨ j = 9 ∨ j = 10 ∨ j = 11 ∨ j = 12 ∨ j = 13 ∨ j = 14 ∨ j = 15 ∨ j = 16 ∨ j = 17 ∨ j = 18 ∨ j = 19 ∨ j = 20 by omega) with rfl | rfl | rfl | rfl | rfl | rfl | rfl | rfl | rfl | rfl | rfl | rfl | rfl | rfl | rfl | rfl | rfl | rfl | rfl | rfl | rfl <;> rfl) (Nat.le_of_ble_eq_true rfl) (Nat.le_of_ble_eq_true rfl) dL_law_13 (fun mo H hP hD hS => ?_)
  have hP : va_P (dC, dI) vwCl (wX4 cyI cyZ ob nw aF aT aP aC aU cf aO aL aH aD aB uc aUT aUD aUB dr aDT aDW 0 1 0 (if (2 : Int32) < (if cl0 L xs < 8 then cl0 L xs else 8) then (if cl0 L xs < 8 then cl0 L xs else 8) else 2) 0 0 0 (-1) (fun _ => 0) (fun _ => 0) (fun _ => 0) (fun _ => 0) (fun _ => 0) (fun _ => 0) (fun _ => 0) (fun _ => 0) (fun _ => 0) (fun _ => 0) (fun _ => 0) (fun _ => 0) (fun _ => 0) (fun _ => 0) (fun _ => 0) ++ [(mo, .inr (5, [.int 0, .int 0, .int 0, .null, .null, .null, .null, .null, .int 0, .int 0, .int 0, .null, .null, .null, .null, .null, .null, .null, .int 0, .int 0, .int 0]))]) H := hP
  have hD : va_D (fun q : Nat => s.heap.size ≤ q) (wX4 cyI cyZ ob nw aF aT aP aC aU cf aO aL aH aD aB uc aUT aUD aUB dr aDT aDW 0 1 0 (if (2 : Int32) < (if cl0 L xs < 8 then cl0 L xs else 8) then (if cl0 L xs < 8 then cl0 L xs else 8) else 2) 0 0 0 (-1) (fun _ => 0) (fun _ => 0) (fun _ => 0) (fun _ => 0) (fun _ => 0) (fun _ => 0) (fun _ => 0) (fun _ => 0) (fun _ => 0) (fun _ => 0) (fun _ => 0) (fun _ => 0) (fun _ => 0) (fun _ => 0) (fun _ => 0) ++ [(mo, .inr (5, [.int 0, .int 0, .int 0, .null, .null, .null, .null, .null, .int 0, .int 0, .int 0, .null, .null, .null, .null, .null, .null, .null, .int 0, .int 0, .int 0]))]) := hD
  refine lv_dup hx hb dL_law_16 rfl ?_
  refine lv_aload_n hx hb dL_law_17 rfl (lv_at hl 1 rfl) ?_
  refine lv_iconst (v := 0) hx hb dL_law_18 (by decide) ?_
  refine q_callCell ⟨hx, hb, hml, hown, hts⟩ (c_L_cell l b L xs hL H.size) (va_cwS 2 hts gL_law_L_cell rfl rfl rfl (by decide +kernel) ⟨(Nat.le_of_ble_eq_true rfl), (Nat.le_of_ble_eq_true rfl)⟩) hX hbl hbA hP hD hS hA hl.1 (Nat.le_of_ble_eq_true rfl) (Nat.le_of_ble_eq_true rfl) (Nat.le_of_ble_eq_true rfl) dL_law_19 (fun H locs hP hS => ?_)
  refine q_callI (As := [.int (cl0 L xs)]) (rest := [.ref mo]) ⟨hx, hb, hml, hown, hts⟩ (c_X5_init l dC dI mo H.size (cl0 L xs)) (cwI 1 hts gL_law_X5_init rfl rfl rfl (hts (.initialized RX5) (by decide +kernel)) (hts (.methodLink RL 61 yX5_init) (by decide +kernel)) (hts (.instanceMethod yX5_init) (by decide +kernel)) rfl (by decide +kernel) ⟨(Nat.le_of_ble_eq_true rfl), (Nat.le_of_ble_eq_true rfl)⟩) hK hP hD hS hA [20] [0, 1, 2, 3, 4, 5, 6, 7, 8, 9, 10, 11, 12, 13, 14, 15, 16, 17, 18, 19] [] rfl rfl rfl rfl (by decide) rfl rfl hl.1 (Nat.le_of_ble_eq_true rfl) (Nat.le_of_ble_eq_true rfl) (Nat.le_of_ble_eq_true rfl) rfl dL_law_22 (fun u H locs hP hD hK hS => ?_)
  obtain ⟨aMF, aMT, aMW, aMU, aMP, aML, aMM, aMO, aMR, aMD, aMB, aMK, cyI2⟩ := u
  have hK : va_K (dC, dI) vwCl [(cyI, .int), (cyZ, .boolean), (cyI2, .int)] s := hK
  have ec : cyI = cyI2 := zcls hK 2 0 rfl rfl
  subst ec
  have hP : va_P (dC, dI) vwCl (wX4 cyI cyZ ob nw aF aT aP aC aU cf aO aL aH aD aB uc aUT aUD aUB dr aDT aDW 0 1 0 (if (2 : Int32) < (if cl0 L xs < 8 then cl0 L xs else 8) then (if cl0 L xs < 8 then cl0 L xs else 8) else 2) 0 0 0 (-1) (fun _ => 0) (fun _ => 0) (fun _ => 0) (fun _ => 0) (fun _ => 0) (fun _ => 0) (fun _ => 0) (fun _ => 0) (fun _ => 0) (fun _ => 0) (fun _ => 0) (fun _ => 0) (fun _ => 0) (fun _ => 0) (fun _ => 0) ++ wX5 cyI mo aMF aMT aMW aMU aMP aML aMM aMO aMR aMD aMB aMK 0 (if cl0 L xs < 2 then 2 else if cl0 L xs ≤ 8 then cl0 L xs else 8) 0 0 1 0 0 0 0 (fun _ => 0) (fun _ => 0) (fun _ => 0) (fun _ => 0) (fun _ => 0) (fun _ => 0) (fun _ => 0) (fun _ => 0) (fun _ => 0) (fun _ => 0) (fun _ => 0) (fun _ => 0)) H := hP
  have hD : va_D (fun q : Nat => s.heap.size ≤ q) (wX4 cyI cyZ ob nw aF aT aP aC aU cf aO aL aH aD aB uc aUT aUD aUB dr aDT aDW 0 1 0 (if (2 : Int32) < (if cl0 L xs < 8 then cl0 L xs else 8) then (if cl0 L xs < 8 then cl0 L xs else 8) else 2) 0 0 0 (-1) (fun _ => 0) (fun _ => 0) (fun _ => 0) (fun _ => 0) (fun _ => 0) (fun _ => 0) (fun _ => 0) (fun _ => 0) (fun _ => 0) (fun _ => 0) (fun _ => 0) (fun _ => 0) (fun _ => 0) (fun _ => 0) (fun _ => 0) ++ wX5 cyI mo aMF aMT aMW aMU aMP aML aMM aMO aMR aMD aMB aMK 0 (if cl0 L xs < 2 then 2 else if cl0 L xs ≤ 8 then cl0 L xs else 8) 0 0 1 0 0 0 0 (fun _ => 0) (fun _ => 0) (fun _ => 0) (fun _ => 0) (fun _ => 0) (fun _ => 0) (fun _ => 0) (fun _ => 0) (fun _ => 0) (fun _ => 0) (fun _ => 0) (fun _ => 0)) := hD
  refine lv_astore_n (lv' := [(2, .ref mo), (1, .ref ob), (0, .ref b)]) hx hb dL_law_25 rfl hl (by decide) rfl (fun ls hl => ?_)
  refine lv_iconst (v := 1) hx hb dL_law_26 (by decide) ?_
  refine va_newa (atype := .long) (ty := .long) (a0 := (1, .inr (.inl (fun _ => 0)))) (N' := 1) hx hb (hts (.arrayClass .long) (by decide +kernel)) rfl hK hP hD hS hA (fun _ => rfl) (by decide) (by decide) (Nat.le_of_ble_eq_true rfl) (Nat.le_of_ble_eq_true rfl) (Nat.le_of_ble_eq_true rfl) dL_law_27 (fun ot cyJ H hK hP hD hS => ?_)
  obtain ⟨nn, hn2, hn8, e4, e5⟩ := nn_is (cl0 L xs)
  have hP : va_P (dC, dI) vwCl (wL cyI cyZ cyJ ob nw aF aT aP aC aU cf aO aL aH aD aB uc aUT aUD aUB dr aDT aDW mo aMF aMT aMW aMU aMP aML aMM aMO aMR aMD aMB aMK ot 0 1 0 (if (2 : Int32) < (if cl0 L xs < 8 then cl0 L xs else 8) then (if cl0 L xs < 8 then cl0 L xs else 8) else 2) 0 0 0 (-1) (fun _ => 0) (fun _ => 0) (fun _ => 0) (fun _ => 0) (fun _ => 0) (fun _ => 0) (fun _ => 0) (fun _ => 0) (fun _ => 0) (fun _ => 0) (fun _ => 0) (fun _ => 0) (fun _ => 0) (fun _ => 0) (fun _ => 0) 0 (if cl0 L xs < 2 then 2 else if cl0 L xs ≤ 8 then cl0 L xs else 8) 0 0 1 0 0 0 0 (fun _ => 0) (fun _ => 0) (fun _ => 0) (fun _ => 0) (fun _ => 0) (fun _ => 0) (fun _ => 0) (fun _ => 0) (fun _ => 0) (fun _ => 0) (fun _ => 0) (fun _ => 0) (fun _ => 0)) H := hP
  have hD : va_D (fun q : Nat => s.heap.size ≤ q) (wL cyI cyZ cyJ ob nw aF aT aP aC aU cf aO aL aH aD aB uc aUT aUD aUB dr aDT aDW mo aMF aMT aMW aMU aMP aML aMM aMO aMR aMD aMB aMK ot 0 1 0 (if (2 : Int32) < (if cl0 L xs < 8 then cl0 L xs else 8) then (if cl0 L xs < 8 then cl0 L xs else 8) else 2) 0 0 0 (-1) (fun _ => 0) (fun _ => 0) (fun _ => 0) (fun _ => 0) (fun _ => 0) (fun _ => 0) (fun _ => 0) (fun _ => 0) (fun _ => 0) (fun _ => 0) (fun _ => 0) (fun _ => 0) (fun _ => 0) (fun _ => 0) (fun _ => 0) 0 (if cl0 L xs < 2 then 2 else if cl0 L xs ≤ 8 then cl0 L xs else 8) 0 0 1 0 0 0 0 (fun _ => 0) (fun _ => 0) (fun _ => 0) (fun _ => 0) (fun _ => 0) (fun _ => 0) (fun _ => 0) (fun _ => 0) (fun _ => 0) (fun _ => 0) (fun _ => 0) (fun _ => 0) (fun _ => 0)) := hD
  rw [e4, e5] at hP hD
  have hP : va_P (dC, dI) vwCl (wL cyI cyZ cyJ ob nw aF aT aP aC aU cf aO aL aH aD aB uc aUT aUD aUB dr aDT aDW mo aMF aMT aMW aMU aMP aML aMM aMO aMR aMD aMB aMK ot (iI ((0 : Nat) : Int)) (iI ((1 : Nat) : Int)) (iI ((0 : Nat) : Int)) (iI (nn : Int)) (iI ((0 : Nat) : Int)) 0 0 (-1) (iF (fun _ => 0)) (iF (fun _ => 0)) (iF (fun _ => 0)) (iF (fun _ => 0)) (iF (fun _ => 0)) (fun _ => 0) (fun _ => 0) (fun _ => 0) (fun _ => 0) (fun _ => 0) (fun _ => 0) (fun _ => 0) (fun _ => 0) (fun _ => 0) (fun _ => 0) 0 (iI (nn : Int)) (iI ((0 : Nat) : Int)) (iI ((0 : Nat) : Int)) (iI ((1 : Nat) : Int)) (iI ((0 : Nat) : Int)) 0 0 0 (iF (fun _ => 0)) (iF (fun _ => 0)) (iF (fun _ => 0)) (iF (fun _ => 0)) (iF (fun _ => 0)) (fun _ => 0) (fun _ => 0) (fun _ => 0) (fun _ => 0) (fun _ => 0) (fun _ => 0) (fun _ => 0) (fun _ => 0)) H := hP
  have hD : va_D (fun q : Nat => s.heap.size ≤ q) (wL cyI cyZ cyJ ob nw aF aT aP aC aU cf aO aL aH aD aB uc aUT aUD aUB dr aDT aDW mo aMF aMT aMW aMU aMP aML aMM aMO aMR aMD aMB aMK ot (iI ((0 : Nat) : Int)) (iI ((1 : Nat) : Int)) (iI ((0 : Nat) : Int)) (iI (nn : Int)) (iI ((0 : Nat) : Int)) 0 0 (-1) (iF (fun _ => 0)) (iF (fun _ => 0)) (iF (fun _ => 0)) (iF (fun _ => 0)) (iF (fun _ => 0)) (fun _ => 0) (fun _ => 0) (fun _ => 0) (fun _ => 0) (fun _ => 0) (fun _ => 0) (fun _ => 0) (fun _ => 0) (fun _ => 0) (fun _ => 0) 0 (iI (nn : Int)) (iI ((0 : Nat) : Int)) (iI ((0 : Nat) : Int)) (iI ((1 : Nat) : Int)) (iI ((0 : Nat) : Int)) 0 0 0 (iF (fun _ => 0)) (iF (fun _ => 0)) (iF (fun _ => 0)) (iF (fun _ => 0)) (iF (fun _ => 0)) (fun _ => 0) (fun _ => 0) (fun _ => 0) (fun _ => 0) (fun _ => 0) (fun _ => 0) (fun _ => 0) (fun _ => 0)) := hD
  have hK : va_K (dC, dI) vwCl [(cyI, .int), (cyZ, .boolean), (cyJ, .long)] s := hK.sub [0, 1, 3] rfl
  refine lv_astore_n (lv' := [(3, .ref ot), (2, .ref mo), (1, .ref ob), (0, .ref b)]) hx hb dL_law_29 rfl hl (by decide) rfl (fun ls hl => ?_)
  refine lv_iconst (v := iI ((1 : Nat) : Int)) hx hb dL_law_30 rfl ?_
  refine lv_istore (lv' := [(4, .int (iI ((1 : Nat) : Int))), (3, .ref ot), (2, .ref mo), (1, .ref ob), (0, .ref b)]) hx hb dL_law_31 hl (by decide) rfl (fun ls hl => ?_)
  refine W.widen (k := 34 + 0) (n := 728 + 6 * 0) (by decide) (by decide) ?_
  have hI : LI dC dI cyI cyZ cyJ ob nw aF aT aP aC aU cf aO aL aH aD aB uc aUT aUD aUB dr aDT aDW mo aMF aMT aMW aMU aMP aML aMM aMO aMR aMD aMB aMK ot (fun q : Nat => s.heap.size ≤ q) s.heap H locs := ⟨nn, 0, 0, 1, 0, fun _ => 0, fun _ => 0, fun _ => 0, fun _ => 0, fun _ => 0, fun _ => 0, fun _ => 0, 0, 0, -1, 0, 0, 0, 0, fun _ => 0, fun _ => 0, fun _ => 0, fun _ => 0, fun _ => 0, fun _ => 0, fun _ => 0, fun _ => 0, fun _ => 0, fun _ => 0, fun _ => 0, fun _ => 0, fun _ => 0, fun _ => 0, fun _ => 0, fun _ => 0, fun _ => 0, fun _ => 0, sr_zero hn2 hn8, ⟨by omega, by omega, by decide, by decide⟩, hP, hD, hS⟩
  refine k_loop (A0 := (fun q : Nat => s.heap.size ≤ q)) ⟨hx, hb, hml, hown, hts, hfl, hXc, hX, hbl, hbA, hA, hK, hL⟩ (fun H1 locs1 ls1 c1 s1 h1 h2 hS1 => ?_) (L + 1) 1 0 H locs ls rfl (by omega) (by decide) hI hl
  refine va_forget hS1.2.2 ?_
  refine W.widen h1 h2 ?_
  refine lv_iconst (v := 1) hx hb dL_law_865 (by decide) ?_
  exact lw_ret hx hb hr hlocks dL_law_866
