/-! rows of my own: a throw, and that the heap has grown by it (the first began as a row of the kit's EXCEPTIONS) -/
section THG
variable {p : Program} {l : Launch} {e : Env} {R : Room} {s : State} {m : MethodId} {args : Array Value} {below : List Frame} {meth : Method} {c : Code} {H : Heap} {locs : List Loc} {cells slots : Nat} {Q : State → Prop}
variable {free : Addr → Prop} {ls : Array Slot} {rest : List Value} {Qc : Array Value → State → Outcome → State → Prop} {XC : String → State → State → Prop}
theorem vx_throw0g {cc : ByteArray} {pc : Nat} (hexec : p.tables.exec = Jvm.exec) (hb : c.code = cc) (hl : l.stackTraces = false) {own cls : String} {names : List String} {ik ic mc ms : Nat} {A : Nat → Prop}
    (hown : s.vm.findClass own = some m.cls) (hcls : Bundle.fit cls = true) (hnames : ∀ n ∈ names, Bundle.fit n = true)
    (hk : (Cond.classLink own ik cls).before args s = true) (hini : (Cond.initialized cls).before args s = true) (hat : ∀ w ∈ vx_at0 own ic cls names, w.before args s = true)
    (hgood : ∀ w ∈ Cond.classLink own ik cls :: Cond.initialized cls :: vx_at0 own ic cls names, vx_ot w = true)
    (hU : vx_Zq Bundle.tN "UNASSIGNED_STACK" Bundle.steD A s s.heap) (hN : vx_Zq Bundle.tN "SUPPRESSED_SENTINEL" Bundle.listD A s s.heap) (hS : va_S A s.heap H locs) (hsize : ls.size = c.maxLocals)
    (d0 : decode cc pc = .ok (.new ik, 3)) (d3 : decode cc (pc + 3) = .ok (.dup, 1)) (d4 : decode cc (pc + 4) = .ok (.invokespecial ic, 3)) (d7 : decode cc (pc + 7) = .ok (.athrow, 1))
    (hout : ∀ x ∈ c.exceptionTable.toList, covers x (pc + 7) = false)
    (hRframes : names.length + 3 < R.frames) (hRlocals : (rest.map fun v => v.category).sum + (13 * (names.length + 1) + 42) ≤ R.locals) (hRcells : cells + 1 ≤ R.cells) (hRslots : slots + 6 ≤ R.slots) (hlocks : meth.locks = false)
    (hx : ∀ t : State, s.vm.Alike t.vm → H.size + 1 ≤ t.heap.size → (∀ q : Nat, q < H.size → t.heap[q]? = H[q]?) → XC cls s t)
    (hf : ∀ z ∈ locs, free z.base) (hc : cells + 1 ≤ mc) (hs : slots + 6 ≤ ms) :
    W p l e R s m args below meth c H locs cells slots (vx_MQ below Qc XC args s mc ms free) (F0 m pc ls rest) := by
  intro T hT X
  have htr : e.platform.stackTraces = false := (show e.platform.stackTraces = l.stackTraces by rw [X.admits.platform]).trans hl
  have Y := vx_rebase X (R' := { frames := R.frames, locals := R.locals, cells := 1, slots := 6 }) (Nat.le_refl _) (Nat.le_refl _) hRcells hRslots
  obtain ⟨s', hA⟩ : ∃ z, z = (T.setVm s.vm).setFrames (.invoking m args :: below) := ⟨_, rfl⟩
  rw [← hA] at Y
  have hvm : s'.vm = s.vm := by rw [hA]; rfl
  have hhp : s'.heap = H := by rw [hA]; exact hT
  have hW0 : s.WarmedH s'.vm := by rw [hvm]; exact State.WarmedH.refl s
  have hat' : ∀ w ∈ vx_at0 own ic cls names, w.before args s' = true := fun w hw => vx_ot_at hW0 hvm.symm (hgood w (List.mem_cons_of_mem _ (List.mem_cons_of_mem _ hw))) (hat w hw)
  have hk' : (Cond.classLink own ik cls).before args s' = true := vx_ot_at hW0 hvm.symm (hgood _ List.mem_cons_self) hk
  have hini' : (Cond.initialized cls).before args s' = true := vx_ot_at hW0 hvm.symm (hgood _ (List.mem_cons_of_mem _ List.mem_cons_self)) hini
  have hU' : vx_Zq Bundle.tN "UNASSIGNED_STACK" Bundle.steD A s' s'.heap := by rw [hhp]; exact vx_Zq.moved hW0.alike (hU.kept hS.2.1)
  have hN' : vx_Zq Bundle.tN "SUPPRESSED_SENTINEL" Bundle.listD A s' s'.heap := by rw [hhp]; exact vx_Zq.moved hW0.alike (hN.kept hS.2.1)
  have h : ∀ w ∈ Bundle.ownAtoms0 own ic cls names, w.before args s' = true := vx_own hat' (vx_isRefq hU'.1) (vx_isRefq hN'.1) hU'.2.word hN'.2.word
  have hown' : s'.vm.findClass own = some m.cls := by rw [hvm]; exact hown
  have hins : (Cond.instantiable cls 6).before args s' = true := h _ (by simp [Bundle.ownAtoms0])
  obtain ⟨vm₁, cX, kX, hfX, hkX, -, -, X₁, st1⟩ := Y.newCold hexec (own := own) (C := cls) (index := ik) (n := 6) hown' hk' hins hini'
    (g := F0 m pc ls rest) rfl (by rw [hb]; exact d0) (Nat.le_refl _) (Nat.le_refl _)
  generalize hT1 : (T.setVm vm₁).pushCell { cls := cX, slots := kX.instanceTypes.map defaultValue, vm := .none } = T1 at X₁ st1
  have hcat : (Value.ref T.heap.size).category = 1 := rfl
  have hcellA : T1.heap[T.heap.size]? = some (freshCell cX kX) := by rw [← hT1]; exact State.heap_pushCell_size _ _
  have d3' : decode c.code (pc + 3) = .ok (.dup, 1) := by rw [hb]; exact d3
  obtain ⟨U, hsteps, hrun, hend, hW, hsame, ce, hce, hO⟩ := X₁.ctorThrow0 hexec htr (own := own) (cls := cls) (names := names) (ic := ic) hown' hcls hnames h (fun x hx => nomatch hx) hfX hkX hcellA (by rw [hhp, hT]; exact Nat.le_refl _)
    (g := { method := m, pc := pc + 4, locals := ls, stack := .ref T.heap.size :: .ref T.heap.size :: rest, locked := none }) rfl hsize rfl rfl (rest := rest) rfl
    (by rw [hb]; exact d4) (by rw [hb]; exact d7) hout hRframes (by simp only [List.map_cons, List.sum_cons, hcat]; omega) hlocks
  obtain ⟨f1, f2⟩ := vx_frame hsame
  rw [hhp] at f1 f2
  have hWs : s.WarmedH U.vm := State.WarmedH.trans hW0 hW
  have hcl : s.vm.findClass cls = some ce.cls := by
    have h9 := hO.cls
    rw [hvm] at h9
    exact h9
  have hall : s.sameButNew ({ U with vm := s.vm } : State) locs mc ms := by
    subst hA
    obtain ⟨e1, e2⟩ := hsame
    rw [State.setFrames_setFrames] at e1
    have h2 : (T.setVm s.vm).sameButNew ({ U with vm := s.vm } : State) [] (0 + 1) (0 + 6) := ⟨e1, e2⟩
    have h3 := X.same.trans h2
    rw [List.append_nil] at h3
    exact h3.mono hc hs
  refine ⟨U, ?_, .threw T.heap.size, hrun, hend, Or.inr ⟨T.heap.size, rfl, cls, ce, locs, hx U hWs.alike (by have h9 := (Array.getElem?_eq_some_iff.mp hce).1; rw [hT] at h9; exact h9) (fun q hq => f2 q hq (fun z hz => nomatch hz)), hce, hO.vm, hcl, hWs, hall, hf⟩⟩
  refine st1 _ ?_
  show Steps p.tables e below (T1.setTop { method := m, pc := pc + 3, locals := ls, stack := .ref T.heap.size :: rest, locked := none }) _
  jvm_step X₁.here [X₁.here.top, hexec, d3', Value.category]
  exact hsteps
end THG
abbrev zXg (D : va_G) (ws : va_W) (tys : List (ClassId × FieldType)) (k sz : Nat) (A : Nat → Prop) : String → State → State → Prop := vx_X (fun (_ : Unit) => True) (fun E _ t => E = zEx k ∧ va_P D vwCl ws t.heap ∧ va_K D vwCl tys t ∧ va_D A ws ∧ sz + 1 ≤ t.heap.size) A
section QXG
variable {p : Program} {l : Launch} {e : Env} {R : Room} {s : State} {m : MethodId} {args : Array Value} {below : List Frame} {meth : Method} {c : Code} {H : Heap} {locs : List Loc} {cells slots : Nat} {Q : State → Prop}
variable {cc : ByteArray} {pc : Nat} {ls : Array Slot} {rest : List Value} {D : va_G} {ws : va_W} {tys : List (ClassId × FieldType)} {a : Nat} {A A0 : Nat → Prop} {H0 : Heap}
variable {Qc : Array Value → State → Outcome → State → Prop} {k : Nat}
theorem q_throwg {own : String} {ik ic : Nat} (hQ : Q = vx_MQ below Qc (zXg D ws tys k s.heap.size A) args s 1 6 A) (hexec : p.tables.exec = Jvm.exec) (hb : c.code = cc) (hl : l.stackTraces = false) (hlocks : meth.locks = false) (hown : s.vm.findClass own = some m.cls)
    (hcls : Bundle.fit (zEx k) = true) (hk : (Cond.classLink own ik (zEx k)).before args s = true) (hini : (Cond.initialized (zEx k)).before args s = true) (hat1 : ∀ w ∈ (vx_at0 own ic (zEx k) zNm).filter goodWord, w.before args s = true)
    (hat2 : ∀ w ∈ (vx_at0 own ic (zEx k) zNm).filter (fun w => !goodWord w), w ∈ zBw) (hgood : ∀ w ∈ Cond.classLink own ik (zEx k) :: Cond.initialized (zEx k) :: vx_at0 own ic (zEx k) zNm, vx_ot w = true)
    (hXc : zXc A s s.heap) (hout : ∀ x ∈ c.exceptionTable.toList, False) (hK : va_K D vwCl tys s) (hP : va_P D vwCl ws H) (hD : va_D A ws) (hS : va_S A s.heap H locs) (hsize : ls.size = c.maxLocals)
    (hRf : 5 < R.frames) (hRl : (rest.map fun v => v.category).sum + 81 ≤ R.locals) (hRc : cells + 1 ≤ R.cells) (hRs : slots + 6 ≤ R.slots) (hc : cells + 1 ≤ 1) (hs : slots + 6 ≤ 6)
    (d0 : decode cc pc = .ok (.new ik, 3)) (d3 : decode cc (pc + 3) = .ok (.dup, 1)) (d4 : decode cc (pc + 4) = .ok (.invokespecial ic, 3)) (d7 : decode cc (pc + 7) = .ok (.athrow, 1)) : W p l e R s m args below meth c H locs cells slots Q (F0 m pc ls rest) := by
  subst hQ
  exact vx_throw0g hexec hb hl (names := zNm) hown hcls (by decide +kernel) hk hini (vx_hat hat1 hat2 (fun w hw => va_any (zMv_ot (zBw_mv w hw)) (hXc.1 w hw))) hgood hXc.2.2.1 hXc.2.2.2 hS hsize d0 d3 d4 d7 (fun x hx => (hout x hx).elim) hRf hRl hRc hRs hlocks
    (fun t hvm hz hk1 => ⟨(), trivial, ⟨rfl, va_P_kept hP hk1, va_K.moved hvm hK, hD, Nat.le_trans (Nat.succ_le_succ hS.1) hz⟩, Nat.le_trans hS.1 (Nat.le_of_succ_le hz), fun q h1 h2 => by rw [hk1 q (Nat.lt_of_lt_of_le h1 hS.1)]; exact hS.2.1 q h1 h2⟩) hS.2.2 hc hs
end QXG
theorem q_ofXg {l : Launch} {y : MethodName} {ws ws' : List Cond} {rm : Room} {cc : ByteArray} {maxL : Nat} {rt : Option FieldType} {av : List Value} {D : va_G} {W0 : va_W} {tys : List (ClassId × FieldType)} {sz k : Nat} {Qc : Array Value → State → Outcome → State → Prop}
    (hy : plainName y.cls = true) (hw : ws = Cond.code y cc maxL rt :: ws') (hn : (lg_sl av).length ≤ maxL)
    (body : ∀ (p : Program) (e : Env) (s : State) (m : MethodId) (args : Array Value) (below : List Frame) (meth : Method) (c : Code) (ls : Array Slot) (A : Nat → Prop) (Q : State → Prop) (H : Heap) (locs : List Loc), Q = vx_MQ below Qc (zXg D W0 tys k s.heap.size A) args s 1 6 A → p.tables.exec = Jvm.exec → c.code = cc → meth.sig.returnType = rt → (∀ w ∈ ws, w.before args s = true) → s.vm.findClass y.cls = some m.cls → meth.locks = false → c.maxLocals = maxL → (∀ q, s.heap.size ≤ q → A q) → va_K D vwCl tys s → va_P D vwCl W0 H → va_D A W0 → va_S A s.heap H locs → lv_has ls maxL (lv_args 0 av) → (∀ x ∈ c.exceptionTable.toList, False) → zXc A s s.heap → W p l e rm s m args below meth c H locs 0 0 Q (F0 m 0 ls [])) :
    vx_Met l y ws rm (va_Pc av (zPreX D W0 tys sz)) Qc (zXg D W0 tys k sz (va_A W0 sz)) 1 6 (va_A W0 sz) := by
  refine vx_ofW hy hw ?_
  intro p e s m args below meth c s₁ B hml hout hv
  obtain ⟨rfl, ⟨hsz, hP, hK, hD0⟩, hXc⟩ := hv
  subst hsz
  rw [lg_entry_eq]
  exact body p e s m _ below meth c _ _ _ _ _ rfl B.exec B.bytes B.returns (atoms_spec (ws := ws) B.pre) (findClass_of_methodNamed B.named) B.notSynchronized hml (fun q h => Or.inr h) hK hP (hD0.self (sz := s.heap.size)) va_S.rf (lv_entry av hn) hout hXc

set_option maxHeartbeats 4000000 in
set_option maxRecDepth 100000 in
theorem cx_X4_priceg (l : Launch) (hfl : l.stackTraces = false) (dC : Nat → ClassId) (dI : Nat → Nat → Nat) (cyI cyZ : ClassId) (ob nw aF aT aP aC aU cf aO aL aH aD aB uc aUT aUD aUB dr aDT aDW : Nat) (sz : Nat) (xS xT xA nN nA dFo dPa dLa : Int32) (nF nT nP nC nU cO cL cH cD cB uT uD uB dT dW : Nat → Int32) (p0 p1 : Int32) (k : Nat) (hr0 : pX4_refuseOtherThanArc nA p0 = some (.inr ())) (h : pX4_price nA nC nU p0 p1 = some (.inl k)) : vx_Met l yX4_price wsX4_price { frames := 7, cells := 1, slots := 6, locals := 102 } (va_Pc [.ref ob, .int p0, .int p1] (zPreX (dC, dI) (wX4 cyI cyZ ob nw aF aT aP aC aU cf aO aL aH aD aB uc aUT aUD aUB dr aDT aDW xS xT xA nN nA dFo dPa dLa nF nT nP nC nU cO cL cH cD cB uT uD uB dT dW) [(cyI, .int), (cyZ, .boolean)] sz)) (zNi (va_A (wX4 cyI cyZ ob nw aF aT aP aC aU cf aO aL aH aD aB uc aUT aUD aUB dr aDT aDW xS xT xA nN nA dFo dPa dLa nF nT nP nC nU cO cL cH cD cB uT uD uB dT dW) sz)) (zXg (dC, dI) (wX4 cyI cyZ ob nw aF aT aP aC aU cf aO aL aH aD aB uc aUT aUD aUB dr aDT aDW xS xT xA nN nA dFo dPa dLa nF nT nP nC nU cO cL cH cD cB uT uD uB dT dW) [(cyI, .int), (cyZ, .boolean)] k sz (va_A (wX4 cyI cyZ ob nw aF aT aP aC aU cf aO aL aH aD aB uc aUT aUD aUB dr aDT aDW xS xT xA nN nA dFo dPa dLa nF nT nP nC nU cO cL cH cD cB uT uD uB dT dW) sz)) 1 6 (va_A (wX4 cyI cyZ ob nw aF aT aP aC aU cf aO aL aH aD aB uc aUT aUD aUB dr aDT aDW xS xT xA nN nA dFo dPa dLa nF nT nP nC nU cO cL cH cD cB uT uD uB dT dW) sz) := by
  refine q_ofXg (cc := cX4_price) (maxL := 3) (rt := (some .int)) (by decide) rfl (Nat.le_of_ble_eq_true rfl) ?_
  intro p e s m args below meth c ls A Q H locs hQ hx hb hr hts hown hlocks hml hA hK hP hD hS hl hout hXc
  have hl : lv_has ls 3 [(0, .ref ob), (1, .int p0), (2, .int p1)] := hl
  have k0 := hts (.classLink RX4 101 (zEx 1)) (by decide +kernel)
  have k1 := hts (.initialized (zEx 1)) (by decide +kernel)
  have k2 : ∀ w ∈ (vx_at0 RX4 103 (zEx 1) zNm).filter goodWord, w.before args s = true := fun w hw => hts w ((show ∀ w ∈ (vx_at0 RX4 103 (zEx 1) zNm).filter goodWord, w ∈ wsX4_price by decide +kernel) w hw)
  have k3 := hts (.fieldLink RX4 33 "ConvexConduit" "network" "LConvexConduit$Network;") (by decide +kernel)
  have k4 : ∀ w ∈ u_ws RX4 TX4 7, w ∈ wsX4_price := by decide +kernel
  have k5 := hts (.fieldLink RX4 95 "ConvexConduit$Network" "capacity" "[I") (by decide +kernel)
  have k6 : ∀ w ∈ u_ws RX2 TX2 7, w ∈ wsX4_price := by decide +kernel
  unfold pX4_price at h
  refine lv_aload_n hx hb dX4_price_0 rfl (lv_at hl 0 rfl) ?_
  refine lv_iload_n hx hb dX4_price_1 rfl (lv_at hl 1 rfl) ?_
  rcases bdxl h with e9 | ⟨_, e9, h⟩
  · rw [hr0] at e9
    cases e9
  · refine q_callVv (As := [.int p0]) (w1 := wX4 cyI cyZ ob nw aF aT aP aC aU cf aO aL aH aD aB uc aUT aUD aUB dr aDT aDW xS xT xA nN nA dFo dPa dLa nF nT nP nC nU cO cL cH cD cB uT uD uB dT dW) (ws2 := wX4 cyI cyZ ob nw aF aT aP aC aU cf aO aL aH aD aB uc aUT aUD aUB dr aDT aDW xS xT xA nN nA dFo dPa dLa nF nT nP nC nU cO cL cH cD cB uT uD uB dT dW) ⟨hx, hb, hml, hown, hts⟩ (c_X4_refuseOtherThanArc l dC dI cyI cyZ ob nw aF aT aP aC aU cf aO aL aH aD aB uc aUT aUD aUB dr aDT aDW H.size xS xT xA nN nA dFo dPa dLa nF nT nP nC nU cO cL cH cD cB uT uD uB dT dW p0 _ e9) (cwV 1 hts gX4_price_X4_refuseOtherThanArc rfl rfl rfl (by decide +kernel) ⟨Nat.le_of_ble_eq_true rfl, Nat.le_of_ble_eq_true rfl⟩) hK hP hD hS hA [0, 1, 2, 3, 4, 5, 6, 7, 8, 9, 10, 11, 12, 13, 14, 15, 16, 17, 18, 19] [] [0, 1, 2, 3, 4, 5, 6, 7, 8, 9, 10, 11, 12, 13, 14, 15, 16, 17, 18, 19] [0, 1] rfl rfl rfl rfl (by decide) rfl rfl rfl 4 0 rfl rfl rfl hl.1 (Nat.le_of_ble_eq_true rfl) (Nat.le_of_ble_eq_true rfl) (Nat.le_of_ble_eq_true rfl) rfl dX4_price_2 (fun H locs hP hD hS => ?_)
    refine lv_iload_n hx hb dX4_price_5 rfl (lv_at hl 2 rfl) ?_
    refine lv_iconst (v := 1) hx hb dX4_price_6 (by decide) ?_
    refine lv_icmp_lt (tgt := 23) hx hb dX4_price_7 (by decide) (fun c9 => ?_) (fun c9 => ?_)
    · have h := ipos c9 h
      cases h
      exact q_throwg hQ hx hb hfl hlocks hown (by decide +kernel) k0 k1 k2 (by decide +kernel) (by decide +kernel) hXc hout hK hP hD hS (hl.1.trans hml.symm) (Nat.le_of_ble_eq_true rfl) (Nat.le_of_ble_eq_true rfl) (Nat.le_of_ble_eq_true rfl) (Nat.le_of_ble_eq_true rfl) (Nat.le_of_ble_eq_true rfl) (Nat.le_of_ble_eq_true rfl) dX4_price_23 dX4_price_26 dX4_price_27 dX4_price_30
    · have h := ineg c9 h
      refine lv_iload_n hx hb dX4_price_10 rfl (lv_at hl 2 rfl) ?_
      refine lv_aload_n hx hb dX4_price_11 rfl (lv_at hl 0 rfl) ?_
      refine va_get (D := (dC, dI)) (ci := 4) (v := .ref nw) (C := RX4) (T := TX4) (N := 7) hx hb hts k4 hown hK hP 0 rfl rfl 0 (by decide) k3 (fun _ h9 => h9) rfl dX4_price_12 ?_
      refine va_get (D := (dC, dI)) (ci := 2) (v := .ref aC) (C := RX2) (T := TX2) (N := 7) hx hb hts k6 hown hK hP 1 rfl rfl 5 (by decide) k5 (fun _ h9 => h9) rfl dX4_price_15 ?_
      refine lv_iload_n hx hb dX4_price_18 rfl (lv_at hl 1 rfl) ?_
      obtain ⟨t1, e9, h⟩ := bd h
      refine q_iald hx hb hK hP 5 0 rfl rfl e9 dX4_price_19 ?_
      refine lv_icmp_le (tgt := 31) hx hb dX4_price_20 (by decide) (fun c9 => ?_) (fun c9 => ?_)
      · have h := ipos c9 h
        exact rgtl h
      · have h := ineg c9 h
        cases h
        exact q_throwg hQ hx hb hfl hlocks hown (by decide +kernel) k0 k1 k2 (by decide +kernel) (by decide +kernel) hXc hout hK hP hD hS (hl.1.trans hml.symm) (Nat.le_of_ble_eq_true rfl) (Nat.le_of_ble_eq_true rfl) (Nat.le_of_ble_eq_true rfl) (Nat.le_of_ble_eq_true rfl) (Nat.le_of_ble_eq_true rfl) (Nat.le_of_ble_eq_true rfl) dX4_price_23 dX4_price_26 dX4_price_27 dX4_price_30
/-! methods with a table, that return; calls of them -/
theorem met_ofWH {l : Launch} {y : MethodName} {ws ws' : List Cond} {rm : Room} {Pc : Array Value → State → Prop} {Qc : Array Value → State → Outcome → State → Prop} {mc ms : Nat} {free : Addr → Prop} {cc : ByteArray} {maxL : Nat} {ret : Option FieldType} {hh : List (Nat × Nat × Nat × Nat)}
    (hy : plainName y.cls = true) (hw : ws = Cond.codeWith y cc maxL ret hh :: ws')
    (body : ∀ p e s m args below meth c s₁, BodyLoose p l y (headSpec ws rm) cc maxL ret e s m args below meth c s₁ → c.maxLocals = maxL → Pc args s →
      W p l e (headSpec ws rm).room s m args below meth c s.heap [] 0 0 (MQ below Qc args s mc ms free) (entryFrame m args maxL)) : Met l y ws rm Pc Qc mc ms free := by
  refine MetFree.of_bodyS (code := cc) (maxLocals := maxL) (ret := ret) hy ?_ ?_
  · intro args s m h hn
    obtain ⟨m9, meth, c, hn9, h1, h2, h3, h4, -, h5, h6, -⟩ := Cond.codeWith_spec (atoms_spec (ws := ws) h _ (by rw [hw]; exact List.mem_cons_self))
    cases hn.symm.trans hn9
    exact ⟨meth, c, h1, h2, h3, h4, h5, h6⟩
  · intro p e s m args below meth c s₁ B hml hP _
    have hh0 : s₁.heap = s.heap := by rw [B.state]; rfl
    obtain ⟨t, a1, o, b1, b2, b3⟩ := body p e s m args below meth c s₁ B hml hP s₁ hh0 (Stand.of_body B)
    exact ⟨t, o, a1, b1, b2, ⟨b3.1, b3.2⟩⟩
theorem zNi_no (A1 : Nat → Prop) : ∀ a st oc t, zNi A1 a st oc t → False := fun _ _ _ _ h => by
  obtain ⟨⟨_, _, _, h, _⟩, _⟩ := h
  exact h
theorem zNv_no (A1 : Nat → Prop) : ∀ a st oc t, zNv A1 a st oc t → False := fun _ _ _ _ h => by
  obtain ⟨⟨_, _, h, _⟩, _⟩ := h
  exact h
section QL
variable {p : Program} {l : Launch} {e : Env} {R : Room} {s : State} {m : MethodId} {args : Array Value} {below : List Frame} {meth : Method} {c : Code} {H : Heap} {locs : List Loc} {cells slots : Nat} {Q : State → Prop}
variable {cc : ByteArray} {pc : Nat} {ls : Array Slot} {rest : List Value} {D : va_G} {ws : va_W} {tys : List (ClassId × FieldType)} {a : Nat} {A A0 : Nat → Prop} {H0 : Heap}
variable {y : MethodName} {bytes : ByteArray} {maxL nL n index : Nat} {rt : Option FieldType} {hh : List (Nat × Nat × Nat × Nat)} {wsY : List Cond} {rm : Room} {Ts : List Cond} {own C : String} {b : Nat} {As : List Value} {wc w1 ws2 : va_W} {tysc : List (ClassId × FieldType)} {ret : Int32} {st : List Value} {k : Nat} {Qc : Array Value → State → Outcome → State → Prop}
theorem q_callCg (S : CallFix p m c cc nL s args Ts own) (hM : vx_Met l y wsY rm (va_Pc (.ref b :: As) (zPreX D wc tysc H.size)) Qc (zXg D wc tysc k H.size (va_A wc H.size)) 1 6 (va_A wc H.size)) (hQc : ∀ a st oc t, Qc a st oc t → False)
    (cw : CallW R s args own C index y bytes maxL rt wsY rm 1 6 n) (hXc : zXc A s s.heap) (pre suf : List ExceptionTableEntry) (x : ExceptionTableEntry) (htab : c.exceptionTable.toList = pre ++ x :: suf) (hpass : ∀ z ∈ pre, z.catchType ≠ 0 ∧ ∃ nm : String, (Cond.classLink own z.catchType nm).before args s = true ∧ va_Nc (zEx k) nm s)
    (hcov : covers x pc = true) (hct : x.catchType ≠ 0) (hlink : (Cond.classLink own x.catchType (zEx k)).before args s = true) (hcast : Cond.castable (zEx k) (zEx k) ∈ zBw)
    (hK : va_K D vwCl tys s) (hP : va_P D vwCl ws H) (hD : va_D A ws) (hS : va_S A s.heap H locs) (hA : ∀ q, s.heap.size ≤ q → A q)
    (isC isR isP isT : List Nat) (hC : isC.map (fun i => ws[i]?) = wc.map some) (hnC : va_nd isC = true) (hR : isR.map (fun i => ws[i]?) = (isR.filterMap (fun i => ws[i]?)).map some) (hnR : va_nd isR = true) (hdis : ∀ i ∈ isR, i ∉ isC)
    (hp : isP.map (fun i => (isR.filterMap (fun i => ws[i]?) ++ wc)[i]?) = ws.map some) (hnP : va_nd isP = true) (hT : isT.filterMap (fun i => tys[i]?) = tysc)
    (ci q0 : Nat) {T : u_T} {N : Nat} {fs : List Value} (hcl : vwCl[ci]? = some (C, T, N)) (hrec : wc[q0]? = some (b, .inr (ci, fs)))
    (hn : As.length = n) (hsize : ls.size = nL) (hW : (rest.map fun v => v.category).sum ≤ 8) (hfc : cells + 1 ≤ R.cells) (hfs : slots + 6 ≤ R.slots) (hst : st = As.reverse ++ .ref b :: rest) (hdg : decode cc pc = .ok (.invokevirtual index, 3))
    (kk : ∀ (q : Nat) (H1 : Heap) (locs1 : List Loc), va_P D vwCl ws H1 → va_D A ws → va_S A s.heap H1 locs1 → H.size + 1 ≤ H1.size → W p l e R s m args below meth c H1 locs1 (cells + 1) (slots + 6) Q (F0 m x.handlerPc ls [.ref q])) : W p l e R s m args below meth c H locs cells slots Q (F0 m pc ls st) := by
  have hPc : va_P D vwCl wc H := hP.sub isC (fm_of_map hC)
  have hDc : va_D A wc := hD.sub isC hnC hC
  have hKc := hK.sub isT hT
  have hFc := va_free (wc := wc) hD hS hA isC hC
  have hXH : zXc (va_A wc H.size) s H := zXc_narrow (zXc_kept hXc hS.2.1) hFc
  have hr := vx_runV (e := e) (below := below) (meth := meth) (locs := locs) S hM cw ⟨zBlindX, va_recv hKc hPc hcl hrec, fun U hU hW => ⟨rfl, ⟨by rw [hU], by rw [hU]; exact hPc, va_K.moved hW.alike hKc, hDc.weaken (fun _ _ _ _ => trivial)⟩, by rw [hU]; exact zXc_moved hW.alike hXH⟩⟩ (g := F0 m pc ls st) rfl hn hsize hst (lv_room hW) hdg ⟨hfc, hfs⟩
  intro T0 hT0 X
  rcases hr T0 hT0 X with ⟨v, st₀, t, T', L, h0, X', hL, e1, e2, hq, st1⟩ | ⟨q, st₀, t, T', L, E, ce, h0, X', hL, e1, e2, ⟨u, hpx, ⟨hE, hP1, hK1, hD1, hz9⟩, hF⟩, hce, hcv, hcl1, st1⟩
  · exact (hQc _ _ _ _ hq).elim
  · obtain ⟨k1, k2, k3⟩ := vx_keep h0 e1 hS (fun q _ h => hFc q h) hFc hL hF
    have hP1' : va_P D vwCl wc T'.heap := by rw [e1]; exact hP1
    obtain ⟨hP2, hD2⟩ := va_join hP hD isC isR hC hR hnR hdis k2 hFc hP1' hD1
    subst hE
    have hv := vx_catch (Q := Q) (ls := ls) (rest := rest) (pc := pc) (q := q) (H := T'.heap) (locs := locs ++ L) (cells := cells + 1) (slots := slots + 6) S.2.2.2.1 pre x suf htab (fun z hz => Or.inr (hpass z hz)) hcov hct hlink (va_any (zMv_ot (zBw_mv _ hcast)) (hXc.1 _ hcast)) (by rw [e1]; exact hce) hcv hcl1
      (kk q T'.heap (locs ++ L) (hP2.sub isP (fm_of_map hp)) (hD2.sub isP hnP hp) k3 (by rw [e1]; exact hz9))
    obtain ⟨t2, a1, b1⟩ := hv T' rfl X'
    exact ⟨t2, st1.trans a1, b1⟩
theorem q_callC (S : CallFix p m c cc nL s args Ts own) (hM : vx_Met l y wsY rm (va_Pc (.ref b :: As) (zPreX D wc tysc H.size)) Qc (zX D wc tysc k (va_A wc H.size)) 1 6 (va_A wc H.size)) (hQc : ∀ a st oc t, Qc a st oc t → False)
    (cw : CallW R s args own C index y bytes maxL rt wsY rm 1 6 n) (hXc : zXc A s s.heap) (pre suf : List ExceptionTableEntry) (x : ExceptionTableEntry) (htab : c.exceptionTable.toList = pre ++ x :: suf) (hpass : ∀ z ∈ pre, z.catchType ≠ 0 ∧ ∃ nm : String, (Cond.classLink own z.catchType nm).before args s = true ∧ va_Nc (zEx k) nm s)
    (hcov : covers x pc = true) (hct : x.catchType ≠ 0) (hlink : (Cond.classLink own x.catchType (zEx k)).before args s = true) (hcast : Cond.castable (zEx k) (zEx k) ∈ zBw)
    (hK : va_K D vwCl tys s) (hP : va_P D vwCl ws H) (hD : va_D A ws) (hS : va_S A s.heap H locs) (hA : ∀ q, s.heap.size ≤ q → A q)
    (isC isR isP isT : List Nat) (hC : isC.map (fun i => ws[i]?) = wc.map some) (hnC : va_nd isC = true) (hR : isR.map (fun i => ws[i]?) = (isR.filterMap (fun i => ws[i]?)).map some) (hnR : va_nd isR = true) (hdis : ∀ i ∈ isR, i ∉ isC)
    (hp : isP.map (fun i => (isR.filterMap (fun i => ws[i]?) ++ wc)[i]?) = ws.map some) (hnP : va_nd isP = true) (hT : isT.filterMap (fun i => tys[i]?) = tysc)
    (ci q0 : Nat) {T : u_T} {N : Nat} {fs : List Value} (hcl : vwCl[ci]? = some (C, T, N)) (hrec : wc[q0]? = some (b, .inr (ci, fs)))
    (hn : As.length = n) (hsize : ls.size = nL) (hW : (rest.map fun v => v.category).sum ≤ 8) (hfc : cells + 1 ≤ R.cells) (hfs : slots + 6 ≤ R.slots) (hst : st = As.reverse ++ .ref b :: rest) (hdg : decode cc pc = .ok (.invokevirtual index, 3))
    (kk : ∀ (q : Nat) (H1 : Heap) (locs1 : List Loc), va_P D vwCl ws H1 → va_D A ws → va_S A s.heap H1 locs1 → W p l e R s m args below meth c H1 locs1 (cells + 1) (slots + 6) Q (F0 m x.handlerPc ls [.ref q])) : W p l e R s m args below meth c H locs cells slots Q (F0 m pc ls st) := by
  have hPc : va_P D vwCl wc H := hP.sub isC (fm_of_map hC)
  have hDc : va_D A wc := hD.sub isC hnC hC
  have hKc := hK.sub isT hT
  have hFc := va_free (wc := wc) hD hS hA isC hC
  have hXH : zXc (va_A wc H.size) s H := zXc_narrow (zXc_kept hXc hS.2.1) hFc
  have hr := vx_runV (e := e) (below := below) (meth := meth) (locs := locs) S hM cw ⟨zBlindX, va_recv hKc hPc hcl hrec, fun U hU hW => ⟨rfl, ⟨by rw [hU], by rw [hU]; exact hPc, va_K.moved hW.alike hKc, hDc.weaken (fun _ _ _ _ => trivial)⟩, by rw [hU]; exact zXc_moved hW.alike hXH⟩⟩ (g := F0 m pc ls st) rfl hn hsize hst (lv_room hW) hdg ⟨hfc, hfs⟩
  intro T0 hT0 X
  rcases hr T0 hT0 X with ⟨v, st₀, t, T', L, h0, X', hL, e1, e2, hq, st1⟩ | ⟨q, st₀, t, T', L, E, ce, h0, X', hL, e1, e2, ⟨u, hpx, ⟨hE, hP1, hK1, hD1⟩, hF⟩, hce, hcv, hcl1, st1⟩
  · exact (hQc _ _ _ _ hq).elim
  · obtain ⟨k1, k2, k3⟩ := vx_keep h0 e1 hS (fun q _ h => hFc q h) hFc hL hF
    have hP1' : va_P D vwCl wc T'.heap := by rw [e1]; exact hP1
    obtain ⟨hP2, hD2⟩ := va_join hP hD isC isR hC hR hnR hdis k2 hFc hP1' hD1
    subst hE
    have hv := vx_catch (Q := Q) (ls := ls) (rest := rest) (pc := pc) (q := q) (H := T'.heap) (locs := locs ++ L) (cells := cells + 1) (slots := slots + 6) S.2.2.2.1 pre x suf htab (fun z hz => Or.inr (hpass z hz)) hcov hct hlink (va_any (zMv_ot (zBw_mv _ hcast)) (hXc.1 _ hcast)) (by rw [e1]; exact hce) hcv hcl1
      (kk q T'.heap (locs ++ L) (hP2.sub isP (fm_of_map hp)) (hD2.sub isP hnP hp) k3)
    obtain ⟨t2, a1, b1⟩ := hv T' rfl X'
    exact ⟨t2, st1.trans a1, b1⟩
end QL
theorem cast_in : ∀ k : Nat, (k = 1 ∨ k = 2 ∨ k = 3) → Cond.castable (zEx k) (zEx k) ∈ zBw := by
  intro k hk
  rcases hk with rfl | rfl | rfl <;> decide +kernel
theorem pass0 {P : ExceptionTableEntry → Prop} : ∀ z ∈ ([] : List ExceptionTableEntry), P z := fun z hz => nomatch hz
theorem pass1 {P : ExceptionTableEntry → Prop} {a : ExceptionTableEntry} (ha : P a) : ∀ z ∈ [a], P z := by
  intro z hz
  rw [List.mem_singleton.mp hz]
  exact ha
theorem pass2 {P : ExceptionTableEntry → Prop} {a b : ExceptionTableEntry} (ha : P a) (hb : P b) : ∀ z ∈ [a, b], P z := by
  intro z hz
  rcases List.mem_cons.mp hz with h | h
  · rw [h]
    exact ha
  · rw [List.mem_singleton.mp h]
    exact hb
