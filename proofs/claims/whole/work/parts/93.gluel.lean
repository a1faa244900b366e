/-! rows of my own: methods with a table, that return; calls of them -/
theorem met_ofWH {l : Launch} {y : MethodName} {ws ws' : List Cond} {rm : Room} {Pc : Array Value → State → Prop} {Qc : Array Value → State → Outcome → State → Prop} {mc ms : Nat} {free : Addr → Prop} {cc : ByteArray} {maxL : Nat} {ret : Option FieldType} {hh : List (Nat × Nat × Nat × Nat)}
    (hy : plainName y.cls = true) (hw : ws = Cond.codeWith y cc maxL ret hh :: ws')
    (body : ∀ p e s m args below meth c s₁, BodyLoose p l y (headSpec ws rm) cc maxL ret e s m args below meth c s₁ → c.maxLocals = maxL → Pc args s →
      W p l e (headSpec ws rm).room s m args below meth c s.heap [] 0 0 (MQ below Qc args s mc ms free) (entryFrame m args maxL)) : Met l y ws rm Pc Qc mc ms free := by
  refine MetFree.of_bodyS (code := cc) (maxLocals := maxL) (ret := ret) hy ?_ ?_
  · intro args s m h hn
    obtain ⟨m9, meth, c, hn9, h1, h2, h3, h4, -, h5, h6, -⟩ := Cond.codeWith_spec (atoms_spec (ws := ws) h _ (by rw [hw]; exact List.mem_cons_self))
    cases hn.symm.trans hn9
    exact ⟨meth, c, h1, h2, h3, h4, h5, h6⟩
  · intro p e s m args below meth c s₁ B hml hP _
    have hh0 : s₁.heap = s.heap := by rw [B.state]; rfl
    obtain ⟨t, a1, o, b1, b2, b3⟩ := body p e s m args below meth c s₁ B hml hP s₁ hh0 (Stand.of_body B)
    exact ⟨t, o, a1, b1, b2, ⟨b3.1, b3.2⟩⟩
section QH
variable {l : Launch} {y : MethodName} {ws ws' : List Cond} {rm : Room} {cc : ByteArray} {maxL : Nat} {rt : Option FieldType} {hh : List (Nat × Nat × Nat × Nat)} {av : List Value} {D : va_G} {W0 w1 : va_W} {tys : List (ClassId × FieldType)} {sz : Nat} {ret : Int32}
theorem q_ofWH (hy : plainName y.cls = true) (hw : ws = Cond.codeWith y cc maxL rt hh :: ws') (hn : (lg_sl av).length ≤ maxL)
    (body : ∀ (p : Program) (e : Env) (s : State) (m : MethodId) (args : Array Value) (below : List Frame) (meth : Method) (c : Code) (ls : Array Slot) (A : Nat → Prop) (Q : State → Prop) (H : Heap) (locs : List Loc), Q = MQ below (zQi D w1 tys ret A) args s 0 0 A → p.tables.exec = Jvm.exec → c.code = cc → meth.sig.returnType = rt → (∀ w ∈ ws, w.before args s = true) → s.vm.findClass y.cls = some m.cls → meth.locks = false → c.maxLocals = maxL → (∀ q, s.heap.size ≤ q → A q) → va_K D vwCl tys s → va_P D vwCl W0 H → va_D A W0 → va_S A s.heap H locs → lv_has ls maxL (lv_args 0 av) → W p l e rm s m args below meth c H locs 0 0 Q (F0 m 0 ls [])) :
    Met l y ws rm (va_Pc av (zPre D W0 tys sz)) (zQi D w1 tys ret (va_A W0 sz)) 0 0 (va_A W0 sz) := by
  refine met_ofWH hy hw ?_
  intro p e s m args below meth c s₁ B hml hv
  obtain ⟨rfl, hsz, hP, hK, hD0⟩ := hv
  subst hsz
  rw [lg_entry_eq]
  exact body p e s m _ below meth c _ _ _ _ _ rfl B.exec B.bytes B.returns (atoms_spec (ws := ws) B.pre) (findClass_of_methodNamed B.named) B.notSynchronized hml (fun q h => Or.inr h) hK hP (hD0.self (sz := s.heap.size)) va_S.rf (lv_entry av hn)
theorem q_ofWHX (hy : plainName y.cls = true) (hw : ws = Cond.codeWith y cc maxL rt hh :: ws') (hn : (lg_sl av).length ≤ maxL)
    (body : ∀ (p : Program) (e : Env) (s : State) (m : MethodId) (args : Array Value) (below : List Frame) (meth : Method) (c : Code) (ls : Array Slot) (A : Nat → Prop) (Q : State → Prop) (H : Heap) (locs : List Loc), Q = MQ below (zQi D w1 tys ret A) args s 1 6 A → p.tables.exec = Jvm.exec → c.code = cc → meth.sig.returnType = rt → (∀ w ∈ ws, w.before args s = true) → s.vm.findClass y.cls = some m.cls → meth.locks = false → c.maxLocals = maxL → (∀ q, s.heap.size ≤ q → A q) → va_K D vwCl tys s → va_P D vwCl W0 H → va_D A W0 → va_S A s.heap H locs → lv_has ls maxL (lv_args 0 av) → c.exceptionTable.toList = tableOf hh → zXc A s s.heap → W p l e rm s m args below meth c H locs 0 0 Q (F0 m 0 ls [])) :
    Met l y ws rm (va_Pc av (zPreX D W0 tys sz)) (zQi D w1 tys ret (va_A W0 sz)) 1 6 (va_A W0 sz) := by
  refine met_ofWH hy hw ?_
  intro p e s m args below meth c s₁ B hml hv
  obtain ⟨rfl, ⟨hsz, hP, hK, hD0⟩, hXc⟩ := hv
  subst hsz
  rw [lg_entry_eq]
  exact body p e s m _ below meth c _ _ _ _ _ rfl B.exec B.bytes B.returns (atoms_spec (ws := ws) B.pre) (findClass_of_methodNamed B.named) B.notSynchronized hml (fun q h => Or.inr h) hK hP (hD0.self (sz := s.heap.size)) va_S.rf (lv_entry av hn) (vx_table (x := y) B (atoms_spec (ws := ws) B.pre _ (by rw [hw]; exact List.mem_cons_self))) hXc
end QH
section QL
variable {p : Program} {l : Launch} {e : Env} {R : Room} {s : State} {m : MethodId} {args : Array Value} {below : List Frame} {meth : Method} {c : Code} {H : Heap} {locs : List Loc} {cells slots : Nat} {Q : State → Prop}
variable {cc : ByteArray} {pc : Nat} {ls : Array Slot} {rest : List Value} {D : va_G} {ws : va_W} {tys : List (ClassId × FieldType)} {a : Nat} {A A0 : Nat → Prop} {H0 : Heap}
variable {y : MethodName} {bytes : ByteArray} {maxL nL n index : Nat} {rt : Option FieldType} {hh : List (Nat × Nat × Nat × Nat)} {wsY : List Cond} {rm : Room} {Ts : List Cond} {own C : String} {b : Nat} {As : List Value} {wc w1 ws2 : va_W} {tysc : List (ClassId × FieldType)} {ret : Int32} {st : List Value} {k : Nat} {Qc : Array Value → State → Outcome → State → Prop}
/-- a call that throws, and is caught here -/
theorem q_callC (S : CallFix p m c cc nL s args Ts own) (hM : vx_Met l y wsY rm (va_Pc (.ref b :: As) (zPreX D wc tysc H.size)) Qc (zX D wc tysc k (va_A wc H.size)) 1 6 (va_A wc H.size)) (hQc : ∀ a st oc t, Qc a st oc t → False)
    (cw : CallW R s args own C index y bytes maxL rt wsY rm 1 6 n) (hXc : zXc A s s.heap) (pre suf : List ExceptionTableEntry) (x : ExceptionTableEntry) (htab : c.exceptionTable.toList = pre ++ x :: suf) (hpass : ∀ z ∈ pre, z.catchType ≠ 0 ∧ ∃ nm : String, (Cond.classLink own z.catchType nm).before args s = true ∧ va_Nc (zEx k) nm s)
    (hcov : covers x pc = true) (hct : x.catchType ≠ 0) (hlink : (Cond.classLink own x.catchType (zEx k)).before args s = true) (hcast : Cond.castable (zEx k) (zEx k) ∈ zBw)
    (hK : va_K D vwCl tys s) (hP : va_P D vwCl ws H) (hD : va_D A ws) (hS : va_S A s.heap H locs) (hA : ∀ q, s.heap.size ≤ q → A q)
    (isC isR isP isT : List Nat) (hC : isC.map (fun i => ws[i]?) = wc.map some) (hnC : va_nd isC = true) (hR : isR.map (fun i => ws[i]?) = (isR.filterMap (fun i => ws[i]?)).map some) (hnR : va_nd isR = true) (hdis : ∀ i ∈ isR, i ∉ isC)
    (hp : isP.map (fun i => (isR.filterMap (fun i => ws[i]?) ++ wc)[i]?) = ws.map some) (hnP : va_nd isP = true) (hT : isT.filterMap (fun i => tys[i]?) = tysc)
    (ci q0 : Nat) {T : u_T} {N : Nat} {fs : List Value} (hcl : vwCl[ci]? = some (C, T, N)) (hrec : wc[q0]? = some (b, .inr (ci, fs)))
    (hn : As.length = n) (hsize : ls.size = nL) (hW : (rest.map fun v => v.category).sum ≤ 8) (hfc : cells + 1 ≤ R.cells) (hfs : slots + 6 ≤ R.slots) (hst : st = As.reverse ++ .ref b :: rest) (hdg : decode cc pc = .ok (.invokevirtual index, 3))
    (kk : ∀ (q : Nat) (H1 : Heap) (locs1 : List Loc), va_P D vwCl ws H1 → va_D A ws → va_S A s.heap H1 locs1 → W p l e R s m args below meth c H1 locs1 (cells + 1) (slots + 6) Q (F0 m x.handlerPc ls [.ref q])) : W p l e R s m args below meth c H locs cells slots Q (F0 m pc ls st) := by
  have hPc : va_P D vwCl wc H := hP.sub isC (fm_of_map hC)
  have hDc : va_D A wc := hD.sub isC hnC hC
  have hKc := hK.sub isT hT
  have hFc := va_free (wc := wc) hD hS hA isC hC
  have hXH : zXc (va_A wc H.size) s H := zXc_narrow (zXc_kept hXc hS.2.1) hFc
  have hr := vx_runV (e := e) (below := below) (meth := meth) (locs := locs) S hM cw ⟨zBlindX, va_recv hKc hPc hcl hrec, fun U hU hW => ⟨rfl, ⟨by rw [hU], by rw [hU]; exact hPc, va_K.moved hW.alike hKc, hDc.weaken (fun _ _ _ _ => trivial)⟩, by rw [hU]; exact zXc_moved hW.alike hXH⟩⟩ (g := F0 m pc ls st) rfl hn hsize hst (lv_room hW) hdg ⟨hfc, hfs⟩
  intro T0 hT0 X
  rcases hr T0 hT0 X with ⟨v, st₀, t, T', L, h0, X', hL, e1, e2, hq, st1⟩ | ⟨q, st₀, t, T', L, E, ce, h0, X', hL, e1, e2, ⟨u, hpx, ⟨hE, hP1, hK1, hD1⟩, hF⟩, hce, hcv, hcl1, st1⟩
  · exact (hQc _ _ _ _ hq).elim
  · obtain ⟨k1, k2, k3⟩ := vx_keep h0 e1 hS (fun q _ h => hFc q h) hFc hL hF
    have hP1' : va_P D vwCl wc T'.heap := by rw [e1]; exact hP1
    obtain ⟨hP2, hD2⟩ := va_join hP hD isC isR hC hR hnR hdis k2 hFc hP1' hD1
    subst hE
    have hv := vx_catch (Q := Q) (ls := ls) (rest := rest) (pc := pc) (q := q) (H := T'.heap) (locs := locs ++ L) (cells := cells + 1) (slots := slots + 6) S.2.2.2.1 pre x suf htab (fun z hz => Or.inr (hpass z hz)) hcov hct hlink (va_any (zMv_ot (zBw_mv _ hcast)) (hXc.1 _ hcast)) (by rw [e1]; exact hce) hcv hcl1
      (kk q T'.heap (locs ++ L) (hP2.sub isP (fm_of_map hp)) (hD2.sub isP hnP hp) k3)
    obtain ⟨t2, a1, b1⟩ := hv T' rfl X'
    exact ⟨t2, st1.trans a1, b1⟩
theorem zNi_no (A1 : Nat → Prop) : ∀ a st oc t, zNi A1 a st oc t → False := fun _ _ _ _ h => by
  obtain ⟨⟨_, _, _, h, _⟩, _⟩ := h
  exact h
theorem zNv_no (A1 : Nat → Prop) : ∀ a st oc t, zNv A1 a st oc t → False := fun _ _ _ _ h => by
  obtain ⟨⟨_, _, h, _⟩, _⟩ := h
  exact h
/-- a static method with a table, that knows cells -/
theorem q_callSWi (S : CallFix p m c cc nL s args Ts own) (hM : Met l y wsY rm (va_Pc As (zPre D wc tysc H.size)) (zQi D w1 tysc ret (va_A wc H.size)) 0 0 (va_A wc H.size))
    (cw : vx_CSW R s args own index y bytes maxL rt hh wsY rm 0 0 n) (hK : va_K D vwCl tys s) (hP : va_P D vwCl ws H) (hD : va_D A0 ws) (hS : va_S A0 H0 H locs) (hA : ∀ q, H0.size ≤ q → A0 q)
    (isC isR isP isT : List Nat) (hC : isC.map (fun i => ws[i]?) = wc.map some) (hnC : va_nd isC = true) (hR : isR.map (fun i => ws[i]?) = (isR.filterMap (fun i => ws[i]?)).map some) (hnR : va_nd isR = true) (hdis : ∀ i ∈ isR, i ∉ isC)
    (hp : isP.map (fun i => (isR.filterMap (fun i => ws[i]?) ++ w1)[i]?) = ws2.map some) (hnP : va_nd isP = true) (hT : isT.filterMap (fun i => tys[i]?) = tysc)
    (hn : As.length = n) (hsize : ls.size = nL) (hW : (rest.map fun v => v.category).sum ≤ 8) (hfc : cells ≤ R.cells) (hfs : slots ≤ R.slots) (hst : st = As.reverse ++ rest) (hdg : decode cc pc = .ok (.invokestatic index, 3))
    (kk : ∀ (H1 : Heap) (locs1 : List Loc), va_P D vwCl ws2 H1 → va_D A0 ws2 → va_S A0 H0 H1 locs1 → W p l e R s m args below meth c H1 locs1 cells slots Q (F0 m (pc + 3) ls (.int ret :: rest))) : W p l e R s m args below meth c H locs cells slots Q (F0 m pc ls st) := by
  have hPc : va_P D vwCl wc H := hP.sub isC (fm_of_map hC)
  have hDc : va_D A0 wc := hD.sub isC hnC hC
  have hKc := hK.sub isT hT
  have hFc := va_free hD hS hA isC hC
  refine va_calli (vx_runSW S hM cw ⟨zBlind, fun U hU hW => ⟨rfl, by rw [hU], by rw [hU]; exact hPc, va_K.moved hW.alike hKc, hDc.weaken (fun _ _ _ _ => trivial)⟩⟩ rfl hn hsize hst (lv_room hW) hdg ⟨hfc, hfs⟩) hS (fun q _ h => hFc q h) hFc (fun r u t H1 locs1 ht hvm hw hB hz1 hk1 hS1 => ?_)
  obtain ⟨hP1, hK1, hD1⟩ := hB
  rw [ht] at hP1
  obtain ⟨hP2, hD2⟩ := va_join hP hD isC isR hC hR hnR hdis hk1 hFc hP1 hD1
  have hw : r = ret := hw
  rw [hw]
  exact kk H1 locs1 (hP2.sub isP (fm_of_map hp)) (hD2.sub isP hnP hp) hS1
/-- the same, where something was thrown and caught in it -/
theorem q_callSWx (S : CallFix p m c cc nL s args Ts own) (hM : Met l y wsY rm (va_Pc As (zPreX D wc tysc H.size)) (zQi D w1 tysc ret (va_A wc H.size)) 1 6 (va_A wc H.size))
    (cw : vx_CSW R s args own index y bytes maxL rt hh wsY rm 1 6 n) (hXc : zXc A s s.heap) (hK : va_K D vwCl tys s) (hP : va_P D vwCl ws H) (hD : va_D A ws) (hS : va_S A s.heap H locs) (hA : ∀ q, s.heap.size ≤ q → A q)
    (isC isR isP isT : List Nat) (hC : isC.map (fun i => ws[i]?) = wc.map some) (hnC : va_nd isC = true) (hR : isR.map (fun i => ws[i]?) = (isR.filterMap (fun i => ws[i]?)).map some) (hnR : va_nd isR = true) (hdis : ∀ i ∈ isR, i ∉ isC)
    (hp : isP.map (fun i => (isR.filterMap (fun i => ws[i]?) ++ w1)[i]?) = ws2.map some) (hnP : va_nd isP = true) (hT : isT.filterMap (fun i => tys[i]?) = tysc)
    (hn : As.length = n) (hsize : ls.size = nL) (hW : (rest.map fun v => v.category).sum ≤ 8) (hfc : cells + 1 ≤ R.cells) (hfs : slots + 6 ≤ R.slots) (hst : st = As.reverse ++ rest) (hdg : decode cc pc = .ok (.invokestatic index, 3))
    (kk : ∀ (H1 : Heap) (locs1 : List Loc), va_P D vwCl ws2 H1 → va_D A ws2 → va_S A s.heap H1 locs1 → W p l e R s m args below meth c H1 locs1 (cells + 1) (slots + 6) Q (F0 m (pc + 3) ls (.int ret :: rest))) : W p l e R s m args below meth c H locs cells slots Q (F0 m pc ls st) := by
  have hPc : va_P D vwCl wc H := hP.sub isC (fm_of_map hC)
  have hDc : va_D A wc := hD.sub isC hnC hC
  have hKc := hK.sub isT hT
  have hFc := va_free hD hS hA isC hC
  have hXH : zXc (va_A wc H.size) s H := zXc_narrow (zXc_kept hXc hS.2.1) hFc
  refine va_calli (vx_runSW S hM cw ⟨zBlindX, fun U hU hW => ⟨rfl, ⟨by rw [hU], by rw [hU]; exact hPc, va_K.moved hW.alike hKc, hDc.weaken (fun _ _ _ _ => trivial)⟩, by rw [hU]; exact zXc_moved hW.alike hXH⟩⟩ rfl hn hsize hst (lv_room hW) hdg ⟨hfc, hfs⟩) hS (fun q _ h => hFc q h) hFc (fun r u t H1 locs1 ht hvm hw hB hz1 hk1 hS1 => ?_)
  obtain ⟨hP1, hK1, hD1⟩ := hB
  rw [ht] at hP1
  obtain ⟨hP2, hD2⟩ := va_join hP hD isC isR hC hR hnR hdis hk1 hFc hP1 hD1
  have hw : r = ret := hw
  rw [hw]
  exact kk H1 locs1 (hP2.sub isP (fm_of_map hp)) (hD2.sub isP hnP hp) hS1
/-- an int of the script, some places behind the law's own counter -/
theorem q_scr (hexec : p.tables.exec = Jvm.exec) (hb : c.code = cc) {bs L : Nat} {xs : Nat → Int32} (hX : va_X bs L xs s H0) (hbl : bs < H0.size) (hbA : ¬ A0 bs) (hS : va_S A0 H0 H locs) {i j : Nat} {nL : Nat} {lv : List (Nat × Value)} (hl : lv_has ls nL lv) (k4 k0 : Nat) (h4 : lv[k4]? = some (4, .int (iI (i : Int)))) (h0 : lv[k0]? = some (0, .ref bs)) (hj : i + j < L) (hL : L < 2147483648) {z : Int} (hz : z = (j : Int))
    (d0 : decode cc pc = .ok (.aload_n 0, 1)) (d1 : decode cc (pc + 1) = .ok (.iload 4, 2)) (d3 : decode cc (pc + 1 + 2) = .ok (.iconst z, 1)) (d4 : decode cc (pc + 1 + 2 + 1) = .ok (.iadd, 1)) (d5 : decode cc (pc + 1 + 2 + 1 + 1) = .ok (.iaload, 1))
    (kk : W p l e R s m args below meth c H locs cells slots Q (F0 m (pc + 1 + 2 + 1 + 1 + 1) ls (.int (xs (i + j)) :: rest))) : W p l e R s m args below meth c H locs cells slots Q (F0 m pc ls rest) := by
  subst hz
  refine lv_aload_n hexec hb d0 rfl (lv_at hl k0 h0) ?_
  refine lv_iload hexec hb d1 (lv_at hl k4 h4) ?_
  refine lv_iconst (v := iI (j : Int)) hexec hb d3 rfl ?_
  refine lv_iadd hexec hb d4 ?_
  have e : iI (i : Int) + iI (j : Int) = iI ((i + j : Nat) : Int) := by rw [iI_add]; rfl
  rw [e]
  refine va_sld hexec hb hX hbl hbA hS (i := iI ((i + j : Nat) : Int)) ?_ d5 ?_
  · show ¬ (iI ((i + j : Nat) : Int) < 0 ∨ L ≤ (iI ((i + j : Nat) : Int)).toNatClampNeg)
    rw [iI_nat (by omega), zl0, iI_lt (by omega) (by omega) (by omega) (by omega)]
    omega
  · rw [iI_nat (by omega)]
    exact kk
end QL
/-- the law's own reading of a place of the script -/
def cl0 (L : Nat) (xs : Nat → Int32) : Int32 := if Int32.ofNat L ≤ 0 then 0 else xs (0 : Int32).toNatClampNeg
def zPreC (b L : Nat) (xs : Nat → Int32) (sz : Nat) : State → Prop := fun U => U.heap.size = sz ∧ va_X b L xs U U.heap ∧ b < sz
theorem zBlindC {b L : Nat} {xs : Nat → Int32} {sz : Nat} {av : List Value} : FrameBlind (va_Pc av (zPreC b L xs sz)) := by
  intro a U g mk q
  obtain ⟨q0, q1, q2, q3⟩ := q
  exact ⟨q0, q1, va_X.moved (u := U) (U := U.calling g mk a) (Vm.Alike.refl U.vm) q2, q3⟩
theorem c_L_cell (l : Launch) (b L : Nat) (xs : Nat → Int32) (hL : L ≤ 2561) (sz : Nat) : Met l yL_cell wsL_cell { frames := 0, cells := 0, slots := 0, locals := 0 } (va_Pc [.ref b, .int 0] (zPreC b L xs sz)) (va_Qi (fun (r : Int32) (_ : Unit) => r = cl0 L xs) (fun _ _ => True) (va_A [] sz)) 0 0 (va_A [] sz) := by
  refine Met.ofW (cc := cL_cell) (maxL := 2) (ret := (some .int)) (by decide) rfl ?_
  intro p e s m args below meth c s₁ B hml hv
  obtain ⟨rfl, hsz, hX, hbl⟩ := hv
  subst hsz
  have hx := B.exec
  have hb := B.bytes
  have hr := B.returns
  have hlocks := B.notSynchronized
  have hS : va_S (va_A [] s.heap.size) s.heap s.heap [] := va_S.rf
  have hbA : ¬ va_A [] s.heap.size b := by
    rintro (⟨k, e9, h⟩ | h)
    · cases h
    · omega
  have hret : ∀ (r : Int32), r = cl0 L xs → ∀ ls, W p l e (headSpec wsL_cell { frames := 0, cells := 0, slots := 0, locals := 0 }).room s m ([Value.ref b, Value.int 0] : List Value).toArray below meth c s.heap [] 0 0 (MQ below (va_Qi (fun (r : Int32) (_ : Unit) => r = cl0 L xs) (fun _ _ => True) (va_A [] s.heap.size)) ([Value.ref b, Value.int 0] : List Value).toArray s 0 0 (va_A [] s.heap.size)) (F0 m 13 ls [.int r]) := by
    intro r hr9 ls
    exact W.iret (v := r) hx hb hr (fun t ht hW => ⟨⟨r, (), rfl, hr9, trivial⟩, hS.F ht⟩) hS.2.2 dL_cell_13 hlocks
  have key : ∀ ls : Array Slot, lv_has ls 2 [(0, .ref b), (1, .int 0)] → W p l e (headSpec wsL_cell { frames := 0, cells := 0, slots := 0, locals := 0 }).room s m ([Value.ref b, Value.int 0] : List Value).toArray below meth c s.heap [] 0 0 (MQ below (va_Qi (fun (r : Int32) (_ : Unit) => r = cl0 L xs) (fun _ _ => True) (va_A [] s.heap.size)) ([Value.ref b, Value.int 0] : List Value).toArray s 0 0 (va_A [] s.heap.size)) (F0 m 0 ls []) := by
    intro ls hl
    refine lv_iload_n hx hb dL_cell_0 rfl (lv_at hl 1 rfl) ?_
    refine lv_aload_n hx hb dL_cell_1 rfl (lv_at hl 0 rfl) ?_
    refine va_slen hx hb hX hbl hbA hS dL_cell_2 ?_
    refine lv_icmp_ge (tgt := 12) hx hb dL_cell_3 (by decide) (fun c9 => ?_) (fun c9 => ?_)
    · refine lv_iconst (v := 0) hx hb dL_cell_12 (by decide) ?_
      exact hret 0 (by unfold cl0; rw [if_pos c9]) _
    · refine lv_aload_n hx hb dL_cell_6 rfl (lv_at hl 0 rfl) ?_
      refine lv_iload_n hx hb dL_cell_7 rfl (lv_at hl 1 rfl) ?_
      refine va_sld hx hb hX hbl hbA hS (i := 0) ?_ dL_cell_8 ?_
      · rintro (h | h)
        · exact absurd h (by decide)
        · have h0 : L = 0 := by
            have : (0 : Int32).toNatClampNeg = 0 := rfl
            omega
          subst h0
          exact c9 (by decide)
      · refine lv_goto (tgt := 13) hx hb dL_cell_9 (by decide) ?_
        exact hret _ (by unfold cl0; rw [if_neg c9]) _
  rw [lg_entry_eq]
  exact key _ (lv_entry _ (Nat.le_of_ble_eq_true rfl))
