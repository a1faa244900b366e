/-! rows of my own: methods of the law over one object, and calls -/
abbrev yT : Type := (Nat → Int32) × (Nat → Nat → Int32) × Nat
abbrev yQ (D : va_G) (cyI cyZ : ClassId) (a : Nat → Nat) (Nt : (Nat → Int32) → (Nat → Nat → Int32) → Prop) (post : Int32 → Nat → Prop) (sz : Nat) (A : Nat → Prop) : Array Value → State → Outcome → State → Prop :=
  va_Qi (fun (r : Int32) (u : yT) => Nt u.1 u.2.1 ∧ post r u.2.2) (fun u t => va_P D vwCl (wo cyI cyZ a u.1 u.2.1) t.heap ∧ va_K D vwCl (tyI cyI cyZ) t ∧ va_D A (wo cyI cyZ a u.1 u.2.1) ∧ sz + u.2.2 ≤ t.heap.size) A
def LM (l : Launch) (D : va_G) (cyI cyZ : ClassId) (a : Nat → Nat) (y : MethodName) (wsY : List Cond) (rm : Room) (As : List Value) (N0 Nt : (Nat → Int32) → (Nat → Nat → Int32) → Prop) (post : Int32 → Nat → Prop) (mc ms : Nat) : Prop :=
  ∀ (x : Nat → Int32) (f : Nat → Nat → Int32) (sz : Nat), N0 x f → Met l y wsY rm (va_Pc As (zPreX D (wo cyI cyZ a x f) (tyI cyI cyZ) sz)) (yQ D cyI cyZ a Nt post sz (va_A (wo cyI cyZ a x f) sz)) mc ms (va_A (wo cyI cyZ a x f) sz)
section YOF
variable {l : Launch} {y : MethodName} {ws ws' : List Cond} {rm : Room} {cc : ByteArray} {maxL : Nat} {rt : Option FieldType} {av : List Value} {D : va_G} {cyI cyZ : ClassId} {a : Nat → Nat} {N0 Nt : (Nat → Int32) → (Nat → Nat → Int32) → Prop} {post : Int32 → Nat → Prop} {mc ms : Nat} {hh : List (Nat × Nat × Nat × Nat)}
theorem y_ofW (hy : plainName y.cls = true) (hw : ws = Cond.code y cc maxL rt :: ws') (hn : (lg_sl av).length ≤ maxL)
    (body : ∀ (x : Nat → Int32) (f : Nat → Nat → Int32) (p : Program) (e : Env) (s : State) (m : MethodId) (args : Array Value) (below : List Frame) (meth : Method) (c : Code) (ls : Array Slot) (A : Nat → Prop) (Q : State → Prop) (H : Heap) (locs : List Loc), N0 x f → Q = MQ below (yQ D cyI cyZ a Nt post s.heap.size A) args s mc ms A → p.tables.exec = Jvm.exec → c.code = cc → meth.sig.returnType = rt → (∀ w ∈ ws, w.before args s = true) → s.vm.findClass y.cls = some m.cls → meth.locks = false → c.maxLocals = maxL → (∀ q, s.heap.size ≤ q → A q) → va_K D vwCl (tyI cyI cyZ) s → va_P D vwCl (wo cyI cyZ a x f) H → va_D A (wo cyI cyZ a x f) → va_S A s.heap H locs → zXc A s s.heap → lv_has ls maxL (lv_args 0 av) → W p l e rm s m args below meth c H locs 0 0 Q (F0 m 0 ls [])) :
    LM l D cyI cyZ a y ws rm av N0 Nt post mc ms := by
  intro x f sz hN
  refine Met.ofW hy hw ?_
  intro p e s m args below meth c s₁ B hml hv
  obtain ⟨rfl, ⟨hsz, hP, hK, hD0⟩, hXc⟩ := hv
  subst hsz
  rw [lg_entry_eq]
  exact body x f p e s m _ below meth c _ _ _ _ _ hN rfl B.exec B.bytes B.returns (atoms_spec (ws := ws) B.pre) (findClass_of_methodNamed B.named) B.notSynchronized hml (fun q h => Or.inr h) hK hP (hD0.self (sz := s.heap.size)) va_S.rf hXc (lv_entry av hn)
theorem y_ofWH (hy : plainName y.cls = true) (hw : ws = Cond.codeWith y cc maxL rt hh :: ws') (hn : (lg_sl av).length ≤ maxL)
    (body : ∀ (x : Nat → Int32) (f : Nat → Nat → Int32) (p : Program) (e : Env) (s : State) (m : MethodId) (args : Array Value) (below : List Frame) (meth : Method) (c : Code) (ls : Array Slot) (A : Nat → Prop) (Q : State → Prop) (H : Heap) (locs : List Loc), N0 x f → Q = MQ below (yQ D cyI cyZ a Nt post s.heap.size A) args s mc ms A → p.tables.exec = Jvm.exec → c.code = cc → meth.sig.returnType = rt → (∀ w ∈ ws, w.before args s = true) → s.vm.findClass y.cls = some m.cls → meth.locks = false → c.maxLocals = maxL → (∀ q, s.heap.size ≤ q → A q) → va_K D vwCl (tyI cyI cyZ) s → va_P D vwCl (wo cyI cyZ a x f) H → va_D A (wo cyI cyZ a x f) → va_S A s.heap H locs → zXc A s s.heap → c.exceptionTable.toList = tableOf hh → lv_has ls maxL (lv_args 0 av) → W p l e rm s m args below meth c H locs 0 0 Q (F0 m 0 ls [])) :
    LM l D cyI cyZ a y ws rm av N0 Nt post mc ms := by
  intro x f sz hN
  refine met_ofWH hy hw ?_
  intro p e s m args below meth c s₁ B hml hv
  obtain ⟨rfl, ⟨hsz, hP, hK, hD0⟩, hXc⟩ := hv
  subst hsz
  rw [lg_entry_eq]
  exact body x f p e s m _ below meth c _ _ _ _ _ hN rfl B.exec B.bytes B.returns (atoms_spec (ws := ws) B.pre) (findClass_of_methodNamed B.named) B.notSynchronized hml (fun q h => Or.inr h) hK hP (hD0.self (sz := s.heap.size)) va_S.rf hXc (vx_table (x := y) B (atoms_spec (ws := ws) B.pre _ (by rw [hw]; exact List.mem_cons_self))) (lv_entry av hn)
end YOF
section YC
variable {p : Program} {l : Launch} {e : Env} {R : Room} {s : State} {m : MethodId} {args : Array Value} {below : List Frame} {meth : Method} {c : Code} {H : Heap} {locs : List Loc} {cells slots : Nat} {Q : State → Prop}
variable {cc : ByteArray} {pc : Nat} {ls : Array Slot} {rest : List Value} {D : va_G} {cyI cyZ : ClassId} {a b : Nat → Nat} {A A0 : Nat → Prop} {H0 : Heap} {N0 Nt : (Nat → Int32) → (Nat → Nat → Int32) → Prop} {post : Int32 → Nat → Prop} {Rp : Int32 → Prop}
variable {y : MethodName} {bytes : ByteArray} {maxL nL n index mc ms : Nat} {rt : Option FieldType} {hh : List (Nat × Nat × Nat × Nat)} {wsY : List Cond} {rm : Room} {Ts : List Cond} {own : String} {As : List Value} {st : List Value} {x z : Nat → Int32} {f g : Nat → Nat → Int32}
theorem y_ret {r : Int32} {k : Nat} {ty : FieldType} (hQ : Q = MQ below (yQ D cyI cyZ a Nt post s.heap.size A) args s cells slots A) (hexec : p.tables.exec = Jvm.exec) (hb : c.code = cc) (hr : meth.sig.returnType = some ty) (hn : narrow ty (.int r) = .int r) (hlocks : meth.locks = false) (hN : Nt x f) (hp : post r k) (hP : va_P D vwCl (wo cyI cyZ a x f) H) (hK : va_K D vwCl (tyI cyI cyZ) s) (hD : va_D A (wo cyI cyZ a x f)) (hS : va_S A s.heap H locs) (hz : s.heap.size + k ≤ H.size) (hdg : decode cc pc = .ok (.ireturn, 1)) : W p l e R s m args below meth c H locs cells slots Q (F0 m pc ls [.int r]) := by
  subst hQ
  exact W.zret (v := r) hexec hb hr hn (fun t ht hW => ⟨⟨r, (x, f, k), rfl, ⟨hN, hp⟩, by rw [ht]; exact hP, va_K.moved hW.alike hK, hD, by rw [ht]; exact hz⟩, hS.F ht⟩) hS.2.2 hdg hlocks
/-- a call of the class on the one object of this world -/
theorem y_call (S : CallFix p m c cc nL s args Ts own) (hN : N0 x f) (hO : OM l D cyI cyZ a y wsY rm As N0 Nt Rp) (cw : CallW R s args own RX4 index y bytes maxL rt wsY rm 0 0 n)
    (hK : va_K D vwCl (tyI cyI cyZ) s) (hP : va_P D vwCl (wo cyI cyZ a x f) H) (hD : va_D A0 (wo cyI cyZ a x f)) (hS : va_S A0 H0 H locs) (hA : ∀ q, H0.size ≤ q → A0 q)
    (hn : As.length = n) (hsize : ls.size = nL) (hW : (rest.map fun v => v.category).sum ≤ 8) (hfc : cells ≤ R.cells) (hfs : slots ≤ R.slots) (hst : st = As.reverse ++ .ref (a 0) :: rest) (hdg : decode cc pc = .ok (.invokevirtual index, 3))
    (kk : ∀ (r : Int32) (x : Nat → Int32) (f : Nat → Nat → Int32) (H1 : Heap) (locs1 : List Loc), Nt x f → Rp r → va_P D vwCl (wo cyI cyZ a x f) H1 → va_D A0 (wo cyI cyZ a x f) → va_S A0 H0 H1 locs1 → H.size ≤ H1.size → W p l e R s m args below meth c H1 locs1 cells slots Q (F0 m (pc + 3) ls (.int r :: rest))) : W p l e R s m args below meth c H locs cells slots Q (F0 m pc ls st) := by
  obtain ⟨x1, f1, r1, hN1, hR1, hM⟩ := hO x f hN
  have hFc := va_free (wc := wo cyI cyZ a x f) hD hS hA [0, 1, 2, 3, 4, 5, 6, 7, 8, 9, 10, 11, 12, 13, 14, 15, 16, 17, 18, 19] rfl
  refine va_calli (va_runV S (hM H.size) cw ⟨zBlind, va_recv (ci := 4) (q0 := 0) (q := (RX4, TX4, 7)) hK hP rfl rfl, fun U hU hW => ⟨rfl, by rw [hU], by rw [hU]; exact hP, va_K.moved hW.alike hK, hD.weaken (fun _ _ _ _ => trivial)⟩⟩ rfl hn hsize hst (lv_room hW) hdg ⟨hfc, hfs⟩) hS (fun q _ h => hFc q h) hFc (fun r u t H1 locs1 ht hvm hw hB hz1 hk1 hS1 => ?_)
  obtain ⟨hP1, hK1, hD1⟩ := hB
  rw [ht] at hP1
  obtain ⟨hP2, hD2⟩ := va_join (wr := []) hP hD [0, 1, 2, 3, 4, 5, 6, 7, 8, 9, 10, 11, 12, 13, 14, 15, 16, 17, 18, 19] [] rfl rfl rfl (fun _ h => by cases h) hk1 hFc hP1 hD1
  have hw : r = r1 := hw
  rw [hw]
  exact kk r1 x1 f1 H1 locs1 hN1 hR1 hP2 hD2 hS1 hz1
/-- the same, with another object beside it: what comes back stands behind the other -/
theorem y2_call (S : CallFix p m c cc nL s args Ts own) (hN : N0 x f) (hO : OM l D cyI cyZ a y wsY rm As N0 Nt Rp) (cw : CallW R s args own RX4 index y bytes maxL rt wsY rm 0 0 n)
    (hK : va_K D vwCl (tyI cyI cyZ) s) (hP : va_P D vwCl (wo cyI cyZ a x f ++ wo cyI cyZ b z g) H) (hD : va_D A0 (wo cyI cyZ a x f ++ wo cyI cyZ b z g)) (hS : va_S A0 H0 H locs) (hA : ∀ q, H0.size ≤ q → A0 q)
    (hn : As.length = n) (hsize : ls.size = nL) (hW : (rest.map fun v => v.category).sum ≤ 8) (hfc : cells ≤ R.cells) (hfs : slots ≤ R.slots) (hst : st = As.reverse ++ .ref (a 0) :: rest) (hdg : decode cc pc = .ok (.invokevirtual index, 3))
    (kk : ∀ (r : Int32) (x : Nat → Int32) (f : Nat → Nat → Int32) (H1 : Heap) (locs1 : List Loc), Nt x f → Rp r → va_P D vwCl (wo cyI cyZ b z g ++ wo cyI cyZ a x f) H1 → va_D A0 (wo cyI cyZ b z g ++ wo cyI cyZ a x f) → va_S A0 H0 H1 locs1 → H.size ≤ H1.size → W p l e R s m args below meth c H1 locs1 cells slots Q (F0 m (pc + 3) ls (.int r :: rest))) : W p l e R s m args below meth c H locs cells slots Q (F0 m pc ls st) := by
  obtain ⟨x1, f1, r1, hN1, hR1, hM⟩ := hO x f hN
  have hP0 : va_P D vwCl (wo cyI cyZ a x f) H := hP.sub [0, 1, 2, 3, 4, 5, 6, 7, 8, 9, 10, 11, 12, 13, 14, 15, 16, 17, 18, 19] rfl
  have hD0 : va_D A0 (wo cyI cyZ a x f) := hD.sub [0, 1, 2, 3, 4, 5, 6, 7, 8, 9, 10, 11, 12, 13, 14, 15, 16, 17, 18, 19] rfl rfl
  have hFc := va_free (wc := wo cyI cyZ a x f) hD hS hA [0, 1, 2, 3, 4, 5, 6, 7, 8, 9, 10, 11, 12, 13, 14, 15, 16, 17, 18, 19] rfl
  refine va_calli (va_runV S (hM H.size) cw ⟨zBlind, va_recv (ci := 4) (q0 := 0) (q := (RX4, TX4, 7)) hK hP0 rfl rfl, fun U hU hW => ⟨rfl, by rw [hU], by rw [hU]; exact hP0, va_K.moved hW.alike hK, hD0.weaken (fun _ _ _ _ => trivial)⟩⟩ rfl hn hsize hst (lv_room hW) hdg ⟨hfc, hfs⟩) hS (fun q _ h => hFc q h) hFc (fun r u t H1 locs1 ht hvm hw hB hz1 hk1 hS1 => ?_)
  obtain ⟨hP1, hK1, hD1⟩ := hB
  rw [ht] at hP1
  obtain ⟨hP2, hD2⟩ := va_join (wr := wo cyI cyZ b z g) hP hD [0, 1, 2, 3, 4, 5, 6, 7, 8, 9, 10, 11, 12, 13, 14, 15, 16, 17, 18, 19] [20, 21, 22, 23, 24, 25, 26, 27, 28, 29, 30, 31, 32, 33, 34, 35, 36, 37, 38, 39] rfl rfl rfl (by decide) hk1 hFc hP1 hD1
  have hw : r = r1 := hw
  rw [hw]
  exact kk r1 x1 f1 H1 locs1 hN1 hR1 hP2 hD2 hS1 hz1
theorem y_sw {H : Heap} (hP : va_P D vwCl (wo cyI cyZ a x f ++ wo cyI cyZ b z g) H) : va_P D vwCl (wo cyI cyZ b z g ++ wo cyI cyZ a x f) H := hP.sub [20, 21, 22, 23, 24, 25, 26, 27, 28, 29, 30, 31, 32, 33, 34, 35, 36, 37, 38, 39, 0, 1, 2, 3, 4, 5, 6, 7, 8, 9, 10, 11, 12, 13, 14, 15, 16, 17, 18, 19] rfl
theorem y_swD (hD : va_D A0 (wo cyI cyZ a x f ++ wo cyI cyZ b z g)) : va_D A0 (wo cyI cyZ b z g ++ wo cyI cyZ a x f) := hD.sub [20, 21, 22, 23, 24, 25, 26, 27, 28, 29, 30, 31, 32, 33, 34, 35, 36, 37, 38, 39, 0, 1, 2, 3, 4, 5, 6, 7, 8, 9, 10, 11, 12, 13, 14, 15, 16, 17, 18, 19] rfl rfl
/-- a call of one of the law's own methods over the one object -/
theorem y_callS (S : CallFix p m c cc nL s args Ts own) (hN : N0 x f) (hL : LM l D cyI cyZ a y wsY rm As N0 Nt post mc ms) (cw : CallB R s args own index y bytes maxL rt wsY rm mc ms n ∧ (Cond.static y).before args s = true) (hXc : zXc A0 s s.heap)
    (hK : va_K D vwCl (tyI cyI cyZ) s) (hP : va_P D vwCl (wo cyI cyZ a x f) H) (hD : va_D A0 (wo cyI cyZ a x f)) (hS : va_S A0 s.heap H locs) (hA : ∀ q, s.heap.size ≤ q → A0 q)
    (hn : As.length = n) (hsize : ls.size = nL) (hW : (rest.map fun v => v.category).sum ≤ 8) (hfc : cells + mc ≤ R.cells) (hfs : slots + ms ≤ R.slots) (hst : st = As.reverse ++ rest) (hdg : decode cc pc = .ok (.invokestatic index, 3))
    (kk : ∀ (r : Int32) (k : Nat) (x : Nat → Int32) (f : Nat → Nat → Int32) (H1 : Heap) (locs1 : List Loc), Nt x f → post r k → va_P D vwCl (wo cyI cyZ a x f) H1 → va_D A0 (wo cyI cyZ a x f) → va_S A0 s.heap H1 locs1 → H.size + k ≤ H1.size → W p l e R s m args below meth c H1 locs1 (cells + mc) (slots + ms) Q (F0 m (pc + 3) ls (.int r :: rest))) : W p l e R s m args below meth c H locs cells slots Q (F0 m pc ls st) := by
  have hFc := va_free (wc := wo cyI cyZ a x f) hD hS hA [0, 1, 2, 3, 4, 5, 6, 7, 8, 9, 10, 11, 12, 13, 14, 15, 16, 17, 18, 19] rfl
  have hXH : zXc (va_A (wo cyI cyZ a x f) H.size) s H := zXc_narrow (zXc_kept hXc hS.2.1) hFc
  refine va_calli (va_runS S (hL x f H.size hN) cw ⟨zBlindX, fun U hU hW => ⟨rfl, ⟨by rw [hU], by rw [hU]; exact hP, va_K.moved hW.alike hK, hD.weaken (fun _ _ _ _ => trivial)⟩, by rw [hU]; exact zXc_moved hW.alike hXH⟩⟩ rfl hn hsize hst (lv_room hW) hdg ⟨hfc, hfs⟩) hS (fun q _ h => hFc q h) hFc (fun r u t H1 locs1 ht hvm hw hB hz1 hk1 hS1 => ?_)
  obtain ⟨x1, f1, k⟩ := u
  obtain ⟨hN1, hp⟩ := hw
  obtain ⟨hP1, hK1, hD1, hz⟩ := hB
  rw [ht] at hP1 hz
  obtain ⟨hP2, hD2⟩ := va_join (wr := []) hP hD [0, 1, 2, 3, 4, 5, 6, 7, 8, 9, 10, 11, 12, 13, 14, 15, 16, 17, 18, 19] [] rfl rfl rfl (fun _ h => by cases h) hk1 hFc hP1 hD1
  exact kk r k x1 f1 H1 locs1 hN1 hp hP2 hD2 hS1 hz
theorem y_callSW (S : CallFix p m c cc nL s args Ts own) (hN : N0 x f) (hL : LM l D cyI cyZ a y wsY rm As N0 Nt post mc ms) (cw : vx_CSW R s args own index y bytes maxL rt hh wsY rm mc ms n) (hXc : zXc A0 s s.heap)
    (hK : va_K D vwCl (tyI cyI cyZ) s) (hP : va_P D vwCl (wo cyI cyZ a x f) H) (hD : va_D A0 (wo cyI cyZ a x f)) (hS : va_S A0 s.heap H locs) (hA : ∀ q, s.heap.size ≤ q → A0 q)
    (hn : As.length = n) (hsize : ls.size = nL) (hW : (rest.map fun v => v.category).sum ≤ 8) (hfc : cells + mc ≤ R.cells) (hfs : slots + ms ≤ R.slots) (hst : st = As.reverse ++ rest) (hdg : decode cc pc = .ok (.invokestatic index, 3))
    (kk : ∀ (r : Int32) (k : Nat) (x : Nat → Int32) (f : Nat → Nat → Int32) (H1 : Heap) (locs1 : List Loc), Nt x f → post r k → va_P D vwCl (wo cyI cyZ a x f) H1 → va_D A0 (wo cyI cyZ a x f) → va_S A0 s.heap H1 locs1 → H.size + k ≤ H1.size → W p l e R s m args below meth c H1 locs1 (cells + mc) (slots + ms) Q (F0 m (pc + 3) ls (.int r :: rest))) : W p l e R s m args below meth c H locs cells slots Q (F0 m pc ls st) := by
  have hFc := va_free (wc := wo cyI cyZ a x f) hD hS hA [0, 1, 2, 3, 4, 5, 6, 7, 8, 9, 10, 11, 12, 13, 14, 15, 16, 17, 18, 19] rfl
  have hXH : zXc (va_A (wo cyI cyZ a x f) H.size) s H := zXc_narrow (zXc_kept hXc hS.2.1) hFc
  refine va_calli (vx_runSW S (hL x f H.size hN) cw ⟨zBlindX, fun U hU hW => ⟨rfl, ⟨by rw [hU], by rw [hU]; exact hP, va_K.moved hW.alike hK, hD.weaken (fun _ _ _ _ => trivial)⟩, by rw [hU]; exact zXc_moved hW.alike hXH⟩⟩ rfl hn hsize hst (lv_room hW) hdg ⟨hfc, hfs⟩) hS (fun q _ h => hFc q h) hFc (fun r u t H1 locs1 ht hvm hw hB hz1 hk1 hS1 => ?_)
  obtain ⟨x1, f1, k⟩ := u
  obtain ⟨hN1, hp⟩ := hw
  obtain ⟨hP1, hK1, hD1, hz⟩ := hB
  rw [ht] at hP1 hz
  obtain ⟨hP2, hD2⟩ := va_join (wr := []) hP hD [0, 1, 2, 3, 4, 5, 6, 7, 8, 9, 10, 11, 12, 13, 14, 15, 16, 17, 18, 19] [] rfl rfl rfl (fun _ h => by cases h) hk1 hFc hP1 hD1
  exact kk r k x1 f1 H1 locs1 hN1 hp hP2 hD2 hS1 hz
/-- the same, with another object beside it -/
theorem y2_callS (S : CallFix p m c cc nL s args Ts own) (hN : N0 x f) (hL : LM l D cyI cyZ a y wsY rm As N0 Nt post mc ms) (cw : CallB R s args own index y bytes maxL rt wsY rm mc ms n ∧ (Cond.static y).before args s = true) (hXc : zXc A0 s s.heap)
    (hK : va_K D vwCl (tyI cyI cyZ) s) (hP : va_P D vwCl (wo cyI cyZ a x f ++ wo cyI cyZ b z g) H) (hD : va_D A0 (wo cyI cyZ a x f ++ wo cyI cyZ b z g)) (hS : va_S A0 s.heap H locs) (hA : ∀ q, s.heap.size ≤ q → A0 q)
    (hn : As.length = n) (hsize : ls.size = nL) (hW : (rest.map fun v => v.category).sum ≤ 8) (hfc : cells + mc ≤ R.cells) (hfs : slots + ms ≤ R.slots) (hst : st = As.reverse ++ rest) (hdg : decode cc pc = .ok (.invokestatic index, 3))
    (kk : ∀ (r : Int32) (k : Nat) (x : Nat → Int32) (f : Nat → Nat → Int32) (H1 : Heap) (locs1 : List Loc), Nt x f → post r k → va_P D vwCl (wo cyI cyZ b z g ++ wo cyI cyZ a x f) H1 → va_D A0 (wo cyI cyZ b z g ++ wo cyI cyZ a x f) → va_S A0 s.heap H1 locs1 → H.size + k ≤ H1.size → W p l e R s m args below meth c H1 locs1 (cells + mc) (slots + ms) Q (F0 m (pc + 3) ls (.int r :: rest))) : W p l e R s m args below meth c H locs cells slots Q (F0 m pc ls st) := by
  have hP0 : va_P D vwCl (wo cyI cyZ a x f) H := hP.sub [0, 1, 2, 3, 4, 5, 6, 7, 8, 9, 10, 11, 12, 13, 14, 15, 16, 17, 18, 19] rfl
  have hD0 : va_D A0 (wo cyI cyZ a x f) := hD.sub [0, 1, 2, 3, 4, 5, 6, 7, 8, 9, 10, 11, 12, 13, 14, 15, 16, 17, 18, 19] rfl rfl
  have hFc := va_free (wc := wo cyI cyZ a x f) hD hS hA [0, 1, 2, 3, 4, 5, 6, 7, 8, 9, 10, 11, 12, 13, 14, 15, 16, 17, 18, 19] rfl
  have hXH : zXc (va_A (wo cyI cyZ a x f) H.size) s H := zXc_narrow (zXc_kept hXc hS.2.1) hFc
  refine va_calli (va_runS S (hL x f H.size hN) cw ⟨zBlindX, fun U hU hW => ⟨rfl, ⟨by rw [hU], by rw [hU]; exact hP0, va_K.moved hW.alike hK, hD0.weaken (fun _ _ _ _ => trivial)⟩, by rw [hU]; exact zXc_moved hW.alike hXH⟩⟩ rfl hn hsize hst (lv_room hW) hdg ⟨hfc, hfs⟩) hS (fun q _ h => hFc q h) hFc (fun r u t H1 locs1 ht hvm hw hB hz1 hk1 hS1 => ?_)
  obtain ⟨x1, f1, k⟩ := u
  obtain ⟨hN1, hp⟩ := hw
  obtain ⟨hP1, hK1, hD1, hz⟩ := hB
  rw [ht] at hP1 hz
  obtain ⟨hP2, hD2⟩ := va_join (wr := wo cyI cyZ b z g) hP hD [0, 1, 2, 3, 4, 5, 6, 7, 8, 9, 10, 11, 12, 13, 14, 15, 16, 17, 18, 19] [20, 21, 22, 23, 24, 25, 26, 27, 28, 29, 30, 31, 32, 33, 34, 35, 36, 37, 38, 39] rfl rfl rfl (by decide) hk1 hFc hP1 hD1
  exact kk r k x1 f1 H1 locs1 hN1 hp hP2 hD2 hS1 hz
end YC
