/-! rows of my own: methods that throw -/
def zNm : List String := ["java/lang/RuntimeException", "java/lang/Exception"]
def zEx : Nat → String
  | 1 => "java/lang/IndexOutOfBoundsException"
  | 2 => "java/lang/IllegalArgumentException"
  | _ => "java/lang/IllegalStateException"
def zBw : List Cond := (vx_at0 RX4 103 (zEx 1) zNm ++ vx_at0 RX4 69 (zEx 2) zNm ++ vx_at0 RX4 75 (zEx 3) zNm).filter (fun w => !goodWord w)
def zMv : Cond → Bool
  | .castable _ _ => true
  | .declares _ => true
  | _ => false
theorem zBw_mv : ∀ w ∈ zBw, zMv w = true := by decide +kernel
theorem zMv_ot {w : Cond} (h : zMv w = true) : w.onTables = true := by
  cases w <;> first | rfl | (simp [zMv] at h)
theorem zMv_moved {w : Cond} (h : zMv w = true) {u U : State} (hvm : u.vm.Alike U.vm) (hb : w.before #[] u = true) : w.before #[] U = true := by
  have tr : ∀ {c : Cond}, c.onTables = true → c.before #[] (u.setVm U.vm) = true → c.before #[] U = true := by
    intro c hc h
    have e := Cond.onTables_vm (A := #[]) (A' := #[]) (U := u) (U' := U) U.vm c hc
    have hU : U.setVm U.vm = U := rfl
    rw [hU] at e
    rw [← e]
    exact h
  cases w <;> first
    | (simp [zMv] at h; done)
    | exact tr rfl (by rw [Cond.castable_setVm hvm]; exact hb)
    | exact tr rfl (by rw [Cond.declares_setVm hvm]; exact hb)
/-- what a throw asks of the tables and of the heap, beside the method's words -/
def zXc (A : Nat → Prop) (U : State) (H : Heap) : Prop :=
  (∀ w ∈ zBw, w.before #[] U = true) ∧ (va_Nc (zEx 2) (zEx 1) U ∧ va_Nc (zEx 3) (zEx 1) U ∧ va_Nc (zEx 3) (zEx 2) U) ∧ vx_Zq Bundle.tN "UNASSIGNED_STACK" Bundle.steD A U H ∧ vx_Zq Bundle.tN "SUPPRESSED_SENTINEL" Bundle.listD A U H
theorem zXc_moved {A : Nat → Prop} {u U : State} {H : Heap} (hvm : u.vm.Alike U.vm) (h : zXc A u H) : zXc A U H :=
  ⟨fun w hw => zMv_moved (zBw_mv w hw) hvm (h.1 w hw), ⟨h.2.1.1.moved hvm, h.2.1.2.1.moved hvm, h.2.1.2.2.moved hvm⟩, vx_Zq.moved hvm h.2.2.1, vx_Zq.moved hvm h.2.2.2⟩
theorem zXc_kept {A : Nat → Prop} {U : State} {H H1 : Heap} (h : zXc A U H) (hq : ∀ a : Nat, a < H.size → ¬ A a → H1[a]? = H[a]?) : zXc A U H1 := ⟨h.1, h.2.1, h.2.2.1.kept hq, h.2.2.2.kept hq⟩
theorem zXc_narrow {A B : Nat → Prop} {U : State} {H : Heap} (h : zXc A U H) (hAB : ∀ q, B q → A q) : zXc B U H := ⟨h.1, h.2.1, h.2.2.1.narrow hAB, h.2.2.2.narrow hAB⟩
abbrev zPreX (D : va_G) (ws : va_W) (tys : List (ClassId × FieldType)) (sz : Nat) : State → Prop := fun U => zPre D ws tys sz U ∧ zXc (va_A ws sz) U U.heap
theorem zBlindX {D : va_G} {ws : va_W} {tys : List (ClassId × FieldType)} {sz : Nat} {av : List Value} : FrameBlind (va_Pc av (zPreX D ws tys sz)) := by
  intro a U g mk q
  obtain ⟨q0, q1, q2⟩ := q
  obtain ⟨p0, p1⟩ := zBlind (D := D) (ws := ws) (tys := tys) (sz := sz) (av := av) a U g mk ⟨q0, q1⟩
  exact ⟨p0, p1, zXc_moved (u := U) (U := U.calling g mk a) (Vm.Alike.refl U.vm) q2⟩
abbrev zNv (A : Nat → Prop) : Array Value → State → Outcome → State → Prop := va_Qv (fun (_ : Unit) => False) (fun (_ : Unit) (_ : State) => True) A
abbrev zNi (A : Nat → Prop) : Array Value → State → Outcome → State → Prop := va_Qi (fun (_ : Int32) (_ : Unit) => False) (fun (_ : Unit) (_ : State) => True) A
abbrev zX (D : va_G) (ws : va_W) (tys : List (ClassId × FieldType)) (k : Nat) (A : Nat → Prop) : String → State → State → Prop := vx_X (fun (_ : Unit) => True) (fun E _ t => E = zEx k ∧ va_P D vwCl ws t.heap ∧ va_K D vwCl tys t ∧ va_D A ws) A
/-- a picture that may throw: a number of an exception, or an answer -/
def bndx {A B : Type} (x : Option (Nat ⊕ A)) (f : A → Option (Nat ⊕ B)) : Option (Nat ⊕ B) := x.bind (fun o => match o with
  | .inl k => some (.inl k)
  | .inr a => f a)
theorem bdxr {A B : Type} {x : Option (Nat ⊕ A)} {f : A → Option (Nat ⊕ B)} {r : B} (h : bndx x f = some (.inr r)) : ∃ a, x = some (.inr a) ∧ f a = some (.inr r) := by
  cases x with
  | none => cases h
  | some o =>
    cases o with
    | inl k => cases h
    | inr a => exact ⟨a, rfl, h⟩
theorem bdxl {A B : Type} {x : Option (Nat ⊕ A)} {f : A → Option (Nat ⊕ B)} {k : Nat} (h : bndx x f = some (.inl k)) : x = some (.inl k) ∨ ∃ a, x = some (.inr a) ∧ f a = some (.inl k) := by
  cases x with
  | none => cases h
  | some o =>
    cases o with
    | inl k' => left; cases h; rfl
    | inr a => exact Or.inr ⟨a, rfl, h⟩
def rgt {A : Type} (x : Option A) : Option (Nat ⊕ A) := x.bind (fun r => some (.inr r))
theorem rgtr {A : Type} {x : Option A} {r : A} (h : rgt x = some (.inr r)) : x = some r := by
  cases x with
  | none => cases h
  | some o => cases h; rfl
theorem rgtl {A : Type} {x : Option A} {k : Nat} {P : Prop} (h : rgt x = some (.inl k)) : P := by
  cases x with
  | none => cases h
  | some o => cases h
theorem va_P_kept {D : va_G} {cl : List vw_C} {ws : va_W} {H H1 : Heap} (h : va_P D cl ws H) (hk : ∀ q : Nat, q < H.size → H1[q]? = H[q]?) : va_P D cl ws H1 := fun k q hq => (h k q hq).kept (hk q.1 (h k q hq).lt)
section QX
variable {p : Program} {l : Launch} {e : Env} {R : Room} {s : State} {m : MethodId} {args : Array Value} {below : List Frame} {meth : Method} {c : Code} {H : Heap} {locs : List Loc} {cells slots : Nat} {Q : State → Prop}
variable {cc : ByteArray} {pc : Nat} {ls : Array Slot} {rest : List Value} {D : va_G} {ws : va_W} {tys : List (ClassId × FieldType)} {a : Nat} {A A0 : Nat → Prop} {H0 : Heap}
variable {Qc : Array Value → State → Outcome → State → Prop} {k : Nat}
theorem q_throw {own : String} {ik ic : Nat} (hQ : Q = vx_MQ below Qc (zX D ws tys k A) args s 1 6 A) (hexec : p.tables.exec = Jvm.exec) (hb : c.code = cc) (hl : l.stackTraces = false) (hlocks : meth.locks = false) (hown : s.vm.findClass own = some m.cls)
    (hcls : Bundle.fit (zEx k) = true) (hk : (Cond.classLink own ik (zEx k)).before args s = true) (hini : (Cond.initialized (zEx k)).before args s = true) (hat1 : ∀ w ∈ (vx_at0 own ic (zEx k) zNm).filter goodWord, w.before args s = true)
    (hat2 : ∀ w ∈ (vx_at0 own ic (zEx k) zNm).filter (fun w => !goodWord w), w ∈ zBw) (hgood : ∀ w ∈ Cond.classLink own ik (zEx k) :: Cond.initialized (zEx k) :: vx_at0 own ic (zEx k) zNm, vx_ot w = true)
    (hXc : zXc A s s.heap) (hout : ∀ x ∈ c.exceptionTable.toList, False) (hK : va_K D vwCl tys s) (hP : va_P D vwCl ws H) (hD : va_D A ws) (hS : va_S A s.heap H locs) (hsize : ls.size = c.maxLocals)
    (hRf : 5 < R.frames) (hRl : (rest.map fun v => v.category).sum + 81 ≤ R.locals) (hRc : cells + 1 ≤ R.cells) (hRs : slots + 6 ≤ R.slots) (hc : cells + 1 ≤ 1) (hs : slots + 6 ≤ 6)
    (d0 : decode cc pc = .ok (.new ik, 3)) (d3 : decode cc (pc + 3) = .ok (.dup, 1)) (d4 : decode cc (pc + 4) = .ok (.invokespecial ic, 3)) (d7 : decode cc (pc + 7) = .ok (.athrow, 1)) : W p l e R s m args below meth c H locs cells slots Q (F0 m pc ls rest) := by
  subst hQ
  exact vx_throw0 hexec hb hl (names := zNm) hown hcls (by decide +kernel) hk hini (vx_hat hat1 hat2 (fun w hw => va_any (zMv_ot (zBw_mv w hw)) (hXc.1 w hw))) hgood hXc.2.2.1 hXc.2.2.2 hS hsize d0 d3 d4 d7 (fun x hx => (hout x hx).elim) hRf hRl hRc hRs hlocks
    (fun t hvm hz hk1 => ⟨(), trivial, ⟨rfl, va_P_kept hP hk1, va_K.moved hvm hK, hD⟩, Nat.le_trans hS.1 hz, fun q h1 h2 => by rw [hk1 q (Nat.lt_of_lt_of_le h1 hS.1)]; exact hS.2.1 q h1 h2⟩) hS.2.2 hc hs
variable {y : MethodName} {bytes : ByteArray} {maxL nL n index : Nat} {rt : Option FieldType} {wsY : List Cond} {rm : Room} {Ts : List Cond} {own C : String} {b : Nat} {As : List Value} {st : List Value}
/-- a call that throws, and goes on to the caller -/
theorem q_callXv (hQ : Q = vx_MQ below Qc (zX D ws tys k A) args s 1 6 A) (S : CallFix p m c cc nL s args Ts own) (hlocks : meth.locks = false) (hM : vx_Met l y wsY rm (va_Pc (.ref b :: As) (zPreX D ws tys H.size)) (zNv (va_A ws H.size)) (zX D ws tys k (va_A ws H.size)) 1 6 (va_A ws H.size))
    (cw : CallW R s args own C index y bytes maxL rt wsY rm 1 6 n) (hXc : zXc A s s.heap) (hout : ∀ x ∈ c.exceptionTable.toList, False) (hK : va_K D vwCl tys s) (hP : va_P D vwCl ws H) (hD : va_D A ws) (hS : va_S A s.heap H locs) (hA : ∀ q, s.heap.size ≤ q → A q)
    (isC : List Nat) (hC : isC.map (fun i => ws[i]?) = ws.map some)
    (ci q0 : Nat) {T : u_T} {N : Nat} {fs : List Value} (hcl : vwCl[ci]? = some (C, T, N)) (hrec : ws[q0]? = some (b, .inr (ci, fs)))
    (hn : As.length = n) (hsize : ls.size = nL) (hW : (rest.map fun v => v.category).sum ≤ 8) (hfc : cells + 1 ≤ R.cells) (hfs : slots + 6 ≤ R.slots) (hc1 : cells + 1 ≤ 1) (hs1 : slots + 6 ≤ 6) (hst : st = As.reverse ++ .ref b :: rest) (hdg : decode cc pc = .ok (.invokevirtual index, 3)) : W p l e R s m args below meth c H locs cells slots Q (F0 m pc ls st) := by
  have hFc := va_free (wc := ws) hD hS hA isC hC
  have hXH : zXc (va_A ws H.size) s H := zXc_narrow (zXc_kept hXc hS.2.1) hFc
  refine vx_callv (vx_runV S hM cw ⟨zBlindX, va_recv hK hP hcl hrec, fun U hU hW => ⟨rfl, ⟨by rw [hU], by rw [hU]; exact hP, va_K.moved hW.alike hK, hD.weaken (fun _ _ _ _ => trivial)⟩, by rw [hU]; exact zXc_moved hW.alike hXH⟩⟩ rfl hn hsize hst (lv_room hW) hdg ⟨hfc, hfs⟩) hS (fun q _ h => hFc q h) hFc (fun q _ h => hFc q h) (fun E ce q9 u t H1 locs1 ht hvm _ hB hz1 hk1 hS1 hce hcv hcl1 => ?_) (fun u t H1 locs1 ht hvm hw hB hz1 hk1 hS1 => hw.elim)
  obtain ⟨hE, hP1, hK1, hD1⟩ := hB
  subst hQ
  exact vx_out (fun x hx => (hout x hx).elim) hlocks hce hcv hcl1 (fun t2 ht2 hvm2 => ⟨(), trivial, ⟨hE, by rw [ht2, ← ht]; exact hP1, va_K.moved hvm2 hK, hD⟩, hS1.F ht2⟩) hS1.2.2 hc1 hs1
end QX
theorem q_ofXt {l : Launch} {y : MethodName} {ws ws' : List Cond} {rm : Room} {cc : ByteArray} {maxL : Nat} {rt : Option FieldType} {av : List Value} {D : va_G} {W0 : va_W} {tys : List (ClassId × FieldType)} {sz k : Nat} {Qc : Array Value → State → Outcome → State → Prop}
    (hy : plainName y.cls = true) (hw : ws = Cond.code y cc maxL rt :: ws') (hn : (lg_sl av).length ≤ maxL)
    (body : ∀ (p : Program) (e : Env) (s : State) (m : MethodId) (args : Array Value) (below : List Frame) (meth : Method) (c : Code) (ls : Array Slot) (A : Nat → Prop) (Q : State → Prop) (H : Heap) (locs : List Loc), Q = vx_MQ below Qc (zX D W0 tys k A) args s 1 6 A → p.tables.exec = Jvm.exec → c.code = cc → meth.sig.returnType = rt → (∀ w ∈ ws, w.before args s = true) → s.vm.findClass y.cls = some m.cls → meth.locks = false → c.maxLocals = maxL → (∀ q, s.heap.size ≤ q → A q) → va_K D vwCl tys s → va_P D vwCl W0 H → va_D A W0 → va_S A s.heap H locs → lv_has ls maxL (lv_args 0 av) → (∀ x ∈ c.exceptionTable.toList, False) → zXc A s s.heap → W p l e rm s m args below meth c H locs 0 0 Q (F0 m 0 ls [])) :
    vx_Met l y ws rm (va_Pc av (zPreX D W0 tys sz)) Qc (zX D W0 tys k (va_A W0 sz)) 1 6 (va_A W0 sz) := by
  refine vx_ofW hy hw ?_
  intro p e s m args below meth c s₁ B hml hout hv
  obtain ⟨rfl, ⟨hsz, hP, hK, hD0⟩, hXc⟩ := hv
  subst hsz
  rw [lg_entry_eq]
  exact body p e s m _ below meth c _ _ _ _ _ rfl B.exec B.bytes B.returns (atoms_spec (ws := ws) B.pre) (findClass_of_methodNamed B.named) B.notSynchronized hml (fun q h => Or.inr h) hK hP (hD0.self (sz := s.heap.size)) va_S.rf (lv_entry av hn) hout hXc
