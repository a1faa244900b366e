/-! rows of my own: areAlike, over two objects (printed by wip/p20/gen97.py) -/
abbrev y2T : Type := ((Nat → Int32) × (Nat → Nat → Int32)) × ((Nat → Int32) × (Nat → Nat → Int32))
abbrev y2Q (D : va_G) (cyI cyZ : ClassId) (a b : Nat → Nat) (M1 M2 : (Nat → Int32) → (Nat → Nat → Int32) → Prop) (A : Nat → Prop) : Array Value → State → Outcome → State → Prop :=
  va_Qi (fun (_ : Int32) (u : y2T) => M1 u.1.1 u.1.2 ∧ M2 u.2.1 u.2.2) (fun u t => va_P D vwCl (wo cyI cyZ a u.1.1 u.1.2 ++ wo cyI cyZ b u.2.1 u.2.2) t.heap ∧ va_K D vwCl (tyI cyI cyZ) t ∧ va_D A (wo cyI cyZ a u.1.1 u.1.2 ++ wo cyI cyZ b u.2.1 u.2.2)) A
section YA
variable {p : Program} {l : Launch} {e : Env} {R : Room} {s : State} {m : MethodId} {args : Array Value} {below : List Frame} {meth : Method} {c : Code} {H : Heap} {locs : List Loc} {cells slots : Nat} {Q : State → Prop}
variable {cc : ByteArray} {pc : Nat} {ls : Array Slot} {rest : List Value} {D : va_G} {cyI cyZ : ClassId} {a b : Nat → Nat} {A A0 : Nat → Prop} {H0 : Heap} {M1 M2 : (Nat → Int32) → (Nat → Nat → Int32) → Prop}
variable {y : MethodName} {bytes : ByteArray} {maxL nL n index mc ms : Nat} {rt : Option FieldType} {wsY : List Cond} {rm : Room} {Ts : List Cond} {own : String} {As : List Value} {st : List Value} {x z : Nat → Int32} {f g : Nat → Nat → Int32}
theorem y2_ret {r : Int32} {ty : FieldType} (hQ : Q = MQ below (y2Q D cyI cyZ a b M1 M2 A) args s cells slots A) (hexec : p.tables.exec = Jvm.exec) (hb : c.code = cc) (hr : meth.sig.returnType = some ty) (hn : narrow ty (.int r) = .int r) (hlocks : meth.locks = false) (h1 : M1 x f) (h2 : M2 z g) (hP : va_P D vwCl (wo cyI cyZ a x f ++ wo cyI cyZ b z g) H) (hK : va_K D vwCl (tyI cyI cyZ) s) (hD : va_D A (wo cyI cyZ a x f ++ wo cyI cyZ b z g)) (hS : va_S A s.heap H locs) (hdg : decode cc pc = .ok (.ireturn, 1)) : W p l e R s m args below meth c H locs cells slots Q (F0 m pc ls [.int r]) := by
  subst hQ
  exact W.zret (v := r) hexec hb hr hn (fun t ht hW => ⟨⟨r, ((x, f), (z, g)), rfl, ⟨h1, h2⟩, by rw [ht]; exact hP, va_K.moved hW.alike hK, hD⟩, hS.F ht⟩) hS.2.2 hdg hlocks
theorem y2_callA (S : CallFix p m c cc nL s args Ts own) (hM : Met l y wsY rm (va_Pc As (zPre D (wo cyI cyZ a x f ++ wo cyI cyZ b z g) (tyI cyI cyZ) H.size)) (y2Q D cyI cyZ a b M1 M2 (va_A (wo cyI cyZ a x f ++ wo cyI cyZ b z g) H.size)) 0 0 (va_A (wo cyI cyZ a x f ++ wo cyI cyZ b z g) H.size)) (cw : CallB R s args own index y bytes maxL rt wsY rm 0 0 n ∧ (Cond.static y).before args s = true)
    (hK : va_K D vwCl (tyI cyI cyZ) s) (hP : va_P D vwCl (wo cyI cyZ a x f ++ wo cyI cyZ b z g) H) (hD : va_D A0 (wo cyI cyZ a x f ++ wo cyI cyZ b z g)) (hS : va_S A0 H0 H locs) (hA : ∀ q, H0.size ≤ q → A0 q)
    (hn : As.length = n) (hsize : ls.size = nL) (hW : (rest.map fun v => v.category).sum ≤ 8) (hfc : cells ≤ R.cells) (hfs : slots ≤ R.slots) (hst : st = As.reverse ++ rest) (hdg : decode cc pc = .ok (.invokestatic index, 3))
    (kk : ∀ (r : Int32) (x : Nat → Int32) (f : Nat → Nat → Int32) (z : Nat → Int32) (g : Nat → Nat → Int32) (H1 : Heap) (locs1 : List Loc), M1 x f → M2 z g → va_P D vwCl (wo cyI cyZ a x f ++ wo cyI cyZ b z g) H1 → va_D A0 (wo cyI cyZ a x f ++ wo cyI cyZ b z g) → va_S A0 H0 H1 locs1 → H.size ≤ H1.size → W p l e R s m args below meth c H1 locs1 cells slots Q (F0 m (pc + 3) ls (.int r :: rest))) : W p l e R s m args below meth c H locs cells slots Q (F0 m pc ls st) := by
  have hFc := va_free (wc := wo cyI cyZ a x f ++ wo cyI cyZ b z g) hD hS hA [0, 1, 2, 3, 4, 5, 6, 7, 8, 9, 10, 11, 12, 13, 14, 15, 16, 17, 18, 19, 20, 21, 22, 23, 24, 25, 26, 27, 28, 29, 30, 31, 32, 33, 34, 35, 36, 37, 38, 39] rfl
  refine va_calli (va_runS S hM cw ⟨zBlind, fun U hU hW => ⟨rfl, by rw [hU], by rw [hU]; exact hP, va_K.moved hW.alike hK, hD.weaken (fun _ _ _ _ => trivial)⟩⟩ rfl hn hsize hst (lv_room hW) hdg ⟨hfc, hfs⟩) hS (fun q _ h => hFc q h) hFc (fun r u t H1 locs1 ht hvm hw hB hz1 hk1 hS1 => ?_)
  obtain ⟨⟨x1, f1⟩, z1, g1⟩ := u
  obtain ⟨hN1, hN2⟩ := hw
  obtain ⟨hP1, hK1, hD1⟩ := hB
  rw [ht] at hP1
  obtain ⟨hP2, hD2⟩ := va_join (wr := []) hP hD [0, 1, 2, 3, 4, 5, 6, 7, 8, 9, 10, 11, 12, 13, 14, 15, 16, 17, 18, 19, 20, 21, 22, 23, 24, 25, 26, 27, 28, 29, 30, 31, 32, 33, 34, 35, 36, 37, 38, 39] [] rfl rfl rfl (fun _ h => by cases h) hk1 hFc hP1 hD1
  exact kk r x1 f1 z1 g1 H1 locs1 hN1 hN2 hP2 hD2 hS1 hz1
end YA
theorem y2_ofW {l : Launch} {y : MethodName} {ws ws' : List Cond} {rm : Room} {cc : ByteArray} {maxL : Nat} {rt : Option FieldType} {av : List Value} {D : va_G} {cyI cyZ : ClassId} {a b : Nat → Nat} {M1 M2 : (Nat → Int32) → (Nat → Nat → Int32) → Prop} {W0 : va_W} {sz : Nat}
    (hy : plainName y.cls = true) (hw : ws = Cond.code y cc maxL rt :: ws') (hn : (lg_sl av).length ≤ maxL)
    (body : ∀ (p : Program) (e : Env) (s : State) (m : MethodId) (args : Array Value) (below : List Frame) (meth : Method) (c : Code) (ls : Array Slot) (A : Nat → Prop) (Q : State → Prop) (H : Heap) (locs : List Loc), Q = MQ below (y2Q D cyI cyZ a b M1 M2 A) args s 0 0 A → p.tables.exec = Jvm.exec → c.code = cc → meth.sig.returnType = rt → (∀ w ∈ ws, w.before args s = true) → s.vm.findClass y.cls = some m.cls → meth.locks = false → c.maxLocals = maxL → (∀ q, s.heap.size ≤ q → A q) → va_K D vwCl (tyI cyI cyZ) s → va_P D vwCl W0 H → va_D A W0 → va_S A s.heap H locs → lv_has ls maxL (lv_args 0 av) → W p l e rm s m args below meth c H locs 0 0 Q (F0 m 0 ls [])) :
    Met l y ws rm (va_Pc av (zPre D W0 (tyI cyI cyZ) sz)) (y2Q D cyI cyZ a b M1 M2 (va_A W0 sz)) 0 0 (va_A W0 sz) := by
  refine Met.ofW hy hw ?_
  intro p e s m args below meth c s₁ B hml hv
  obtain ⟨rfl, hsz, hP, hK, hD0⟩ := hv
  subst hsz
  rw [lg_entry_eq]
  exact body p e s m _ below meth c _ _ _ _ _ rfl B.exec B.bytes B.returns (atoms_spec (ws := ws) B.pre) (findClass_of_methodNamed B.named) B.notSynchronized hml (fun q h => Or.inr h) hK hP (hD0.self (sz := s.heap.size)) va_S.rf (lv_entry av hn)
section LMA
variable {l : Launch} {dC : Nat → ClassId} {dI : Nat → Nat → Nat} {cyI cyZ : ClassId} {a b : Nat → Nat} {m k : Nat} {F T P C U F' T' P' C' U' : Nat → Int}
set_option maxHeartbeats 4000000 in
set_option maxRecDepth 100000 in
theorem l_areAlike {x z : Nat → Int32} {f g : Nat → Nat → Int32} (sz : Nat) (hN : Net m F T P C U x f) (hN2 : Net k F' T' P' C' U' z g) : Met l yL_areAlike wsL_areAlike { frames := 8, cells := 0, slots := 0, locals := 170 } (va_Pc [.ref (a 0), .ref (b 0)] (zPre (dC, dI) (wo cyI cyZ a x f ++ wo cyI cyZ b z g) (tyI cyI cyZ) sz)) (y2Q (dC, dI) cyI cyZ a b (Net m F T P C U) (Net k F' T' P' C' U') (va_A (wo cyI cyZ a x f ++ wo cyI cyZ b z g) sz)) 0 0 (va_A (wo cyI cyZ a x f ++ wo cyI cyZ b z g) sz) := by
  refine y2_ofW (cc := cL_areAlike) (maxL := 4) (rt := (some .boolean)) (by decide) rfl (Nat.le_of_ble_eq_true rfl) ?_
  intro p e s mi args below meth c ls A Q H locs hQ hx hb hr hts hown hlocks hml hA hK hP hD hS hl
  have hl : lv_has ls 4 [(0, .ref (a 0)), (1, .ref (b 0))] := hl
  have k0 : ∀ (v3 : Int32) (x : Nat → Int32) (f : Nat → Nat → Int32) (z : Nat → Int32) (g : Nat → Nat → Int32) (H : Heap) (locs : List Loc) (ls : Array Slot), Net m F T P C U x f → Net k F' T' P' C' U' z g → va_P (dC, dI) vwCl (wo cyI cyZ a x f ++ wo cyI cyZ b z g) H → va_D A (wo cyI cyZ a x f ++ wo cyI cyZ b z g) → va_S A s.heap H locs → lv_has ls 4 [(3, .int v3), (2, .int 0), (0, .ref (a 0)), (1, .ref (b 0))] → W p l e { frames := 8, cells := 0, slots := 0, locals := 170 } s mi args below meth c H locs 0 0 Q (F0 mi 52 ls []) := by
    intro v3 x f z g H locs ls hN hN2 hP hD hS hl
    refine lv_iload_n hx hb dL_areAlike_52 rfl (lv_at hl 0 rfl) ?_
    refine lv_aload_n hx hb dL_areAlike_53 rfl (lv_at hl 2 rfl) ?_
    refine y2_call (As := []) (rest := [.int v3]) ⟨hx, hb, hml, hown, hts⟩ hN om_arcs (cwV 0 hts gL_areAlike_X4_arcs rfl rfl rfl (by decide +kernel) ⟨(Nat.le_of_ble_eq_true rfl), (Nat.le_of_ble_eq_true rfl)⟩) hK hP hD hS hA rfl hl.1 (Nat.le_of_ble_eq_true rfl) (Nat.le_of_ble_eq_true rfl) (Nat.le_of_ble_eq_true rfl) rfl dL_areAlike_54 (fun r1 x f H locs hN hr1 hP hD hS hz1 => ?_)
    have hP := y_sw hP
    have hD := y_swD hD
    obtain rfl : r1 = iI (m : Int) := hr1
    refine lv_icmp_ge (tgt := 102) hx hb dL_areAlike_57 (by decide) (fun c102 => ?_) (fun c102 => ?_)
    · refine lv_iload_n hx hb dL_areAlike_102 rfl (lv_at hl 1 rfl) ?_
      exact y2_ret hQ hx hb hr rfl hlocks hN hN2 hP hK hD hS dL_areAlike_103
    · refine lv_iload_n hx hb dL_areAlike_60 rfl (lv_at hl 1 rfl) ?_
      refine lv_if_eq (tgt := 102) hx hb dL_areAlike_61 (by decide) (fun _ => ?_) (fun c9 => absurd (by decide) c9)
      refine lv_iload_n hx hb dL_areAlike_102 rfl (lv_at hl 1 rfl) ?_
      exact y2_ret hQ hx hb hr rfl hlocks hN hN2 hP hK hD hS dL_areAlike_103
  have hmm : m ≤ 12 ∧ k ≤ 12 := by
    obtain ⟨⟨Wd, Vd, h⟩, -⟩ := id hN
    obtain ⟨⟨Wd', Vd', h'⟩, -⟩ := id hN2
    exact ⟨h.2.2.1, h'.2.2.1⟩
  have key : m = k → ∀ (n i : Nat) (x : Nat → Int32) (f : Nat → Nat → Int32) (z : Nat → Int32) (g : Nat → Nat → Int32) (H : Heap) (locs : List Loc) (ls : Array Slot), i + n = m → Net m F T P C U x f → Net k F' T' P' C' U' z g → va_P (dC, dI) vwCl (wo cyI cyZ a x f ++ wo cyI cyZ b z g) H → va_D A (wo cyI cyZ a x f ++ wo cyI cyZ b z g) → va_S A s.heap H locs → lv_has ls 4 [(3, .int (iI (i : Int))), (2, .int 1), (0, .ref (a 0)), (1, .ref (b 0))] → W p l e { frames := 8, cells := 0, slots := 0, locals := 170 } s mi args below meth c H locs 0 0 Q (F0 mi 52 ls []) := by
    intro hmk n
    induction n with
    | zero =>
      intro i x f z g H locs ls hin hN hN2 hP hD hS hl
      refine lv_iload_n hx hb dL_areAlike_52 rfl (lv_at hl 0 rfl) ?_
      refine lv_aload_n hx hb dL_areAlike_53 rfl (lv_at hl 2 rfl) ?_
      refine y2_call (As := []) (rest := [.int (iI (i : Int))]) ⟨hx, hb, hml, hown, hts⟩ hN om_arcs (cwV 0 hts gL_areAlike_X4_arcs rfl rfl rfl (by decide +kernel) ⟨(Nat.le_of_ble_eq_true rfl), (Nat.le_of_ble_eq_true rfl)⟩) hK hP hD hS hA rfl hl.1 (Nat.le_of_ble_eq_true rfl) (Nat.le_of_ble_eq_true rfl) (Nat.le_of_ble_eq_true rfl) rfl dL_areAlike_54 (fun r1 x f H locs hN hr1 hP hD hS hz1 => ?_)
      have hP := y_sw hP
      have hD := y_swD hD
      obtain rfl : r1 = iI (m : Int) := hr1
      refine lv_icmp_ge (tgt := 102) hx hb dL_areAlike_57 (by decide) (fun c102 => ?_) (fun c102 => ?_)
      · refine lv_iload_n hx hb dL_areAlike_102 rfl (lv_at hl 1 rfl) ?_
        exact y2_ret hQ hx hb hr rfl hlocks hN hN2 hP hK hD hS dL_areAlike_103
      · exfalso
        rw [iI_le (by omega) (by omega) (by omega) (by omega)] at c102
        omega
    | succ n ih =>
      intro i x f z g H locs ls hin hN hN2 hP hD hS hl
      refine lv_iload_n hx hb dL_areAlike_52 rfl (lv_at hl 0 rfl) ?_
      refine lv_aload_n hx hb dL_areAlike_53 rfl (lv_at hl 2 rfl) ?_
      refine y2_call (As := []) (rest := [.int (iI (i : Int))]) ⟨hx, hb, hml, hown, hts⟩ hN om_arcs (cwV 0 hts gL_areAlike_X4_arcs rfl rfl rfl (by decide +kernel) ⟨(Nat.le_of_ble_eq_true rfl), (Nat.le_of_ble_eq_true rfl)⟩) hK hP hD hS hA rfl hl.1 (Nat.le_of_ble_eq_true rfl) (Nat.le_of_ble_eq_true rfl) (Nat.le_of_ble_eq_true rfl) rfl dL_areAlike_54 (fun r1 x f H locs hN hr1 hP hD hS hz1 => ?_)
      have hP := y_sw hP
      have hD := y_swD hD
      obtain rfl : r1 = iI (m : Int) := hr1
      refine lv_icmp_ge (tgt := 102) hx hb dL_areAlike_57 (by decide) (fun c102 => ?_) (fun c102 => ?_)
      · refine lv_iload_n hx hb dL_areAlike_102 rfl (lv_at hl 1 rfl) ?_
        exact y2_ret hQ hx hb hr rfl hlocks hN hN2 hP hK hD hS dL_areAlike_103
      · have hi : i < m := by
          rw [iI_le (by omega) (by omega) (by omega) (by omega)] at c102
          omega
        have hi2 : i < k := by omega
        refine lv_iload_n hx hb dL_areAlike_60 rfl (lv_at hl 1 rfl) ?_
        refine lv_if_eq (tgt := 102) hx hb dL_areAlike_61 (by decide) (fun c9 => absurd c9 (by decide)) (fun _ => ?_)
        refine lv_aload_n hx hb dL_areAlike_64 rfl (lv_at hl 2 rfl) ?_
        refine lv_iload_n hx hb dL_areAlike_65 rfl (lv_at hl 0 rfl) ?_
        refine y2_call (As := [.int (iI (i : Int))]) (rest := []) ⟨hx, hb, hml, hown, hts⟩ hN (om_capacity hi) (cwV 1 hts gL_areAlike_X4_capacity rfl rfl rfl (by decide +kernel) ⟨(Nat.le_of_ble_eq_true rfl), (Nat.le_of_ble_eq_true rfl)⟩) hK hP hD hS hA rfl hl.1 (Nat.le_of_ble_eq_true rfl) (Nat.le_of_ble_eq_true rfl) (Nat.le_of_ble_eq_true rfl) rfl dL_areAlike_66 (fun r3 x f H locs hN hr3 hP hD hS hz1 => ?_)
        have hP := y_sw hP
        have hD := y_swD hD
        obtain rfl : r3 = iI (C i) := hr3
        refine lv_aload_n hx hb dL_areAlike_69 rfl (lv_at hl 3 rfl) ?_
        refine lv_iload_n hx hb dL_areAlike_70 rfl (lv_at hl 0 rfl) ?_
        refine y2_call (As := [.int (iI (i : Int))]) (rest := [.int (iI (C i))]) ⟨hx, hb, hml, hown, hts⟩ hN2 (om_capacity hi2) (cwV 1 hts gL_areAlike_X4_capacity rfl rfl rfl (by decide +kernel) ⟨(Nat.le_of_ble_eq_true rfl), (Nat.le_of_ble_eq_true rfl)⟩) hK (y_sw hP) (y_swD hD) hS hA rfl hl.1 (Nat.le_of_ble_eq_true rfl) (Nat.le_of_ble_eq_true rfl) (Nat.le_of_ble_eq_true rfl) rfl dL_areAlike_71 (fun r4 z g H locs hN2 hr4 hP hD hS hz1 => ?_)
        obtain rfl : r4 = iI (C' i) := hr4
        refine lv_icmp_ne (tgt := 94) hx hb dL_areAlike_74 (by decide) (fun c105 => ?_) (fun c105 => ?_)
        · refine lv_iconst (v := 0) hx hb dL_areAlike_94 (by decide) ?_
          refine lv_istore_n (lv' := [(2, .int 0), (3, .int (iI (i : Int))), (0, .ref (a 0)), (1, .ref (b 0))]) hx hb dL_areAlike_95 rfl hl (by decide) rfl (fun ls hl => ?_)
          refine lv_iinc (v := iI ((i + 1 : Nat) : Int)) (lv' := [(3, .int (iI ((i + 1 : Nat) : Int))), (2, .int 0), (0, .ref (a 0)), (1, .ref (b 0))]) hx hb dL_areAlike_96 hl (k := 1) rfl (show iI (i : Int) + iI 1 = _ by rw [iI_add]; rfl) (by decide) rfl (fun ls hl => ?_)
          refine lv_goto (tgt := 52) hx hb dL_areAlike_99 (by decide) ?_
          exact k0 _ _ _ _ _ _ _ _ hN hN2 hP hD hS (lv_sub hl [0, 1, 2, 3] rfl)
        · refine lv_aload_n hx hb dL_areAlike_77 rfl (lv_at hl 2 rfl) ?_
          refine lv_iload_n hx hb dL_areAlike_78 rfl (lv_at hl 0 rfl) ?_
          refine y2_call (As := [.int (iI (i : Int))]) (rest := []) ⟨hx, hb, hml, hown, hts⟩ hN (om_drivenOn hi) (cwV 1 hts gL_areAlike_X4_drivenOn rfl rfl rfl (by decide +kernel) ⟨(Nat.le_of_ble_eq_true rfl), (Nat.le_of_ble_eq_true rfl)⟩) hK hP hD hS hA rfl hl.1 (Nat.le_of_ble_eq_true rfl) (Nat.le_of_ble_eq_true rfl) (Nat.le_of_ble_eq_true rfl) rfl dL_areAlike_79 (fun r6 x f H locs hN hr6 hP hD hS hz1 => ?_)
          have hP := y_sw hP
          have hD := y_swD hD
          refine lv_aload_n hx hb dL_areAlike_82 rfl (lv_at hl 3 rfl) ?_
          refine lv_iload_n hx hb dL_areAlike_83 rfl (lv_at hl 0 rfl) ?_
          refine y2_call (As := [.int (iI (i : Int))]) (rest := [.int r6]) ⟨hx, hb, hml, hown, hts⟩ hN2 (om_drivenOn hi2) (cwV 1 hts gL_areAlike_X4_drivenOn rfl rfl rfl (by decide +kernel) ⟨(Nat.le_of_ble_eq_true rfl), (Nat.le_of_ble_eq_true rfl)⟩) hK (y_sw hP) (y_swD hD) hS hA rfl hl.1 (Nat.le_of_ble_eq_true rfl) (Nat.le_of_ble_eq_true rfl) (Nat.le_of_ble_eq_true rfl) rfl dL_areAlike_84 (fun r7 z g H locs hN2 hr7 hP hD hS hz1 => ?_)
          refine lv_icmp_ne (tgt := 94) hx hb dL_areAlike_87 (by decide) (fun c108 => ?_) (fun c108 => ?_)
          · refine lv_iconst (v := 0) hx hb dL_areAlike_94 (by decide) ?_
            refine lv_istore_n (lv' := [(2, .int 0), (3, .int (iI (i : Int))), (0, .ref (a 0)), (1, .ref (b 0))]) hx hb dL_areAlike_95 rfl hl (by decide) rfl (fun ls hl => ?_)
            refine lv_iinc (v := iI ((i + 1 : Nat) : Int)) (lv' := [(3, .int (iI ((i + 1 : Nat) : Int))), (2, .int 0), (0, .ref (a 0)), (1, .ref (b 0))]) hx hb dL_areAlike_96 hl (k := 1) rfl (show iI (i : Int) + iI 1 = _ by rw [iI_add]; rfl) (by decide) rfl (fun ls hl => ?_)
            refine lv_goto (tgt := 52) hx hb dL_areAlike_99 (by decide) ?_
            exact k0 _ _ _ _ _ _ _ _ hN hN2 hP hD hS (lv_sub hl [0, 1, 2, 3] rfl)
          · refine lv_iconst (v := 1) hx hb dL_areAlike_90 (by decide) ?_
            refine lv_goto (tgt := 95) hx hb dL_areAlike_91 (by decide) ?_
            refine lv_istore_n (lv' := [(2, .int 1), (3, .int (iI (i : Int))), (0, .ref (a 0)), (1, .ref (b 0))]) hx hb dL_areAlike_95 rfl hl (by decide) rfl (fun ls hl => ?_)
            refine lv_iinc (v := iI ((i + 1 : Nat) : Int)) (lv' := [(3, .int (iI ((i + 1 : Nat) : Int))), (2, .int 1), (0, .ref (a 0)), (1, .ref (b 0))]) hx hb dL_areAlike_96 hl (k := 1) rfl (show iI (i : Int) + iI 1 = _ by rw [iI_add]; rfl) (by decide) rfl (fun ls hl => ?_)
            refine lv_goto (tgt := 52) hx hb dL_areAlike_99 (by decide) ?_
            exact ih _ _ _ _ _ _ _ _ (by omega) hN hN2 hP hD hS (lv_sub hl [0, 1, 2, 3] rfl)
  refine lv_aload_n hx hb dL_areAlike_0 rfl (lv_at hl 0 rfl) ?_
  refine y2_call (As := []) (rest := []) ⟨hx, hb, hml, hown, hts⟩ hN om_arcs (cwV 0 hts gL_areAlike_X4_arcs rfl rfl rfl (by decide +kernel) ⟨(Nat.le_of_ble_eq_true rfl), (Nat.le_of_ble_eq_true rfl)⟩) hK hP hD hS hA rfl hl.1 (Nat.le_of_ble_eq_true rfl) (Nat.le_of_ble_eq_true rfl) (Nat.le_of_ble_eq_true rfl) rfl dL_areAlike_1 (fun r1 x f H locs hN hr1 hP hD hS hz1 => ?_)
  have hP := y_sw hP
  have hD := y_swD hD
  obtain rfl : r1 = iI (m : Int) := hr1
  refine lv_aload_n hx hb dL_areAlike_4 rfl (lv_at hl 1 rfl) ?_
  refine y2_call (As := []) (rest := [.int (iI (m : Int))]) ⟨hx, hb, hml, hown, hts⟩ hN2 om_arcs (cwV 0 hts gL_areAlike_X4_arcs rfl rfl rfl (by decide +kernel) ⟨(Nat.le_of_ble_eq_true rfl), (Nat.le_of_ble_eq_true rfl)⟩) hK (y_sw hP) (y_swD hD) hS hA rfl hl.1 (Nat.le_of_ble_eq_true rfl) (Nat.le_of_ble_eq_true rfl) (Nat.le_of_ble_eq_true rfl) rfl dL_areAlike_5 (fun r2 z g H locs hN2 hr2 hP hD hS hz1 => ?_)
  obtain rfl : r2 = iI (k : Int) := hr2
  refine lv_icmp_ne (tgt := 48) hx hb dL_areAlike_8 (by decide) (fun c103 => ?_) (fun c103 => ?_)
  · refine lv_iconst (v := 0) hx hb dL_areAlike_48 (by decide) ?_
    refine lv_istore_n (lv' := [(2, .int 0), (0, .ref (a 0)), (1, .ref (b 0))]) hx hb dL_areAlike_49 rfl hl (by decide) rfl (fun ls hl => ?_)
    refine lv_iconst (v := 0) hx hb dL_areAlike_50 (by decide) ?_
    refine lv_istore_n (lv' := [(3, .int 0), (2, .int 0), (0, .ref (a 0)), (1, .ref (b 0))]) hx hb dL_areAlike_51 rfl hl (by decide) rfl (fun ls hl => ?_)
    exact k0 _ _ _ _ _ _ _ _ hN hN2 hP hD hS hl
  · refine lv_aload_n hx hb dL_areAlike_11 rfl (lv_at hl 0 rfl) ?_
    refine y2_call (As := []) (rest := []) ⟨hx, hb, hml, hown, hts⟩ hN om_cost (cwV 0 hts gL_areAlike_X4_cost rfl rfl rfl (by decide +kernel) ⟨(Nat.le_of_ble_eq_true rfl), (Nat.le_of_ble_eq_true rfl)⟩) hK hP hD hS hA rfl hl.1 (Nat.le_of_ble_eq_true rfl) (Nat.le_of_ble_eq_true rfl) (Nat.le_of_ble_eq_true rfl) rfl dL_areAlike_12 (fun r4 x f H locs hN hr4 hP hD hS hz1 => ?_)
    have hP := y_sw hP
    have hD := y_swD hD
    refine lv_aload_n hx hb dL_areAlike_15 rfl (lv_at hl 1 rfl) ?_
    refine y2_call (As := []) (rest := [.int r4]) ⟨hx, hb, hml, hown, hts⟩ hN2 om_cost (cwV 0 hts gL_areAlike_X4_cost rfl rfl rfl (by decide +kernel) ⟨(Nat.le_of_ble_eq_true rfl), (Nat.le_of_ble_eq_true rfl)⟩) hK (y_sw hP) (y_swD hD) hS hA rfl hl.1 (Nat.le_of_ble_eq_true rfl) (Nat.le_of_ble_eq_true rfl) (Nat.le_of_ble_eq_true rfl) rfl dL_areAlike_16 (fun r5 z g H locs hN2 hr5 hP hD hS hz1 => ?_)
    refine lv_icmp_ne (tgt := 48) hx hb dL_areAlike_19 (by decide) (fun c106 => ?_) (fun c106 => ?_)
    · refine lv_iconst (v := 0) hx hb dL_areAlike_48 (by decide) ?_
      refine lv_istore_n (lv' := [(2, .int 0), (0, .ref (a 0)), (1, .ref (b 0))]) hx hb dL_areAlike_49 rfl hl (by decide) rfl (fun ls hl => ?_)
      refine lv_iconst (v := 0) hx hb dL_areAlike_50 (by decide) ?_
      refine lv_istore_n (lv' := [(3, .int 0), (2, .int 0), (0, .ref (a 0)), (1, .ref (b 0))]) hx hb dL_areAlike_51 rfl hl (by decide) rfl (fun ls hl => ?_)
      exact k0 _ _ _ _ _ _ _ _ hN hN2 hP hD hS hl
    · refine lv_aload_n hx hb dL_areAlike_22 rfl (lv_at hl 0 rfl) ?_
      refine y2_call (As := []) (rest := []) ⟨hx, hb, hml, hown, hts⟩ hN om_driven (cwV 0 hts gL_areAlike_X4_driven rfl rfl rfl (by decide +kernel) ⟨(Nat.le_of_ble_eq_true rfl), (Nat.le_of_ble_eq_true rfl)⟩) hK hP hD hS hA rfl hl.1 (Nat.le_of_ble_eq_true rfl) (Nat.le_of_ble_eq_true rfl) (Nat.le_of_ble_eq_true rfl) rfl dL_areAlike_23 (fun r7 x f H locs hN hr7 hP hD hS hz1 => ?_)
      have hP := y_sw hP
      have hD := y_swD hD
      refine lv_aload_n hx hb dL_areAlike_26 rfl (lv_at hl 1 rfl) ?_
      refine y2_call (As := []) (rest := [.int r7]) ⟨hx, hb, hml, hown, hts⟩ hN2 om_driven (cwV 0 hts gL_areAlike_X4_driven rfl rfl rfl (by decide +kernel) ⟨(Nat.le_of_ble_eq_true rfl), (Nat.le_of_ble_eq_true rfl)⟩) hK (y_sw hP) (y_swD hD) hS hA rfl hl.1 (Nat.le_of_ble_eq_true rfl) (Nat.le_of_ble_eq_true rfl) (Nat.le_of_ble_eq_true rfl) rfl dL_areAlike_27 (fun r8 z g H locs hN2 hr8 hP hD hS hz1 => ?_)
      refine lv_icmp_ne (tgt := 48) hx hb dL_areAlike_30 (by decide) (fun c109 => ?_) (fun c109 => ?_)
      · refine lv_iconst (v := 0) hx hb dL_areAlike_48 (by decide) ?_
        refine lv_istore_n (lv' := [(2, .int 0), (0, .ref (a 0)), (1, .ref (b 0))]) hx hb dL_areAlike_49 rfl hl (by decide) rfl (fun ls hl => ?_)
        refine lv_iconst (v := 0) hx hb dL_areAlike_50 (by decide) ?_
        refine lv_istore_n (lv' := [(3, .int 0), (2, .int 0), (0, .ref (a 0)), (1, .ref (b 0))]) hx hb dL_areAlike_51 rfl hl (by decide) rfl (fun ls hl => ?_)
        exact k0 _ _ _ _ _ _ _ _ hN hN2 hP hD hS hl
      · refine lv_aload_n hx hb dL_areAlike_33 rfl (lv_at hl 0 rfl) ?_
        refine y2_call (As := []) (rest := []) ⟨hx, hb, hml, hown, hts⟩ hN om_most (cwV 0 hts gL_areAlike_X4_most rfl rfl rfl (by decide +kernel) ⟨(Nat.le_of_ble_eq_true rfl), (Nat.le_of_ble_eq_true rfl)⟩) hK hP hD hS hA rfl hl.1 (Nat.le_of_ble_eq_true rfl) (Nat.le_of_ble_eq_true rfl) (Nat.le_of_ble_eq_true rfl) rfl dL_areAlike_34 (fun r10 x f H locs hN hr10 hP hD hS hz1 => ?_)
        have hP := y_sw hP
        have hD := y_swD hD
        refine lv_aload_n hx hb dL_areAlike_37 rfl (lv_at hl 1 rfl) ?_
        refine y2_call (As := []) (rest := [.int r10]) ⟨hx, hb, hml, hown, hts⟩ hN2 om_most (cwV 0 hts gL_areAlike_X4_most rfl rfl rfl (by decide +kernel) ⟨(Nat.le_of_ble_eq_true rfl), (Nat.le_of_ble_eq_true rfl)⟩) hK (y_sw hP) (y_swD hD) hS hA rfl hl.1 (Nat.le_of_ble_eq_true rfl) (Nat.le_of_ble_eq_true rfl) (Nat.le_of_ble_eq_true rfl) rfl dL_areAlike_38 (fun r11 z g H locs hN2 hr11 hP hD hS hz1 => ?_)
        refine lv_icmp_ne (tgt := 48) hx hb dL_areAlike_41 (by decide) (fun c112 => ?_) (fun c112 => ?_)
        · refine lv_iconst (v := 0) hx hb dL_areAlike_48 (by decide) ?_
          refine lv_istore_n (lv' := [(2, .int 0), (0, .ref (a 0)), (1, .ref (b 0))]) hx hb dL_areAlike_49 rfl hl (by decide) rfl (fun ls hl => ?_)
          refine lv_iconst (v := 0) hx hb dL_areAlike_50 (by decide) ?_
          refine lv_istore_n (lv' := [(3, .int 0), (2, .int 0), (0, .ref (a 0)), (1, .ref (b 0))]) hx hb dL_areAlike_51 rfl hl (by decide) rfl (fun ls hl => ?_)
          exact k0 _ _ _ _ _ _ _ _ hN hN2 hP hD hS hl
        · refine lv_iconst (v := 1) hx hb dL_areAlike_44 (by decide) ?_
          refine lv_goto (tgt := 49) hx hb dL_areAlike_45 (by decide) ?_
          refine lv_istore_n (lv' := [(2, .int 1), (0, .ref (a 0)), (1, .ref (b 0))]) hx hb dL_areAlike_49 rfl hl (by decide) rfl (fun ls hl => ?_)
          refine lv_iconst (v := 0) hx hb dL_areAlike_50 (by decide) ?_
          refine lv_istore_n (lv' := [(3, .int 0), (2, .int 1), (0, .ref (a 0)), (1, .ref (b 0))]) hx hb dL_areAlike_51 rfl hl (by decide) rfl (fun ls hl => ?_)
          have hmk : m = k := by
            rw [iI_eq (by omega) (by omega) (by omega) (by omega)] at c103
            omega
          exact key hmk m 0 _ _ _ _ _ _ _ (Nat.zero_add m) hN hN2 hP hD hS hl
end LMA
