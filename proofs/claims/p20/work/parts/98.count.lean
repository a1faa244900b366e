/-! rows of my own: counting cells; the script -/
theorem php : ∀ (B n : Nat) (g : Nat → Nat), (∀ i, i < n → g i < B) → (∀ i j, i < n → j < n → g i = g j → i = j) → n ≤ B := by
  intro B
  induction B with
  | zero =>
    intro n g h _
    cases n with
    | zero => exact Nat.le_refl 0
    | succ n => exact absurd (h 0 (Nat.succ_pos n)) (Nat.not_lt_zero _)
  | succ B ih =>
    intro n g h hi
    by_cases hB : ∃ k, k < n ∧ g k = B
    · obtain ⟨k, hk, e⟩ := hB
      have h9 : n - 1 ≤ B := ih (n - 1) (fun i => if i = k then g (n - 1) else g i) (by
        intro i hin
        show (if i = k then g (n - 1) else g i) < B
        by_cases c : i = k
        · rw [if_pos c]
          have h1 := h (n - 1) (by omega)
          have h2 : g (n - 1) ≠ B := fun e3 => by
            have := hi (n - 1) k (by omega) hk (e3.trans e.symm)
            omega
          omega
        · rw [if_neg c]
          have h1 := h i (by omega)
          have h2 : g i ≠ B := fun e3 => c (hi i k (by omega) hk (e3.trans e.symm))
          omega) (by
        intro i j h1 h2 e2
        have e2 : (if i = k then g (n - 1) else g i) = (if j = k then g (n - 1) else g j) := e2
        by_cases c : i = k
        · by_cases c2 : j = k
          · omega
          · rw [if_pos c, if_neg c2] at e2
            have := hi (n - 1) j (by omega) (by omega) e2
            omega
        · by_cases c2 : j = k
          · rw [if_neg c, if_pos c2] at e2
            have := hi i (n - 1) (by omega) (by omega) e2
            omega
          · rw [if_neg c, if_neg c2] at e2
            exact hi i j (by omega) (by omega) e2)
      omega
    · have h9 : n ≤ B := ih n g (by
        intro i hin
        have h1 := h i hin
        have h2 : g i ≠ B := fun e => hB ⟨i, hin, e⟩
        omega) hi
      omega
theorem y_pig {D : va_G} {ws : va_W} {A : Nat → Prop} {H : Heap} {lo n : Nat} (hP : va_P D vwCl ws H) (hD : va_D A ws) (hA : ∀ q, A q → lo ≤ q) (hlo : lo ≤ H.size) (hn : ws.length = n) : lo + n ≤ H.size := by
  have key : ∀ i, i < n → ∃ q : Nat × va_E, ws[i]? = some q ∧ lo ≤ q.1 ∧ q.1 < H.size := fun i hi => by
    have hq : ws[i]? = some (ws[i]'(by omega)) := List.getElem?_eq_getElem (by omega)
    exact ⟨_, hq, hA _ (hD.2 i _ hq), (hP i _ hq).lt⟩
  have h9 : n ≤ H.size - lo := php (H.size - lo) n (fun i => ((ws[i]?).map Prod.fst).getD 0 - lo) (by
    intro i hi
    obtain ⟨q, hq, h1, h2⟩ := key i hi
    show ((ws[i]?).map Prod.fst).getD 0 - lo < H.size - lo
    rw [hq]
    show q.1 - lo < H.size - lo
    omega) (by
    intro i j hi hj e
    obtain ⟨q, hq, h1, h2⟩ := key i hi
    obtain ⟨q', hq', h3, h4⟩ := key j hj
    have e : ((ws[i]?).map Prod.fst).getD 0 - lo = ((ws[j]?).map Prod.fst).getD 0 - lo := e
    rw [hq, hq'] at e
    have e : q.1 - lo = q'.1 - lo := e
    exact hD.1 i j q q' hq hq' (by omega))
  omega
theorem y_six : ∀ e : Nat, e < 40 → ((iI (e : Int) - iI (e : Int) / 6 * 6 = 5) ↔ e % 6 = 5) := by decide +kernel
/-- what the checks of the turns before e make at least -/
def gG : Nat → Nat
  | 0 => 0
  | e + 1 => gG e + (if e % 6 = 5 then 2 * min e 12 else 0)
theorem gG_s (e : Nat) : gG (e + 1) = gG e + (if e % 6 = 5 then 2 * min e 12 else 0) := rfl
theorem gG_40 : gG 40 = 128 := by decide
theorem zclsZ {D : va_G} {cl : List vw_C} {tys : List (ClassId × FieldType)} {U : State} (hK : va_K D cl tys U) (i j : Nat) {c1 c2 : ClassId} (h1 : tys[i]? = some (c1, .boolean)) (h2 : tys[j]? = some (c2, .boolean)) : c2 = c1 := by
  have e1 : U.vm.findClass ("[" ++ (FieldType.boolean).toString) = some c1 := (hK.2 i _ h1).2
  have e2 : U.vm.findClass ("[" ++ (FieldType.boolean).toString) = some c2 := (hK.2 j _ h2).2
  exact Option.some.inj (e2.symm.trans e1)
theorem oN (L : Nat) : Int32.ofNat L = iI (L : Int) := Int32.ofInt_eq_ofNat.symm
def zPreC (b L : Nat) (xs : Nat → Int32) (sz : Nat) : State → Prop := fun U => U.heap.size = sz ∧ va_X b L xs U U.heap ∧ b < sz
theorem zBlindC {b L : Nat} {xs : Nat → Int32} {sz : Nat} {av : List Value} : FrameBlind (va_Pc av (zPreC b L xs sz)) := by
  intro a U g mk q
  obtain ⟨q0, q1, q2, q3⟩ := q
  exact ⟨q0, q1, va_X.moved (u := U) (U := U.calling g mk a) (Vm.Alike.refl U.vm) q2, q3⟩
theorem c_L_cell (l : Launch) (b L : Nat) (xs : Nat → Int32) (k : Nat) (hk : k < L) (hL : L ≤ 260) (sz : Nat) : Met l yL_cell wsL_cell { frames := 0, cells := 0, slots := 0, locals := 0 } (va_Pc [.ref b, .int (iI (k : Int))] (zPreC b L xs sz)) (va_Qi (fun (r : Int32) (_ : Unit) => r = xs k) (fun _ _ => True) (va_A [] sz)) 0 0 (va_A [] sz) := by
  refine Met.ofW (cc := cL_cell) (maxL := 2) (ret := (some .int)) (by decide) rfl ?_
  intro p e s m args below meth c s₁ B hml hv
  obtain ⟨rfl, hsz, hX, hbl⟩ := hv
  subst hsz
  have hx := B.exec
  have hb := B.bytes
  have hr := B.returns
  have hlocks := B.notSynchronized
  have hS : va_S (va_A [] s.heap.size) s.heap s.heap [] := va_S.rf
  have hbA : ¬ va_A [] s.heap.size b := by
    rintro (⟨k, e9, h⟩ | h)
    · cases h
    · omega
  have key : ∀ ls : Array Slot, lv_has ls 2 [(0, .ref b), (1, .int (iI (k : Int)))] → W p l e (headSpec wsL_cell { frames := 0, cells := 0, slots := 0, locals := 0 }).room s m ([Value.ref b, Value.int (iI (k : Int))] : List Value).toArray below meth c s.heap [] 0 0 (MQ below (va_Qi (fun (r : Int32) (_ : Unit) => r = xs k) (fun _ _ => True) (va_A [] s.heap.size)) ([Value.ref b, Value.int (iI (k : Int))] : List Value).toArray s 0 0 (va_A [] s.heap.size)) (F0 m 0 ls []) := by
    intro ls hl
    refine lv_iload_n hx hb dL_cell_0 rfl (lv_at hl 1 rfl) ?_
    refine lv_aload_n hx hb dL_cell_1 rfl (lv_at hl 0 rfl) ?_
    refine va_slen hx hb hX hbl hbA hS dL_cell_2 ?_
    refine lv_icmp_ge (tgt := 12) hx hb dL_cell_3 (by decide) (fun c9 => ?_) (fun c9 => ?_)
    · exfalso
      rw [oN, iI_le (by omega) (by omega) (by omega) (by omega)] at c9
      omega
    · refine lv_aload_n hx hb dL_cell_6 rfl (lv_at hl 0 rfl) ?_
      refine lv_iload_n hx hb dL_cell_7 rfl (lv_at hl 1 rfl) ?_
      refine va_sld hx hb hX hbl hbA hS (i := iI (k : Int)) ?_ dL_cell_8 ?_
      · show ¬ (iI (k : Int) < 0 ∨ L ≤ (iI (k : Int)).toNatClampNeg)
        rw [iI_nat (by omega), zl0, iI_lt (by omega) (by omega) (by omega) (by omega)]
        omega
      · rw [iI_nat (by omega)]
        refine lv_goto (tgt := 27) hx hb dL_cell_9 (by decide) ?_
        exact W.iret (v := xs k) hx hb hr (fun t ht hW => ⟨⟨xs k, (), rfl, rfl, trivial⟩, hS.F ht⟩) hS.2.2 dL_cell_27 hlocks
  rw [lg_entry_eq]
  exact key _ (lv_entry _ (Nat.le_of_ble_eq_true rfl))
section LAWQ
variable {p : Program} {l : Launch} {e : Env} {R : Room} {s : State} {m : MethodId} {args : Array Value} {below : List Frame} {meth : Method} {c : Code} {H : Heap} {locs : List Loc} {cells slots : Nat} {Q : State → Prop}
variable {cc : ByteArray} {pc : Nat} {ls : Array Slot} {rest : List Value} {D : va_G} {ws : va_W} {A0 : Nat → Prop} {H0 : Heap} {bytes : ByteArray} {maxL nL index : Nat} {rt : Option FieldType} {rm : Room} {Ts : List Cond} {own : String} {bs L k : Nat} {xs : Nat → Int32} {st : List Value}
theorem q_callCell (S : CallFix p m c cc nL s args Ts own) (hM : Met l yL_cell wsL_cell rm (va_Pc [.ref bs, .int (iI (k : Int))] (zPreC bs L xs H.size)) (va_Qi (fun (r : Int32) (_ : Unit) => r = xs k) (fun _ _ => True) (va_A [] H.size)) 0 0 (va_A [] H.size))
    (cw : CallB R s args own index yL_cell bytes maxL rt wsL_cell rm 0 0 2 ∧ (Cond.static yL_cell).before args s = true) (hX : va_X bs L xs s H0) (hbl : bs < H0.size) (hbA : ¬ A0 bs) (hP : va_P D vwCl ws H) (hD : va_D A0 ws) (hS : va_S A0 H0 H locs) (hA : ∀ q, H0.size ≤ q → A0 q)
    (hsize : ls.size = nL) (hW : (rest.map fun v => v.category).sum ≤ 8) (hfc : cells ≤ R.cells) (hfs : slots ≤ R.slots) (hst : st = .int (iI (k : Int)) :: .ref bs :: rest) (hdg : decode cc pc = .ok (.invokestatic index, 3))
    (kk : ∀ (H1 : Heap) (locs1 : List Loc), va_P D vwCl ws H1 → va_S A0 H0 H1 locs1 → H.size ≤ H1.size → W p l e R s m args below meth c H1 locs1 cells slots Q (F0 m (pc + 3) ls (.int (xs k) :: rest))) : W p l e R s m args below meth c H locs cells slots Q (F0 m pc ls st) := by
  subst hst
  have hFc := va_free (wc := []) hD hS hA [] rfl
  have hXH : va_X bs L xs s H := hX.kept (hS.2.1 bs hbl hbA)
  have hbH : bs < H.size := Nat.lt_of_lt_of_le hbl hS.1
  refine va_calli (va_runS (As := [.ref bs, .int (iI (k : Int))]) S hM cw ⟨zBlindC, fun U hU hW => ⟨rfl, by rw [hU], by rw [hU]; exact va_X.moved hW.alike hXH, hbH⟩⟩ rfl rfl hsize rfl (lv_room hW) hdg ⟨hfc, hfs⟩) hS (fun q _ h => hFc q h) hFc (fun r u t H1 locs1 ht hvm hw hB hz1 hk1 hS1 => ?_)
  have hP2 : va_P D vwCl ws H1 := hP.kept (fun k x hx => hk1 x.1 ((hP k x hx).lt) (by
    rintro (⟨k9, e9, h9⟩ | h9)
    · cases h9
    · exact absurd ((hP k x hx).lt) (Nat.not_lt.mpr h9)))
  have hw : r = xs k := hw
  rw [hw]
  exact kk H1 locs1 hP2 hS1 hz1
end LAWQ
section QWZ
variable {p : Program} {l : Launch} {e : Env} {R : Room} {s : State} {m : MethodId} {args : Array Value} {below : List Frame} {meth : Method} {c : Code} {H : Heap} {locs : List Loc} {cells slots : Nat} {Q : State → Prop}
variable {cc : ByteArray} {pc : Nat} {ls : Array Slot} {rest : List Value} {D : va_G} {ws : va_W} {tys : List (ClassId × FieldType)} {a : Nat} {A A0 : Nat → Prop} {H0 : Heap}
variable {y : MethodName} {bytes : ByteArray} {maxL nL n index : Nat} {rt : Option FieldType} {wsY : List Cond} {rm : Room} {Ts : List Cond} {own C : String} {b : Nat} {As : List Value} {wc w1 ws2 : va_W} {tysc : List (ClassId × FieldType)} {ret : Int32} {st : List Value}
theorem q_callSz (S : CallFix p m c cc nL s args Ts own) (hM : Met l y wsY rm (va_Pc As (zPre D [] [] H.size)) (zQi D [] [] ret (va_A [] H.size)) 0 0 (va_A [] H.size))
    (cw : CallB R s args own index y bytes maxL rt wsY rm 0 0 n ∧ (Cond.static y).before args s = true) (hK : va_K D vwCl tys s) (hP : va_P D vwCl ws H) (hD : va_D A0 ws) (hS : va_S A0 H0 H locs) (hA : ∀ q, H0.size ≤ q → A0 q)
    (isR : List Nat) (hR : isR.map (fun i => ws[i]?) = ws.map some) (hnR : va_nd isR = true)
    (hn : As.length = n) (hsize : ls.size = nL) (hW : (rest.map fun v => v.category).sum ≤ 8) (hfc : cells ≤ R.cells) (hfs : slots ≤ R.slots) (hst : st = As.reverse ++ rest) (hdg : decode cc pc = .ok (.invokestatic index, 3))
    (kk : ∀ (H1 : Heap) (locs1 : List Loc), va_P D vwCl ws H1 → va_D A0 ws → va_S A0 H0 H1 locs1 → H.size ≤ H1.size → W p l e R s m args below meth c H1 locs1 cells slots Q (F0 m (pc + 3) ls (.int ret :: rest))) : W p l e R s m args below meth c H locs cells slots Q (F0 m pc ls st) := by
  have hKc := hK.sub (tys' := []) [] rfl
  have hFc := va_free (wc := []) hD hS hA [] rfl
  have hPc : va_P D vwCl [] H := hP.sub [] rfl
  have hDc : va_D A0 [] := hD.sub [] rfl rfl
  refine va_calli (va_runS S hM cw ⟨zBlind, fun U hU hW => ⟨rfl, by rw [hU], by rw [hU]; exact hPc, va_K.moved hW.alike hKc, hDc.weaken (fun _ _ _ _ => trivial)⟩⟩ rfl hn hsize hst (lv_room hW) hdg ⟨hfc, hfs⟩) hS (fun q _ h => hFc q h) hFc (fun r u t H1 locs1 ht hvm hw hB hz1 hk1 hS1 => ?_)
  obtain ⟨hP1, hK1, hD1⟩ := hB
  rw [ht] at hP1
  obtain ⟨hP2, hD2⟩ := va_join (wr := ws) hP hD [] isR rfl hR hnR (fun _ _ h => by cases h) hk1 hFc hP1 hD1
  have hw : r = ret := hw
  rw [hw]
  rw [List.append_nil] at hP2 hD2
  exact kk H1 locs1 hP2 hD2 hS1 hz1
end QWZ
