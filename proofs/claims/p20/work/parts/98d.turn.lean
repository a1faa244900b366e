/-! rows of my own: one turn of the law (printed by wip/p20/gen98.py) -/
/-- a room that is wide enough -/
def rB : Room := { frames := 13, cells := 2000, slots := 20000, locals := 480 }
def QB (sz : Nat) : Array Value → State → Outcome → State → Prop := fun _ _ o t => o = .returned (some (.int 0)) ∨ sz + 151 ≤ t.heap.size
abbrev LFix (p : Program) (l : Launch) (s : State) (m : MethodId) (args : Array Value) (meth : Method) (c : Code) (dC : Nat → ClassId) (dI : Nat → Nat → Nat) (cyI cyZ : ClassId) (A : Nat → Prop) (b L : Nat) (xs : Nat → Int32) : Prop :=
  p.tables.exec = Jvm.exec ∧ c.code = cL_law ∧ c.maxLocals = 7 ∧ s.vm.findClass RL = some m.cls ∧ (∀ w ∈ wsL_law, w.before args s = true) ∧ l.stackTraces = false ∧ zXc A s s.heap ∧ va_X b L xs s s.heap ∧ b < s.heap.size ∧ ¬ A b ∧ (∀ q, s.heap.size ≤ q → A q) ∧ va_K (dC, dI) vwCl (tyI cyI cyZ) s ∧ meth.sig.returnType = some .boolean ∧ meth.locks = false ∧ 40 ≤ L ∧ L ≤ 260 ∧ ∀ k, k < 40 → xs k = 16777218
section LAWI
variable {p : Program} {l : Launch} {env : Env} {s : State} {mi : MethodId} {args : Array Value} {below : List Frame} {meth : Method} {c : Code} {H : Heap} {locs : List Loc} {cells slots : Nat} {Q : State → Prop} {ls : Array Slot} {dC : Nat → ClassId} {dI : Nat → Nat → Nat} {cyI cyZ : ClassId} {a b2 : Nat → Nat} {A : Nat → Prop} {b L k e : Nat} {xs : Nat → Int32} {x z : Nat → Int32} {f g : Nat → Nat → Int32}
theorem b_ret {R : Room} {v : Int32} {pc : Nat} (hQ : Q = MQ below (QB s.heap.size) args s cells slots A) (hx : p.tables.exec = Jvm.exec) (hb : c.code = cL_law) (hr : meth.sig.returnType = some .boolean) (hn : narrow .boolean (.int v) = .int v) (hlocks : meth.locks = false) (hq : v = 0 ∨ s.heap.size + 151 ≤ H.size) (hS : va_S A s.heap H locs) (hdg : decode cL_law pc = .ok (.ireturn, 1)) : W p l env R s mi args below meth c H locs cells slots Q (F0 mi pc ls [.int v]) := by
  subst hQ
  refine W.zret (v := v) hx hb hr hn (fun t ht hW => ?_) hS.2.2 hdg hlocks
  rcases hq with h | h
  · exact Or.inl (by rw [h])
  · exact Or.inr (by rw [ht]; exact h)
set_option maxHeartbeats 4000000 in
set_option maxRecDepth 100000 in
theorem t_75 (hF : LFix p l s mi args meth c dC dI cyI cyZ A b L xs) (hQ : Q = MQ below (QB s.heap.size) args s 2000 20000 A) (he1 : 1 ≤ e) (he : e < 40) (hc : cells + 26 ≤ 2000) (hs : slots + 156 ≤ 20000) (hN : NN (min e 12) x f) (hN2 : NN k z g) (hz : s.heap.size + (40 + gG e) ≤ H.size) (hP : va_P (dC, dI) vwCl (wo cyI cyZ a x f ++ wo cyI cyZ b2 z g) H) (hD : va_D A (wo cyI cyZ a x f ++ wo cyI cyZ b2 z g)) (hS : va_S A s.heap H locs) (hl : lv_has ls 7 [(5, .int 16777218), (4, .int (iI (e : Int))), (3, .ref (b2 0)), (2, .ref (a 0)), (1, .int 1), (0, .ref b)]) (kk : ∀ (k : Nat) (x : Nat → Int32) (f : Nat → Nat → Int32) (z : Nat → Int32) (g : Nat → Nat → Int32) (H : Heap) (locs : List Loc) (ls : Array Slot), NN (min e 12) x f → NN k z g → s.heap.size + (40 + gG (e + 1)) ≤ H.size → va_P (dC, dI) vwCl (wo cyI cyZ a x f ++ wo cyI cyZ b2 z g) H → va_D A (wo cyI cyZ a x f ++ wo cyI cyZ b2 z g) → va_S A s.heap H locs → lv_has ls 7 [(4, .int (iI ((e + 1 : Nat) : Int))), (3, .ref (b2 0)), (2, .ref (a 0)), (1, .int 1), (0, .ref b)] → W p l env rB s mi args below meth c H locs (cells + 26) (slots + 156) Q (F0 mi 34 ls [])) : W p l env rB s mi args below meth c H locs (cells + 2) (slots + 12) Q (F0 mi 75 ls []) := by
  obtain ⟨hx, hb, hml, hown, hts, hfl, hXc, hX, hbl, hbA, hA, hK, hr, hlocks, hL1, hL2, hxs⟩ := hF
  obtain ⟨F, T, P, C, U, hN⟩ := hN
  obtain ⟨F', T', P', C', U', hN2⟩ := hN2
  refine lv_aload_n hx hb dL_law_75 rfl (lv_at hl 3 rfl) ?_
  refine lv_aload_n hx hb dL_law_76 rfl (lv_at hl 2 rfl) ?_
  refine y2_callA (As := [.ref (a 0), .ref (b2 0)]) (rest := []) ⟨hx, hb, hml, hown, hts⟩ (l_areAlike H.size hN hN2) (va_cwS 2 hts gL_law_L_areAlike rfl rfl rfl (by decide +kernel) ⟨(Nat.le_of_ble_eq_true rfl), (Nat.le_of_ble_eq_true rfl)⟩) hK hP hD hS hA rfl hl.1 (Nat.le_of_ble_eq_true rfl) (show cells + 2 ≤ 2000 by omega) (show slots + 12 ≤ 20000 by omega) rfl dL_law_77 (fun r1 x f z g H locs hN hN2 hP hD hS hz1 => ?_)
  have hz := Nat.le_trans hz hz1
  refine lv_if_eq (tgt := 100) hx hb dL_law_80 (by decide) (fun c102 => ?_) (fun c102 => ?_)
  · refine lv_iconst (v := 0) hx hb dL_law_100 (by decide) ?_
    refine W.widen (k := 2000) (n := 20000) (show cells + 2 ≤ 2000 by omega) (show slots + 12 ≤ 20000 by omega) ?_
    exact b_ret hQ hx hb hr rfl hlocks (Or.inl rfl) hS dL_law_101
  · refine lv_aload_n hx hb dL_law_83 rfl (lv_at hl 3 rfl) ?_
    refine y2_call (As := []) (rest := []) ⟨hx, hb, hml, hown, hts⟩ hN om_nodes (cwV 0 hts gL_law_X4_nodes rfl rfl rfl (by decide +kernel) ⟨(Nat.le_of_ble_eq_true rfl), (Nat.le_of_ble_eq_true rfl)⟩) hK hP hD hS hA rfl hl.1 (Nat.le_of_ble_eq_true rfl) (show cells + 2 ≤ 2000 by omega) (show slots + 12 ≤ 20000 by omega) rfl dL_law_84 (fun r3 x f H locs hN hr3 hP hD hS hz1 => ?_)
    have hP := y_sw hP
    have hD := y_swD hD
    obtain rfl : r3 = 2 := hr3
    have hz := Nat.le_trans hz hz1
    refine lv_iload_n hx hb dL_law_87 rfl (lv_at hl 4 rfl) ?_
    refine lv_iconst (v := 2) hx hb dL_law_88 (by decide) ?_
    refine lv_icmp_ge (tgt := 96) hx hb dL_law_89 (by decide) (fun c9 => absurd c9 (by decide)) (fun _ => ?_)
    refine lv_iconst (v := 2) hx hb dL_law_92 (by decide) ?_
    refine lv_goto (tgt := 97) hx hb dL_law_93 (by decide) ?_
    refine lv_icmp_eq (tgt := 102) hx hb dL_law_97 (by decide) (fun _ => ?_) (fun c9 => absurd (by decide) c9)
    refine lv_aload_n hx hb dL_law_102 rfl (lv_at hl 3 rfl) ?_
    refine lv_iload hx hb dL_law_103 (lv_at hl 0 rfl) ?_
    refine lv_bipush (v := 6) hx hb dL_law_105 (by decide) ?_
    refine lv_ishr hx hb dL_law_107 ?_
    refine lv_aload_n hx hb dL_law_108 rfl (lv_at hl 3 rfl) ?_
    refine y2_call (As := []) (rest := [.int ((16777218 : Int32) >>> ((6 : Int32) &&& 31)), .ref (a 0)]) ⟨hx, hb, hml, hown, hts⟩ hN om_nodes (cwV 0 hts gL_law_X4_nodes rfl rfl rfl (by decide +kernel) ⟨(Nat.le_of_ble_eq_true rfl), (Nat.le_of_ble_eq_true rfl)⟩) hK hP hD hS hA rfl hl.1 (Nat.le_of_ble_eq_true rfl) (show cells + 2 ≤ 2000 by omega) (show slots + 12 ≤ 20000 by omega) rfl dL_law_109 (fun r4 x f H locs hN hr4 hP hD hS hz1 => ?_)
    have hP := y_sw hP
    have hD := y_swD hD
    obtain rfl : r4 = 2 := hr4
    have hz := Nat.le_trans hz hz1
    refine q_callSz (As := [.int ((16777218 : Int32) >>> ((6 : Int32) &&& 31)), .int 2]) (rest := [.ref (a 0)]) (ret := 0) ⟨hx, hb, hml, hown, hts⟩ (c_L_low l dC dI H.size ((16777218 : Int32) >>> ((6 : Int32) &&& 31)) 2 0 (by decide +kernel) (by decide +kernel)) (va_cwS 2 hts gL_law_L_low rfl rfl rfl (by decide +kernel) ⟨(Nat.le_of_ble_eq_true rfl), (Nat.le_of_ble_eq_true rfl)⟩) hK hP hD hS hA [0, 1, 2, 3, 4, 5, 6, 7, 8, 9, 10, 11, 12, 13, 14, 15, 16, 17, 18, 19, 20, 21, 22, 23, 24, 25, 26, 27, 28, 29, 30, 31, 32, 33, 34, 35, 36, 37, 38, 39] rfl rfl rfl hl.1 (Nat.le_of_ble_eq_true rfl) (show cells + 2 ≤ 2000 by omega) (show slots + 12 ≤ 20000 by omega) rfl dL_law_112 (fun H locs hP hD hS hz1 => ?_)
    have hz := Nat.le_trans hz hz1
    refine y2_callS (As := [.ref (a 0), .int (iI ((0 : Nat) : Int))]) (rest := []) ⟨hx, hb, hml, hown, hts⟩ hN (l_isMoreSo (by decide)) (va_cwS 2 hts gL_law_L_isMoreSo rfl rfl rfl (by decide +kernel) ⟨(Nat.le_of_ble_eq_true rfl), (Nat.le_of_ble_eq_true rfl)⟩) hXc hK hP hD hS hA rfl hl.1 (Nat.le_of_ble_eq_true rfl) (show cells + 2 + 0 ≤ 2000 by omega) (show slots + 12 + 0 ≤ 20000 by omega) rfl dL_law_115 (fun r5 k9 x f H locs hN hr9 hP hD hS hz1 => ?_)
    have hP := y_sw hP
    have hD := y_swD hD
    have hz := Nat.le_trans hz (Nat.le_trans (Nat.le_add_right _ _) hz1)
    refine lv_if_eq (tgt := 137) hx hb dL_law_118 (by decide) (fun c106 => ?_) (fun c106 => ?_)
    · refine lv_iconst (v := 0) hx hb dL_law_137 (by decide) ?_
      refine W.widen (k := 2000) (n := 20000) (show cells + 2 + 0 ≤ 2000 by omega) (show slots + 12 + 0 ≤ 20000 by omega) ?_
      exact b_ret hQ hx hb hr rfl hlocks (Or.inl rfl) hS dL_law_138
    · refine lv_iload hx hb dL_law_121 (lv_at hl 1 rfl) ?_
      refine lv_bipush (v := 6) hx hb dL_law_123 (by decide) ?_
      refine lv_irem hx hb dL_law_125 (by decide +kernel) ?_
      refine lv_iconst (v := 5) hx hb dL_law_126 (by decide) ?_
      refine lv_icmp_ne (tgt := 139) hx hb dL_law_127 (by decide) (fun c107 => ?_) (fun c107 => ?_)
      · have hz : s.heap.size + (40 + gG (e + 1)) ≤ H.size := by
          rw [gG_s, if_neg (fun h => c107 ((y_six e he).mpr h))]
          exact hz
        refine lv_iinc (v := iI ((e + 1 : Nat) : Int)) (lv' := [(4, .int (iI ((e + 1 : Nat) : Int))), (5, .int 16777218), (3, .ref (b2 0)), (2, .ref (a 0)), (1, .int 1), (0, .ref b)]) hx hb dL_law_139 hl (k := 1) rfl (show iI (e : Int) + iI 1 = _ by rw [iI_add]; rfl) (by decide) rfl (fun ls hl => ?_)
        refine lv_goto (tgt := 34) hx hb dL_law_142 (by decide) ?_
        refine W.widen (k := cells + 26) (n := slots + 156) (by omega) (by omega) ?_
        exact kk _ _ _ _ _ _ _ _ ⟨F, T, P, C, U, hN⟩ ⟨F', T', P', C', U', hN2⟩ hz hP hD hS (lv_sub hl [0, 2, 3, 4, 5] rfl)
      · refine lv_aload_n hx hb dL_law_130 rfl (lv_at hl 3 rfl) ?_
        refine y2_callS (As := [.ref (a 0)]) (rest := []) ⟨hx, hb, hml, hown, hts⟩ hN (l_areFlowsSo hfl) (va_cwS 1 hts gL_law_L_areFlowsSo rfl rfl rfl (by decide +kernel) ⟨(Nat.le_of_ble_eq_true rfl), (Nat.le_of_ble_eq_true rfl)⟩) hXc hK hP hD hS hA rfl hl.1 (Nat.le_of_ble_eq_true rfl) (show cells + 2 + 0 + 24 ≤ 2000 by omega) (show slots + 12 + 0 + 144 ≤ 20000 by omega) rfl dL_law_131 (fun r8 k9 x f H locs hN hr8 hP hD hS hz1 => ?_)
        have hP := y_sw hP
        have hD := y_swD hD
        refine lv_if_ne (tgt := 139) hx hb dL_law_134 (by decide) (fun c109 => ?_) (fun c109 => ?_)
        · obtain rfl : k9 = 2 * min e 12 := hr8.resolve_left c109
          have hz : s.heap.size + (40 + gG (e + 1)) ≤ H.size := by
            rw [gG_s, if_pos ((y_six e he).mp c107)]
            omega
          refine lv_iinc (v := iI ((e + 1 : Nat) : Int)) (lv' := [(4, .int (iI ((e + 1 : Nat) : Int))), (5, .int 16777218), (3, .ref (b2 0)), (2, .ref (a 0)), (1, .int 1), (0, .ref b)]) hx hb dL_law_139 hl (k := 1) rfl (show iI (e : Int) + iI 1 = _ by rw [iI_add]; rfl) (by decide) rfl (fun ls hl => ?_)
          refine lv_goto (tgt := 34) hx hb dL_law_142 (by decide) ?_
          refine W.widen (k := cells + 26) (n := slots + 156) (by omega) (by omega) ?_
          exact kk _ _ _ _ _ _ _ _ ⟨F, T, P, C, U, hN⟩ ⟨F', T', P', C', U', hN2⟩ hz hP hD hS (lv_sub hl [0, 2, 3, 4, 5] rfl)
        · refine lv_iconst (v := 0) hx hb dL_law_137 (by decide) ?_
          refine W.widen (k := 2000) (n := 20000) (show cells + 2 + 0 + 24 ≤ 2000 by omega) (show slots + 12 + 0 + 144 ≤ 20000 by omega) ?_
          exact b_ret hQ hx hb hr rfl hlocks (Or.inl rfl) hS dL_law_138
set_option maxHeartbeats 4000000 in
set_option maxRecDepth 100000 in
theorem t_41 (hF : LFix p l s mi args meth c dC dI cyI cyZ A b L xs) (hQ : Q = MQ below (QB s.heap.size) args s 2000 20000 A) (he1 : 1 ≤ e) (he : e < 40) (hc : cells + 26 ≤ 2000) (hs : slots + 156 ≤ 20000) (hN : NN (min (e - 1) 12) x f) (hk : k ≤ 12) (hN2 : NN k z g) (hz : s.heap.size + (40 + gG e) ≤ H.size) (hP : va_P (dC, dI) vwCl (wo cyI cyZ a x f ++ wo cyI cyZ b2 z g) H) (hD : va_D A (wo cyI cyZ a x f ++ wo cyI cyZ b2 z g)) (hS : va_S A s.heap H locs) (hl : lv_has ls 7 [(4, .int (iI (e : Int))), (3, .ref (b2 0)), (2, .ref (a 0)), (1, .int 1), (0, .ref b)]) (kk : ∀ (k : Nat) (x : Nat → Int32) (f : Nat → Nat → Int32) (z : Nat → Int32) (g : Nat → Nat → Int32) (H : Heap) (locs : List Loc) (ls : Array Slot), NN (min e 12) x f → NN k z g → s.heap.size + (40 + gG (e + 1)) ≤ H.size → va_P (dC, dI) vwCl (wo cyI cyZ a x f ++ wo cyI cyZ b2 z g) H → va_D A (wo cyI cyZ a x f ++ wo cyI cyZ b2 z g) → va_S A s.heap H locs → lv_has ls 7 [(4, .int (iI ((e + 1 : Nat) : Int))), (3, .ref (b2 0)), (2, .ref (a 0)), (1, .int 1), (0, .ref b)] → W p l env rB s mi args below meth c H locs (cells + 26) (slots + 156) Q (F0 mi 34 ls [])) : W p l env rB s mi args below meth c H locs cells slots Q (F0 mi 41 ls []) := by
  have hF0 := hF
  obtain ⟨hx, hb, hml, hown, hts, hfl, hXc, hX, hbl, hbA, hA, hK, hr, hlocks, hL1, hL2, hxs⟩ := hF
  refine lv_aload_n hx hb dL_law_41 rfl (lv_at hl 4 rfl) ?_
  refine lv_iload hx hb dL_law_42 (lv_at hl 0 rfl) ?_
  refine q_callCell (rest := []) ⟨hx, hb, hml, hown, hts⟩ (c_L_cell l b L xs e (by omega) hL2 H.size) (va_cwS 2 hts gL_law_L_cell rfl rfl rfl (by decide +kernel) ⟨(Nat.le_of_ble_eq_true rfl), (Nat.le_of_ble_eq_true rfl)⟩) hX hbl hbA hP hD hS hA hl.1 (Nat.le_of_ble_eq_true rfl) (show cells ≤ 2000 by omega) (show slots ≤ 20000 by omega) rfl dL_law_44 (fun H locs hP hS hz1 => ?_)
  have hz := Nat.le_trans hz hz1
  rw [hxs e he]
  refine lv_istore (lv' := [(5, .int 16777218), (4, .int (iI (e : Int))), (3, .ref (b2 0)), (2, .ref (a 0)), (1, .int 1), (0, .ref b)]) hx hb dL_law_47 hl (by decide) rfl (fun ls hl => ?_)
  refine lv_aload_n hx hb dL_law_49 rfl (lv_at hl 3 rfl) ?_
  refine lv_iload hx hb dL_law_50 (lv_at hl 0 rfl) ?_
  refine y2_callS (As := [.ref (a 0), .int 16777218]) (rest := []) ⟨hx, hb, hml, hown, hts⟩ hN (l_act hfl (show min (e - 1) 12 ≤ 12 by omega)) (va_cwS 2 hts gL_law_L_act rfl rfl rfl (by decide +kernel) ⟨(Nat.le_of_ble_eq_true rfl), (Nat.le_of_ble_eq_true rfl)⟩) hXc hK hP hD hS hA rfl hl.1 (Nat.le_of_ble_eq_true rfl) (show cells + 1 ≤ 2000 by omega) (show slots + 6 ≤ 20000 by omega) rfl dL_law_52 (fun r1 k9 x f H locs hN hr9 hP hD hS hz1 => ?_)
  have hP := y_sw hP
  have hD := y_swD hD
  have hN : NN (min e 12) x f := by
    rw [show min e 12 = min (min (e - 1) 12 + 1) 12 by omega]
    exact hN
  have hz := Nat.le_trans hz (Nat.le_trans (Nat.le_add_right _ _) hz1)
  refine lv_istore (lv' := [(6, .int r1), (5, .int 16777218), (4, .int (iI (e : Int))), (3, .ref (b2 0)), (2, .ref (a 0)), (1, .int 1), (0, .ref b)]) hx hb dL_law_55 hl (by decide) rfl (fun ls hl => ?_)
  refine lv_iload hx hb dL_law_57 (lv_at hl 0 rfl) ?_
  refine lv_ldc (own := RL) (v := -99999) hx hb hown (hts (.constant RL 16 (-99999)) (by decide +kernel)) dL_law_59 ?_
  refine lv_icmp_eq (tgt := 75) hx hb dL_law_61 (by decide) (fun c102 => ?_) (fun c102 => ?_)
  · refine W.widen (k := cells + 2) (n := slots + 12) (by omega) (by omega) ?_
    exact t_75 hF0 hQ he1 he hc hs hN hN2 hz hP hD hS (lv_sub hl [1, 2, 3, 4, 5, 6] rfl) kk
  · refine lv_aload_n hx hb dL_law_64 rfl (lv_at hl 3 rfl) ?_
    refine lv_iload hx hb dL_law_65 (lv_at hl 1 rfl) ?_
    refine y2_callS (As := [.ref (b2 0), .int 16777218]) (rest := []) ⟨hx, hb, hml, hown, hts⟩ hN2 (l_act hfl hk) (va_cwS 2 hts gL_law_L_act rfl rfl rfl (by decide +kernel) ⟨(Nat.le_of_ble_eq_true rfl), (Nat.le_of_ble_eq_true rfl)⟩) hXc hK (y_sw hP) (y_swD hD) hS hA rfl hl.1 (Nat.le_of_ble_eq_true rfl) (show cells + 1 + 1 ≤ 2000 by omega) (show slots + 6 + 6 ≤ 20000 by omega) rfl dL_law_67 (fun r3 k9 z g H locs hN2 hr9 hP hD hS hz1 => ?_)
    have hz := Nat.le_trans hz (Nat.le_trans (Nat.le_add_right _ _) hz1)
    refine lv_iload hx hb dL_law_70 (lv_at hl 0 rfl) ?_
    refine lv_icmp_ne (tgt := 100) hx hb dL_law_72 (by decide) (fun c104 => ?_) (fun c104 => ?_)
    · refine lv_iconst (v := 0) hx hb dL_law_100 (by decide) ?_
      refine W.widen (k := 2000) (n := 20000) (show cells + 1 + 1 ≤ 2000 by omega) (show slots + 6 + 6 ≤ 20000 by omega) ?_
      exact b_ret hQ hx hb hr rfl hlocks (Or.inl rfl) hS dL_law_101
    · exact t_75 hF0 hQ he1 he hc hs hN hN2 hz hP hD hS (lv_sub hl [1, 2, 3, 4, 5, 6] rfl) kk
set_option maxHeartbeats 4000000 in
set_option maxRecDepth 100000 in
theorem t_loop (hF : LFix p l s mi args meth c dC dI cyI cyZ A b L xs) (hQ : Q = MQ below (QB s.heap.size) args s 2000 20000 A) : ∀ (n e k : Nat) (x : Nat → Int32) (f : Nat → Nat → Int32) (z : Nat → Int32) (g : Nat → Nat → Int32) (H : Heap) (locs : List Loc) (ls : Array Slot), e + n = 40 → 1 ≤ e → NN (min (e - 1) 12) x f → NN k z g → s.heap.size + (40 + gG e) ≤ H.size → va_P (dC, dI) vwCl (wo cyI cyZ a x f ++ wo cyI cyZ b2 z g) H → va_D A (wo cyI cyZ a x f ++ wo cyI cyZ b2 z g) → va_S A s.heap H locs → lv_has ls 7 [(4, .int (iI (e : Int))), (3, .ref (b2 0)), (2, .ref (a 0)), (1, .int 1), (0, .ref b)] → W p l env rB s mi args below meth c H locs (40 + 26 * e) (1052 + 156 * e) Q (F0 mi 34 ls []) := by
  have hF0 := hF
  obtain ⟨hx, hb, hml, hown, hts, hfl, hXc, hX, hbl, hbA, hA, hK, hr, hlocks, hL1, hL2, hxs⟩ := hF
  intro n
  induction n with
  | zero =>
    intro e k x f z g H locs ls hen he1 hN hN2 hz hP hD hS hl
    obtain rfl : e = 40 := by omega
    refine lv_iload hx hb dL_law_34 (lv_at hl 0 rfl) ?_
    refine lv_bipush (v := 40) hx hb dL_law_36 (by decide) ?_
    refine lv_icmp_ge (tgt := 145) hx hb dL_law_38 (by decide) (fun _ => ?_) (fun c9 => absurd (by decide) c9)
    refine lv_iconst (v := 1) hx hb dL_law_145 (by decide) ?_
    refine W.widen (k := 2000) (n := 20000) (by decide) (by decide) ?_
    refine b_ret hQ hx hb hr rfl hlocks (Or.inr ?_) hS dL_law_146
    rw [gG_40] at hz
    omega
  | succ n ih =>
    intro e k x f z g H locs ls hen he1 hN hN2 hz hP hD hS hl
    have hk : k ≤ 12 := by
      obtain ⟨F, T, P, C, U, ⟨Wd, Vd, h⟩, -⟩ := id hN2
      exact h.2.2.1
    refine lv_iload hx hb dL_law_34 (lv_at hl 0 rfl) ?_
    refine lv_bipush (v := iI (40 : Int)) hx hb dL_law_36 (by decide) ?_
    refine lv_icmp_ge (tgt := 145) hx hb dL_law_38 (by decide) (fun c9 => ?_) (fun c9 => ?_)
    · exfalso
      rw [iI_le (by omega) (by omega) (by omega) (by omega)] at c9
      omega
    · refine t_41 hF0 hQ he1 (by omega) (by omega) (by omega) hN hk hN2 hz hP hD hS hl (fun k x f z g H locs ls hN hN2 hz hP hD hS hl => ?_)
      refine W.widen (k := 40 + 26 * (e + 1)) (n := 1052 + 156 * (e + 1)) (by omega) (by omega) ?_
      exact ih (e + 1) k x f z g H locs ls (by omega) (by omega) hN hN2 hz hP hD hS hl
end LAWI
