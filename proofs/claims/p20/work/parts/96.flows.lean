/-! rows of my own: areFlowsSo (printed by wip/p20/gen95.py) -/
section LMF
variable {l : Launch} {dC : Nat → ClassId} {dI : Nat → Nat → Nat} {cyI cyZ : ClassId} {a : Nat → Nat} {m : Nat} {F T P C U : Nat → Int}
set_option maxHeartbeats 4000000 in
set_option maxRecDepth 100000 in
theorem l_areFlowsSo (hfl : l.stackTraces = false) : LM l (dC, dI) cyI cyZ a yL_areFlowsSo wsL_areFlowsSo { frames := 12, cells := 24, slots := 144, locals := 190 } [.ref (a 0)] (Net m F T P C U) (Net m F T P C U) (fun r k => r = 0 ∨ k = 2 * m) 24 144 := by
  refine y_ofW (cc := cL_areFlowsSo) (maxL := 9) (rt := (some .boolean)) (by decide) rfl (Nat.le_of_ble_eq_true rfl) ?_
  intro x f p e s mi args below meth c ls A Q H locs hN hQ hx hb hr hts hown hlocks hml hA hK hP hD hS hXc hl
  have hl : lv_has ls 9 [(0, .ref (a 0))] := hl
  obtain ⟨⟨Wd, Vd, h⟩, -⟩ := id hN
  have hm := h.2.2.1
  have hC9 : ∀ i, i < m → 1 ≤ C i ∧ C i ≤ 15 := fun i hi => c_bd (h.2.2.2.1 i hi)
  have kexit : ∀ (tt dd cc9 : Int32) (x : Nat → Int32) (f : Nat → Nat → Int32) (H : Heap) (locs : List Loc) (ls : Array Slot), s.heap.size + 2 * m ≤ H.size → Net m F T P C U x f → va_P (dC, dI) vwCl (wo cyI cyZ a x f) H → va_D A (wo cyI cyZ a x f) → va_S A s.heap H locs → lv_has ls 9 [(3, .int tt), (2, .int dd), (1, .int cc9), (0, .ref (a 0))] → W p l e { frames := 12, cells := 24, slots := 144, locals := 190 } s mi args below meth c H locs 24 144 Q (F0 mi 196 ls []) := by
    intro tt dd cc9 x f H locs ls hz hN hP hD hS hl
    refine lv_aload_n hx hb dL_areFlowsSo_196 rfl (lv_at hl 3 rfl) ?_
    refine y_call (As := []) (rest := []) ⟨hx, hb, hml, hown, hts⟩ hN om_lastPaid (cwV 0 hts gL_areFlowsSo_X4_lastPaid rfl rfl rfl (by decide +kernel) ⟨(Nat.le_of_ble_eq_true rfl), (Nat.le_of_ble_eq_true rfl)⟩) hK hP hD hS hA rfl hl.1 (Nat.le_of_ble_eq_true rfl) (Nat.le_of_ble_eq_true rfl) (Nat.le_of_ble_eq_true rfl) rfl dL_areFlowsSo_197 (fun r1 x f H locs hN hr1 hP hD hS hz1 => ?_)
    have hz := Nat.le_trans hz hz1
    refine lv_istore (lv' := [(4, .int r1), (3, .int tt), (2, .int dd), (1, .int cc9), (0, .ref (a 0))]) hx hb dL_areFlowsSo_200 hl (by decide) rfl (fun ls hl => ?_)
    refine lv_aload_n hx hb dL_areFlowsSo_202 rfl (lv_at hl 4 rfl) ?_
    refine y_call (As := []) (rest := []) ⟨hx, hb, hml, hown, hts⟩ hN om_costByCircles (cwV 0 hts gL_areFlowsSo_X4_costByCircles rfl rfl rfl (by decide +kernel) ⟨(Nat.le_of_ble_eq_true rfl), (Nat.le_of_ble_eq_true rfl)⟩) hK hP hD hS hA rfl hl.1 (Nat.le_of_ble_eq_true rfl) (Nat.le_of_ble_eq_true rfl) (Nat.le_of_ble_eq_true rfl) rfl dL_areFlowsSo_203 (fun r2 x f H locs hN hr2 hP hD hS hz1 => ?_)
    have hz := Nat.le_trans hz hz1
    refine lv_iload_n hx hb dL_areFlowsSo_206 rfl (lv_at hl 3 rfl) ?_
    refine lv_icmp_ne (tgt := 257) hx hb dL_areFlowsSo_207 (by decide) (fun c103 => ?_) (fun c103 => ?_)
    · refine lv_iconst (v := 0) hx hb dL_areFlowsSo_257 (by decide) ?_
      refine W.widen (k := 24) (n := 144) (Nat.le_of_ble_eq_true rfl) (Nat.le_of_ble_eq_true rfl) ?_
      exact y_ret (k := 0) hQ hx hb hr rfl hlocks hN (Or.inl rfl) hP hK hD hS hS.1 dL_areFlowsSo_258
    · refine lv_iload_n hx hb dL_areFlowsSo_210 rfl (lv_at hl 3 rfl) ?_
      refine lv_if_lt (tgt := 219) hx hb dL_areFlowsSo_211 (by decide) (fun c104 => ?_) (fun c104 => ?_)
      · refine lv_iload_n hx hb dL_areFlowsSo_219 rfl (lv_at hl 2 rfl) ?_
        refine lv_if_lt (tgt := 232) hx hb dL_areFlowsSo_220 (by decide) (fun c105 => ?_) (fun c105 => ?_)
        · refine lv_iload hx hb dL_areFlowsSo_232 (lv_at hl 0 rfl) ?_
          refine lv_iconst (v := (-1)) hx hb dL_areFlowsSo_234 (by decide) ?_
          refine lv_icmp_lt (tgt := 257) hx hb dL_areFlowsSo_235 (by decide) (fun c106 => ?_) (fun c106 => ?_)
          · refine lv_iconst (v := 0) hx hb dL_areFlowsSo_257 (by decide) ?_
            refine W.widen (k := 24) (n := 144) (Nat.le_of_ble_eq_true rfl) (Nat.le_of_ble_eq_true rfl) ?_
            exact y_ret (k := 0) hQ hx hb hr rfl hlocks hN (Or.inl rfl) hP hK hD hS hS.1 dL_areFlowsSo_258
          · refine lv_iload hx hb dL_areFlowsSo_238 (lv_at hl 0 rfl) ?_
            refine lv_if_lt (tgt := 253) hx hb dL_areFlowsSo_240 (by decide) (fun c107 => ?_) (fun c107 => ?_)
            · refine lv_iconst (v := 1) hx hb dL_areFlowsSo_253 (by decide) ?_
              refine lv_goto (tgt := 258) hx hb dL_areFlowsSo_254 (by decide) ?_
              refine W.widen (k := 24) (n := 144) (Nat.le_of_ble_eq_true rfl) (Nat.le_of_ble_eq_true rfl) ?_
              exact y_ret (k := 2 * m) hQ hx hb hr rfl hlocks hN (Or.inr rfl) hP hK hD hS hz dL_areFlowsSo_258
            · refine lv_iload_n hx hb dL_areFlowsSo_243 rfl (lv_at hl 2 rfl) ?_
              refine lv_if_lt (tgt := 253) hx hb dL_areFlowsSo_244 (by decide) (fun _ => ?_) (fun c9 => absurd c105 c9)
              refine lv_iconst (v := 1) hx hb dL_areFlowsSo_253 (by decide) ?_
              refine lv_goto (tgt := 258) hx hb dL_areFlowsSo_254 (by decide) ?_
              refine W.widen (k := 24) (n := 144) (Nat.le_of_ble_eq_true rfl) (Nat.le_of_ble_eq_true rfl) ?_
              exact y_ret (k := 2 * m) hQ hx hb hr rfl hlocks hN (Or.inr rfl) hP hK hD hS hz dL_areFlowsSo_258
        · refine lv_iload_n hx hb dL_areFlowsSo_223 rfl (lv_at hl 3 rfl) ?_
          refine lv_if_lt (tgt := 257) hx hb dL_areFlowsSo_224 (by decide) (fun _ => ?_) (fun c9 => absurd c104 c9)
          refine lv_iconst (v := 0) hx hb dL_areFlowsSo_257 (by decide) ?_
          refine W.widen (k := 24) (n := 144) (Nat.le_of_ble_eq_true rfl) (Nat.le_of_ble_eq_true rfl) ?_
          exact y_ret (k := 0) hQ hx hb hr rfl hlocks hN (Or.inl rfl) hP hK hD hS hS.1 dL_areFlowsSo_258
      · refine lv_iload_n hx hb dL_areFlowsSo_214 rfl (lv_at hl 1 rfl) ?_
        refine lv_iload_n hx hb dL_areFlowsSo_215 rfl (lv_at hl 3 rfl) ?_
        refine lv_icmp_ne (tgt := 257) hx hb dL_areFlowsSo_216 (by decide) (fun c108 => ?_) (fun c108 => ?_)
        · refine lv_iconst (v := 0) hx hb dL_areFlowsSo_257 (by decide) ?_
          refine W.widen (k := 24) (n := 144) (Nat.le_of_ble_eq_true rfl) (Nat.le_of_ble_eq_true rfl) ?_
          exact y_ret (k := 0) hQ hx hb hr rfl hlocks hN (Or.inl rfl) hP hK hD hS hS.1 dL_areFlowsSo_258
        · refine lv_iload_n hx hb dL_areFlowsSo_219 rfl (lv_at hl 2 rfl) ?_
          refine lv_if_lt (tgt := 232) hx hb dL_areFlowsSo_220 (by decide) (fun c109 => ?_) (fun c109 => ?_)
          · refine lv_iload hx hb dL_areFlowsSo_232 (lv_at hl 0 rfl) ?_
            refine lv_iconst (v := (-1)) hx hb dL_areFlowsSo_234 (by decide) ?_
            refine lv_icmp_lt (tgt := 257) hx hb dL_areFlowsSo_235 (by decide) (fun c110 => ?_) (fun c110 => ?_)
            · refine lv_iconst (v := 0) hx hb dL_areFlowsSo_257 (by decide) ?_
              refine W.widen (k := 24) (n := 144) (Nat.le_of_ble_eq_true rfl) (Nat.le_of_ble_eq_true rfl) ?_
              exact y_ret (k := 0) hQ hx hb hr rfl hlocks hN (Or.inl rfl) hP hK hD hS hS.1 dL_areFlowsSo_258
            · refine lv_iload hx hb dL_areFlowsSo_238 (lv_at hl 0 rfl) ?_
              refine lv_if_lt (tgt := 253) hx hb dL_areFlowsSo_240 (by decide) (fun c111 => ?_) (fun c111 => ?_)
              · refine lv_iconst (v := 1) hx hb dL_areFlowsSo_253 (by decide) ?_
                refine lv_goto (tgt := 258) hx hb dL_areFlowsSo_254 (by decide) ?_
                refine W.widen (k := 24) (n := 144) (Nat.le_of_ble_eq_true rfl) (Nat.le_of_ble_eq_true rfl) ?_
                exact y_ret (k := 2 * m) hQ hx hb hr rfl hlocks hN (Or.inr rfl) hP hK hD hS hz dL_areFlowsSo_258
              · refine lv_iload_n hx hb dL_areFlowsSo_243 rfl (lv_at hl 2 rfl) ?_
                refine lv_if_lt (tgt := 253) hx hb dL_areFlowsSo_244 (by decide) (fun _ => ?_) (fun c9 => absurd c109 c9)
                refine lv_iconst (v := 1) hx hb dL_areFlowsSo_253 (by decide) ?_
                refine lv_goto (tgt := 258) hx hb dL_areFlowsSo_254 (by decide) ?_
                refine W.widen (k := 24) (n := 144) (Nat.le_of_ble_eq_true rfl) (Nat.le_of_ble_eq_true rfl) ?_
                exact y_ret (k := 2 * m) hQ hx hb hr rfl hlocks hN (Or.inr rfl) hP hK hD hS hz dL_areFlowsSo_258
          · refine lv_iload_n hx hb dL_areFlowsSo_223 rfl (lv_at hl 3 rfl) ?_
            refine lv_if_lt (tgt := 257) hx hb dL_areFlowsSo_224 (by decide) (fun c9 => absurd c9 c104) (fun _ => ?_)
            refine lv_iload_n hx hb dL_areFlowsSo_227 rfl (lv_at hl 2 rfl) ?_
            refine lv_iload_n hx hb dL_areFlowsSo_228 rfl (lv_at hl 3 rfl) ?_
            refine lv_icmp_lt (tgt := 257) hx hb dL_areFlowsSo_229 (by decide) (fun c112 => ?_) (fun c112 => ?_)
            · refine lv_iconst (v := 0) hx hb dL_areFlowsSo_257 (by decide) ?_
              refine W.widen (k := 24) (n := 144) (Nat.le_of_ble_eq_true rfl) (Nat.le_of_ble_eq_true rfl) ?_
              exact y_ret (k := 0) hQ hx hb hr rfl hlocks hN (Or.inl rfl) hP hK hD hS hS.1 dL_areFlowsSo_258
            · refine lv_iload hx hb dL_areFlowsSo_232 (lv_at hl 0 rfl) ?_
              refine lv_iconst (v := (-1)) hx hb dL_areFlowsSo_234 (by decide) ?_
              refine lv_icmp_lt (tgt := 257) hx hb dL_areFlowsSo_235 (by decide) (fun c113 => ?_) (fun c113 => ?_)
              · refine lv_iconst (v := 0) hx hb dL_areFlowsSo_257 (by decide) ?_
                refine W.widen (k := 24) (n := 144) (Nat.le_of_ble_eq_true rfl) (Nat.le_of_ble_eq_true rfl) ?_
                exact y_ret (k := 0) hQ hx hb hr rfl hlocks hN (Or.inl rfl) hP hK hD hS hS.1 dL_areFlowsSo_258
              · refine lv_iload hx hb dL_areFlowsSo_238 (lv_at hl 0 rfl) ?_
                refine lv_if_lt (tgt := 253) hx hb dL_areFlowsSo_240 (by decide) (fun c114 => ?_) (fun c114 => ?_)
                · refine lv_iconst (v := 1) hx hb dL_areFlowsSo_253 (by decide) ?_
                  refine lv_goto (tgt := 258) hx hb dL_areFlowsSo_254 (by decide) ?_
                  refine W.widen (k := 24) (n := 144) (Nat.le_of_ble_eq_true rfl) (Nat.le_of_ble_eq_true rfl) ?_
                  exact y_ret (k := 2 * m) hQ hx hb hr rfl hlocks hN (Or.inr rfl) hP hK hD hS hz dL_areFlowsSo_258
                · refine lv_iload_n hx hb dL_areFlowsSo_243 rfl (lv_at hl 2 rfl) ?_
                  refine lv_if_lt (tgt := 253) hx hb dL_areFlowsSo_244 (by decide) (fun c9 => absurd c9 c109) (fun _ => ?_)
                  refine lv_iload_n hx hb dL_areFlowsSo_247 rfl (lv_at hl 2 rfl) ?_
                  refine lv_iload hx hb dL_areFlowsSo_248 (lv_at hl 0 rfl) ?_
                  refine lv_icmp_lt (tgt := 257) hx hb dL_areFlowsSo_250 (by decide) (fun c115 => ?_) (fun c115 => ?_)
                  · refine lv_iconst (v := 0) hx hb dL_areFlowsSo_257 (by decide) ?_
                    refine W.widen (k := 24) (n := 144) (Nat.le_of_ble_eq_true rfl) (Nat.le_of_ble_eq_true rfl) ?_
                    exact y_ret (k := 0) hQ hx hb hr rfl hlocks hN (Or.inl rfl) hP hK hD hS hS.1 dL_areFlowsSo_258
                  · refine lv_iconst (v := 1) hx hb dL_areFlowsSo_253 (by decide) ?_
                    refine lv_goto (tgt := 258) hx hb dL_areFlowsSo_254 (by decide) ?_
                    refine W.widen (k := 24) (n := 144) (Nat.le_of_ble_eq_true rfl) (Nat.le_of_ble_eq_true rfl) ?_
                    exact y_ret (k := 2 * m) hQ hx hb hr rfl hlocks hN (Or.inr rfl) hP hK hD hS hz dL_areFlowsSo_258
  have key : ∀ (n i : Nat) (tt dd cc9 : Int32) (x : Nat → Int32) (f : Nat → Nat → Int32) (H : Heap) (locs : List Loc) (ls : Array Slot), i + n = m → s.heap.size + 2 * i ≤ H.size → Net m F T P C U x f → va_P (dC, dI) vwCl (wo cyI cyZ a x f) H → va_D A (wo cyI cyZ a x f) → va_S A s.heap H locs → lv_has ls 9 [(4, .int (iI (i : Int))), (3, .int tt), (2, .int dd), (1, .int cc9), (0, .ref (a 0))] → W p l e { frames := 12, cells := 24, slots := 144, locals := 190 } s mi args below meth c H locs (2 * i) (12 * i) Q (F0 mi 15 ls []) := by
    intro n
    induction n with
    | zero =>
      intro i tt dd cc9 x f H locs ls hin hz hN hP hD hS hl
      refine lv_iload hx hb dL_areFlowsSo_15 (lv_at hl 0 rfl) ?_
      refine lv_aload_n hx hb dL_areFlowsSo_17 rfl (lv_at hl 4 rfl) ?_
      refine y_call (As := []) (rest := [.int (iI (i : Int))]) ⟨hx, hb, hml, hown, hts⟩ hN om_arcs (cwV 0 hts gL_areFlowsSo_X4_arcs rfl rfl rfl (by decide +kernel) ⟨(Nat.le_of_ble_eq_true rfl), (Nat.le_of_ble_eq_true rfl)⟩) hK hP hD hS hA rfl hl.1 (Nat.le_of_ble_eq_true rfl) (show 2 * i ≤ 24 by omega) (show 12 * i ≤ 144 by omega) rfl dL_areFlowsSo_18 (fun r1 x f H locs hN hr1 hP hD hS hz1 => ?_)
      obtain rfl : r1 = iI (m : Int) := hr1
      have hz := Nat.le_trans hz hz1
      refine lv_icmp_ge (tgt := 196) hx hb dL_areFlowsSo_21 (by decide) (fun c102 => ?_) (fun c102 => ?_)
      · have ei : i = m := by
          rw [iI_le (by omega) (by omega) (by omega) (by omega)] at c102
          omega
        refine W.widen (k := 24) (n := 144) (by omega) (by omega) ?_
        exact kexit _ _ _ _ _ _ _ _ (by rw [← ei]; exact hz) hN hP hD hS (lv_sub hl [1, 2, 3, 4] rfl)
      · exfalso
        rw [iI_le (by omega) (by omega) (by omega) (by omega)] at c102
        omega
    | succ n ih =>
      intro i tt dd cc9 x f H locs ls hin hz hN hP hD hS hl
      refine lv_iload hx hb dL_areFlowsSo_15 (lv_at hl 0 rfl) ?_
      refine lv_aload_n hx hb dL_areFlowsSo_17 rfl (lv_at hl 4 rfl) ?_
      refine y_call (As := []) (rest := [.int (iI (i : Int))]) ⟨hx, hb, hml, hown, hts⟩ hN om_arcs (cwV 0 hts gL_areFlowsSo_X4_arcs rfl rfl rfl (by decide +kernel) ⟨(Nat.le_of_ble_eq_true rfl), (Nat.le_of_ble_eq_true rfl)⟩) hK hP hD hS hA rfl hl.1 (Nat.le_of_ble_eq_true rfl) (show 2 * i ≤ 24 by omega) (show 12 * i ≤ 144 by omega) rfl dL_areFlowsSo_18 (fun r1 x f H locs hN hr1 hP hD hS hz1 => ?_)
      obtain rfl : r1 = iI (m : Int) := hr1
      have hz := Nat.le_trans hz hz1
      refine lv_icmp_ge (tgt := 196) hx hb dL_areFlowsSo_21 (by decide) (fun c102 => ?_) (fun c102 => ?_)
      · have ei : i = m := by
          rw [iI_le (by omega) (by omega) (by omega) (by omega)] at c102
          omega
        refine W.widen (k := 24) (n := 144) (by omega) (by omega) ?_
        exact kexit _ _ _ _ _ _ _ _ (by rw [← ei]; exact hz) hN hP hD hS (lv_sub hl [1, 2, 3, 4] rfl)
      · have hi : i < m := by
          rw [iI_le (by omega) (by omega) (by omega) (by omega)] at c102
          omega
        refine lv_aload_n hx hb dL_areFlowsSo_24 rfl (lv_at hl 4 rfl) ?_
        refine lv_iload hx hb dL_areFlowsSo_25 (lv_at hl 0 rfl) ?_
        refine y_call (As := [.int (iI (i : Int))]) (rest := []) ⟨hx, hb, hml, hown, hts⟩ hN (om_flow hi) (cwV 1 hts gL_areFlowsSo_X4_flow rfl rfl rfl (by decide +kernel) ⟨(Nat.le_of_ble_eq_true rfl), (Nat.le_of_ble_eq_true rfl)⟩) hK hP hD hS hA rfl hl.1 (Nat.le_of_ble_eq_true rfl) (show 2 * i ≤ 24 by omega) (show 12 * i ≤ 144 by omega) rfl dL_areFlowsSo_27 (fun r3 x f H locs hN hr3 hP hD hS hz1 => ?_)
        have hz := Nat.le_trans hz hz1
        refine lv_istore (lv' := [(5, .int r3), (4, .int (iI (i : Int))), (3, .int tt), (2, .int dd), (1, .int cc9), (0, .ref (a 0))]) hx hb dL_areFlowsSo_30 hl (by decide) rfl (fun ls hl => ?_)
        refine lv_aload_n hx hb dL_areFlowsSo_32 rfl (lv_at hl 5 rfl) ?_
        refine lv_iload hx hb dL_areFlowsSo_33 (lv_at hl 1 rfl) ?_
        refine y_call (As := [.int (iI (i : Int))]) (rest := []) ⟨hx, hb, hml, hown, hts⟩ hN (om_leastOn hi) (cwV 1 hts gL_areFlowsSo_X4_leastOn rfl rfl rfl (by decide +kernel) ⟨(Nat.le_of_ble_eq_true rfl), (Nat.le_of_ble_eq_true rfl)⟩) hK hP hD hS hA rfl hl.1 (Nat.le_of_ble_eq_true rfl) (show 2 * i ≤ 24 by omega) (show 12 * i ≤ 144 by omega) rfl dL_areFlowsSo_35 (fun r4 x f H locs hN hr4 hP hD hS hz1 => ?_)
        have hz := Nat.le_trans hz hz1
        refine lv_istore (lv' := [(6, .int r4), (5, .int r3), (4, .int (iI (i : Int))), (3, .int tt), (2, .int dd), (1, .int cc9), (0, .ref (a 0))]) hx hb dL_areFlowsSo_38 hl (by decide) rfl (fun ls hl => ?_)
        refine lv_aload_n hx hb dL_areFlowsSo_40 rfl (lv_at hl 6 rfl) ?_
        refine lv_iload hx hb dL_areFlowsSo_41 (lv_at hl 2 rfl) ?_
        refine y_call (As := [.int (iI (i : Int))]) (rest := []) ⟨hx, hb, hml, hown, hts⟩ hN (om_mostOn hi) (cwV 1 hts gL_areFlowsSo_X4_mostOn rfl rfl rfl (by decide +kernel) ⟨(Nat.le_of_ble_eq_true rfl), (Nat.le_of_ble_eq_true rfl)⟩) hK hP hD hS hA rfl hl.1 (Nat.le_of_ble_eq_true rfl) (show 2 * i ≤ 24 by omega) (show 12 * i ≤ 144 by omega) rfl dL_areFlowsSo_43 (fun r5 x f H locs hN hr5 hP hD hS hz1 => ?_)
        have hz := Nat.le_trans hz hz1
        refine lv_istore (lv' := [(7, .int r5), (6, .int r4), (5, .int r3), (4, .int (iI (i : Int))), (3, .int tt), (2, .int dd), (1, .int cc9), (0, .ref (a 0))]) hx hb dL_areFlowsSo_46 hl (by decide) rfl (fun ls hl => ?_)
        refine lv_iload_n hx hb dL_areFlowsSo_48 rfl (lv_at hl 6 rfl) ?_
        refine lv_if_ge (tgt := 78) hx hb dL_areFlowsSo_49 (by decide) (fun c106 => ?_) (fun c106 => ?_)
        · refine lv_iload hx hb dL_areFlowsSo_78 (lv_at hl 1 rfl) ?_
          refine lv_if_lt (tgt := 112) hx hb dL_areFlowsSo_80 (by decide) (fun c107 => ?_) (fun c107 => ?_)
          · refine lv_iconst (v := 0) hx hb dL_areFlowsSo_112 (by decide) ?_
            refine lv_istore (lv' := [(8, .int 0), (7, .int r5), (6, .int r4), (5, .int r3), (4, .int (iI (i : Int))), (3, .int tt), (2, .int dd), (1, .int cc9), (0, .ref (a 0))]) hx hb dL_areFlowsSo_113 hl (by decide) rfl (fun ls hl => ?_)
            refine lv_iload hx hb dL_areFlowsSo_115 (lv_at hl 0 rfl) ?_
            refine lv_if_eq (tgt := 169) hx hb dL_areFlowsSo_117 (by decide) (fun _ => ?_) (fun c9 => absurd (by decide) c9)
            refine lv_iconst (v := 0) hx hb dL_areFlowsSo_169 (by decide) ?_
            refine W.widen (k := 24) (n := 144) (show 2 * i ≤ 24 by omega) (show 12 * i ≤ 144 by omega) ?_
            exact y_ret (k := 0) hQ hx hb hr rfl hlocks hN (Or.inl rfl) hP hK hD hS hS.1 dL_areFlowsSo_170
          · refine lv_iload hx hb dL_areFlowsSo_83 (lv_at hl 1 rfl) ?_
            refine lv_iload hx hb dL_areFlowsSo_85 (lv_at hl 2 rfl) ?_
            refine lv_icmp_gt (tgt := 112) hx hb dL_areFlowsSo_87 (by decide) (fun c108 => ?_) (fun c108 => ?_)
            · refine lv_iconst (v := 0) hx hb dL_areFlowsSo_112 (by decide) ?_
              refine lv_istore (lv' := [(8, .int 0), (7, .int r5), (6, .int r4), (5, .int r3), (4, .int (iI (i : Int))), (3, .int tt), (2, .int dd), (1, .int cc9), (0, .ref (a 0))]) hx hb dL_areFlowsSo_113 hl (by decide) rfl (fun ls hl => ?_)
              refine lv_iload hx hb dL_areFlowsSo_115 (lv_at hl 0 rfl) ?_
              refine lv_if_eq (tgt := 169) hx hb dL_areFlowsSo_117 (by decide) (fun _ => ?_) (fun c9 => absurd (by decide) c9)
              refine lv_iconst (v := 0) hx hb dL_areFlowsSo_169 (by decide) ?_
              refine W.widen (k := 24) (n := 144) (show 2 * i ≤ 24 by omega) (show 12 * i ≤ 144 by omega) ?_
              exact y_ret (k := 0) hQ hx hb hr rfl hlocks hN (Or.inl rfl) hP hK hD hS hS.1 dL_areFlowsSo_170
            · refine lv_iload hx hb dL_areFlowsSo_90 (lv_at hl 2 rfl) ?_
              refine lv_iload hx hb dL_areFlowsSo_92 (lv_at hl 0 rfl) ?_
              refine lv_icmp_gt (tgt := 112) hx hb dL_areFlowsSo_94 (by decide) (fun c109 => ?_) (fun c109 => ?_)
              · refine lv_iconst (v := 0) hx hb dL_areFlowsSo_112 (by decide) ?_
                refine lv_istore (lv' := [(8, .int 0), (7, .int r5), (6, .int r4), (5, .int r3), (4, .int (iI (i : Int))), (3, .int tt), (2, .int dd), (1, .int cc9), (0, .ref (a 0))]) hx hb dL_areFlowsSo_113 hl (by decide) rfl (fun ls hl => ?_)
                refine lv_iload hx hb dL_areFlowsSo_115 (lv_at hl 0 rfl) ?_
                refine lv_if_eq (tgt := 169) hx hb dL_areFlowsSo_117 (by decide) (fun _ => ?_) (fun c9 => absurd (by decide) c9)
                refine lv_iconst (v := 0) hx hb dL_areFlowsSo_169 (by decide) ?_
                refine W.widen (k := 24) (n := 144) (show 2 * i ≤ 24 by omega) (show 12 * i ≤ 144 by omega) ?_
                exact y_ret (k := 0) hQ hx hb hr rfl hlocks hN (Or.inl rfl) hP hK hD hS hS.1 dL_areFlowsSo_170
              · refine lv_iload hx hb dL_areFlowsSo_97 (lv_at hl 0 rfl) ?_
                refine lv_aload_n hx hb dL_areFlowsSo_99 rfl (lv_at hl 7 rfl) ?_
                refine lv_iload hx hb dL_areFlowsSo_100 (lv_at hl 3 rfl) ?_
                refine y_call (As := [.int (iI (i : Int))]) (rest := [.int r5]) ⟨hx, hb, hml, hown, hts⟩ hN (om_capacity hi) (cwV 1 hts gL_areFlowsSo_X4_capacity rfl rfl rfl (by decide +kernel) ⟨(Nat.le_of_ble_eq_true rfl), (Nat.le_of_ble_eq_true rfl)⟩) hK hP hD hS hA rfl hl.1 (Nat.le_of_ble_eq_true rfl) (show 2 * i ≤ 24 by omega) (show 12 * i ≤ 144 by omega) rfl dL_areFlowsSo_102 (fun r10 x f H locs hN hr10 hP hD hS hz1 => ?_)
                obtain rfl : r10 = iI (C i) := hr10
                have hz := Nat.le_trans hz hz1
                refine lv_icmp_gt (tgt := 112) hx hb dL_areFlowsSo_105 (by decide) (fun c111 => ?_) (fun c111 => ?_)
                · refine lv_iconst (v := 0) hx hb dL_areFlowsSo_112 (by decide) ?_
                  refine lv_istore (lv' := [(8, .int 0), (7, .int r5), (6, .int r4), (5, .int r3), (4, .int (iI (i : Int))), (3, .int tt), (2, .int dd), (1, .int cc9), (0, .ref (a 0))]) hx hb dL_areFlowsSo_113 hl (by decide) rfl (fun ls hl => ?_)
                  refine lv_iload hx hb dL_areFlowsSo_115 (lv_at hl 0 rfl) ?_
                  refine lv_if_eq (tgt := 169) hx hb dL_areFlowsSo_117 (by decide) (fun _ => ?_) (fun c9 => absurd (by decide) c9)
                  refine lv_iconst (v := 0) hx hb dL_areFlowsSo_169 (by decide) ?_
                  refine W.widen (k := 24) (n := 144) (show 2 * i ≤ 24 by omega) (show 12 * i ≤ 144 by omega) ?_
                  exact y_ret (k := 0) hQ hx hb hr rfl hlocks hN (Or.inl rfl) hP hK hD hS hS.1 dL_areFlowsSo_170
                · refine lv_iconst (v := 1) hx hb dL_areFlowsSo_108 (by decide) ?_
                  refine lv_goto (tgt := 113) hx hb dL_areFlowsSo_109 (by decide) ?_
                  refine lv_istore (lv' := [(8, .int 1), (7, .int r5), (6, .int r4), (5, .int r3), (4, .int (iI (i : Int))), (3, .int tt), (2, .int dd), (1, .int cc9), (0, .ref (a 0))]) hx hb dL_areFlowsSo_113 hl (by decide) rfl (fun ls hl => ?_)
                  refine lv_iload hx hb dL_areFlowsSo_115 (lv_at hl 0 rfl) ?_
                  refine lv_if_eq (tgt := 169) hx hb dL_areFlowsSo_117 (by decide) (fun c9 => absurd c9 (by decide)) (fun _ => ?_)
                  refine lv_aload_n hx hb dL_areFlowsSo_120 rfl (lv_at hl 8 rfl) ?_
                  refine lv_iload hx hb dL_areFlowsSo_121 (lv_at hl 4 rfl) ?_
                  refine y_callS (As := [.ref (a 0), .int (iI (i : Int))]) (rest := []) ⟨hx, hb, hml, hown, hts⟩ hN (l_isArcSo hfl hi) (va_cwS 2 hts gL_areFlowsSo_L_isArcSo rfl rfl rfl (by decide +kernel) ⟨(Nat.le_of_ble_eq_true rfl), (Nat.le_of_ble_eq_true rfl)⟩) hXc hK hP hD hS hA rfl hl.1 (Nat.le_of_ble_eq_true rfl) (show 2 * i + 2 ≤ 24 by omega) (show 12 * i + 12 ≤ 144 by omega) rfl dL_areFlowsSo_123 (fun r12 k9 x f H locs hN hr12 hP hD hS hz1 => ?_)
                  refine lv_if_eq (tgt := 169) hx hb dL_areFlowsSo_126 (by decide) (fun c113 => ?_) (fun c113 => ?_)
                  · refine lv_iconst (v := 0) hx hb dL_areFlowsSo_169 (by decide) ?_
                    refine W.widen (k := 24) (n := 144) (show 2 * i + 2 ≤ 24 by omega) (show 12 * i + 12 ≤ 144 by omega) ?_
                    exact y_ret (k := 0) hQ hx hb hr rfl hlocks hN (Or.inl rfl) hP hK hD hS hS.1 dL_areFlowsSo_170
                  · obtain rfl : k9 = 2 := hr12.resolve_left c113
                    have hz := Nat.le_trans (Nat.add_le_add_right hz 2) hz1
                    refine lv_aload_n hx hb dL_areFlowsSo_129 rfl (lv_at hl 8 rfl) ?_
                    refine lv_iload hx hb dL_areFlowsSo_130 (lv_at hl 4 rfl) ?_
                    refine y_call (As := [.int (iI (i : Int))]) (rest := []) ⟨hx, hb, hml, hown, hts⟩ hN (om_drivenOn hi) (cwV 1 hts gL_areFlowsSo_X4_drivenOn rfl rfl rfl (by decide +kernel) ⟨(Nat.le_of_ble_eq_true rfl), (Nat.le_of_ble_eq_true rfl)⟩) hK hP hD hS hA rfl hl.1 (Nat.le_of_ble_eq_true rfl) (show 2 * i + 2 ≤ 24 by omega) (show 12 * i + 12 ≤ 144 by omega) rfl dL_areFlowsSo_132 (fun r14 x f H locs hN hr14 hP hD hS hz1 => ?_)
                    have hz := Nat.le_trans hz hz1
                    refine lv_if_lt (tgt := 169) hx hb dL_areFlowsSo_135 (by decide) (fun c115 => ?_) (fun c115 => ?_)
                    · refine lv_iconst (v := 0) hx hb dL_areFlowsSo_169 (by decide) ?_
                      refine W.widen (k := 24) (n := 144) (show 2 * i + 2 ≤ 24 by omega) (show 12 * i + 12 ≤ 144 by omega) ?_
                      exact y_ret (k := 0) hQ hx hb hr rfl hlocks hN (Or.inl rfl) hP hK hD hS hS.1 dL_areFlowsSo_170
                    · refine lv_aload_n hx hb dL_areFlowsSo_138 rfl (lv_at hl 8 rfl) ?_
                      refine lv_iload hx hb dL_areFlowsSo_139 (lv_at hl 4 rfl) ?_
                      refine y_call (As := [.int (iI (i : Int))]) (rest := []) ⟨hx, hb, hml, hown, hts⟩ hN (om_drivenOn hi) (cwV 1 hts gL_areFlowsSo_X4_drivenOn rfl rfl rfl (by decide +kernel) ⟨(Nat.le_of_ble_eq_true rfl), (Nat.le_of_ble_eq_true rfl)⟩) hK hP hD hS hA rfl hl.1 (Nat.le_of_ble_eq_true rfl) (show 2 * i + 2 ≤ 24 by omega) (show 12 * i + 12 ≤ 144 by omega) rfl dL_areFlowsSo_141 (fun r16 x f H locs hN hr16 hP hD hS hz1 => ?_)
                      have hz := Nat.le_trans hz hz1
                      refine lv_aload_n hx hb dL_areFlowsSo_144 rfl (lv_at hl 8 rfl) ?_
                      refine lv_iload hx hb dL_areFlowsSo_145 (lv_at hl 4 rfl) ?_
                      refine y_call (As := [.int (iI (i : Int))]) (rest := [.int r16]) ⟨hx, hb, hml, hown, hts⟩ hN (om_capacity hi) (cwV 1 hts gL_areFlowsSo_X4_capacity rfl rfl rfl (by decide +kernel) ⟨(Nat.le_of_ble_eq_true rfl), (Nat.le_of_ble_eq_true rfl)⟩) hK hP hD hS hA rfl hl.1 (Nat.le_of_ble_eq_true rfl) (show 2 * i + 2 ≤ 24 by omega) (show 12 * i + 12 ≤ 144 by omega) rfl dL_areFlowsSo_147 (fun r17 x f H locs hN hr17 hP hD hS hz1 => ?_)
                      obtain rfl : r17 = iI (C i) := hr17
                      have hz := Nat.le_trans hz hz1
                      refine lv_icmp_gt (tgt := 169) hx hb dL_areFlowsSo_150 (by decide) (fun c118 => ?_) (fun c118 => ?_)
                      · refine lv_iconst (v := 0) hx hb dL_areFlowsSo_169 (by decide) ?_
                        refine W.widen (k := 24) (n := 144) (show 2 * i + 2 ≤ 24 by omega) (show 12 * i + 12 ≤ 144 by omega) ?_
                        exact y_ret (k := 0) hQ hx hb hr rfl hlocks hN (Or.inl rfl) hP hK hD hS hS.1 dL_areFlowsSo_170
                      · refine lv_iload_n hx hb dL_areFlowsSo_153 rfl (lv_at hl 7 rfl) ?_
                        refine lv_if_lt (tgt := 171) hx hb dL_areFlowsSo_154 (by decide) (fun c9 => absurd c9 (y_ge c106)) (fun _ => ?_)
                        refine lv_iload hx hb dL_areFlowsSo_157 (lv_at hl 4 rfl) ?_
                        refine lv_if_ne (tgt := 171) hx hb dL_areFlowsSo_159 (by decide) (fun c119 => ?_) (fun c119 => ?_)
                        · refine lv_iload_n hx hb dL_areFlowsSo_171 rfl (lv_at hl 5 rfl) ?_
                          refine lv_iload_n hx hb dL_areFlowsSo_172 rfl (lv_at hl 7 rfl) ?_
                          refine lv_if_ge (tgt := 180) hx hb dL_areFlowsSo_173 (by decide) (fun _ => ?_) (fun c9 => absurd c106 c9)
                          refine lv_aload_n hx hb dL_areFlowsSo_180 rfl (lv_at hl 8 rfl) ?_
                          refine lv_iload hx hb dL_areFlowsSo_181 (lv_at hl 4 rfl) ?_
                          refine lv_iload hx hb dL_areFlowsSo_183 (lv_at hl 3 rfl) ?_
                          obtain ⟨w9, hw9, lw9, uw9⟩ := i32 r3
                          have hle9 : w9 ≤ C i := by
                            have g9 := y_tr c109 c111
                            rw [hw9, iI_le lw9 uw9 (by have := hC9 i hi; omega) (by have := hC9 i hi; omega)] at g9
                            exact g9
                          rw [hw9]
                          refine y_callS (As := [.ref (a 0), .int (iI (i : Int)), .int (iI w9)]) (rest := [.int tt]) ⟨hx, hb, hml, hown, hts⟩ hN (l_sumOf hi lw9 hle9) (va_cwS 3 hts gL_areFlowsSo_L_sumOf rfl rfl rfl (by decide +kernel) ⟨(Nat.le_of_ble_eq_true rfl), (Nat.le_of_ble_eq_true rfl)⟩) hXc hK hP hD hS hA rfl hl.1 (Nat.le_of_ble_eq_true rfl) (show 2 * i + 2 + 0 ≤ 24 by omega) (show 12 * i + 12 + 0 ≤ 144 by omega) rfl dL_areFlowsSo_185 (fun r20 k9 x f H locs hN hr20 hP hD hS hz1 => ?_)
                          have hz := Nat.le_trans hz (Nat.le_trans (Nat.le_add_right _ _) hz1)
                          refine lv_iadd hx hb dL_areFlowsSo_188 ?_
                          refine lv_istore_n (lv' := [(3, .int (tt + r20)), (8, .int 1), (7, .int r5), (6, .int r4), (5, .int r3), (4, .int (iI (i : Int))), (2, .int dd), (1, .int cc9), (0, .ref (a 0))]) hx hb dL_areFlowsSo_189 rfl hl (by decide) rfl (fun ls hl => ?_)
                          refine lv_iinc (v := iI ((i + 1 : Nat) : Int)) (lv' := [(4, .int (iI ((i + 1 : Nat) : Int))), (3, .int (tt + r20)), (8, .int 1), (7, .int r5), (6, .int r4), (5, .int r3), (2, .int dd), (1, .int cc9), (0, .ref (a 0))]) hx hb dL_areFlowsSo_190 hl (k := 5) rfl (show iI (i : Int) + iI 1 = _ by rw [iI_add]; rfl) (by decide) rfl (fun ls hl => ?_)
                          refine lv_goto (tgt := 15) hx hb dL_areFlowsSo_193 (by decide) ?_
                          refine W.widen (k := 2 * (i + 1)) (n := 12 * (i + 1)) (by omega) (by omega) ?_
                          exact ih _ _ _ _ _ _ _ _ _ (by omega) (by omega) hN hP hD hS (lv_sub hl [0, 1, 6, 7, 8] rfl)
                        · refine lv_iload hx hb dL_areFlowsSo_162 (lv_at hl 3 rfl) ?_
                          refine lv_iload hx hb dL_areFlowsSo_164 (lv_at hl 2 rfl) ?_
                          refine lv_icmp_eq (tgt := 171) hx hb dL_areFlowsSo_166 (by decide) (fun c121 => ?_) (fun c121 => ?_)
                          · refine lv_iload_n hx hb dL_areFlowsSo_171 rfl (lv_at hl 5 rfl) ?_
                            refine lv_iload_n hx hb dL_areFlowsSo_172 rfl (lv_at hl 7 rfl) ?_
                            refine lv_if_ge (tgt := 180) hx hb dL_areFlowsSo_173 (by decide) (fun _ => ?_) (fun c9 => absurd c106 c9)
                            refine lv_aload_n hx hb dL_areFlowsSo_180 rfl (lv_at hl 8 rfl) ?_
                            refine lv_iload hx hb dL_areFlowsSo_181 (lv_at hl 4 rfl) ?_
                            refine lv_iload hx hb dL_areFlowsSo_183 (lv_at hl 3 rfl) ?_
                            obtain ⟨w9, hw9, lw9, uw9⟩ := i32 r3
                            have hle9 : w9 ≤ C i := by
                              have g9 := y_tr c109 c111
                              rw [hw9, iI_le lw9 uw9 (by have := hC9 i hi; omega) (by have := hC9 i hi; omega)] at g9
                              exact g9
                            rw [hw9]
                            refine y_callS (As := [.ref (a 0), .int (iI (i : Int)), .int (iI w9)]) (rest := [.int tt]) ⟨hx, hb, hml, hown, hts⟩ hN (l_sumOf hi lw9 hle9) (va_cwS 3 hts gL_areFlowsSo_L_sumOf rfl rfl rfl (by decide +kernel) ⟨(Nat.le_of_ble_eq_true rfl), (Nat.le_of_ble_eq_true rfl)⟩) hXc hK hP hD hS hA rfl hl.1 (Nat.le_of_ble_eq_true rfl) (show 2 * i + 2 + 0 ≤ 24 by omega) (show 12 * i + 12 + 0 ≤ 144 by omega) rfl dL_areFlowsSo_185 (fun r22 k9 x f H locs hN hr22 hP hD hS hz1 => ?_)
                            have hz := Nat.le_trans hz (Nat.le_trans (Nat.le_add_right _ _) hz1)
                            refine lv_iadd hx hb dL_areFlowsSo_188 ?_
                            refine lv_istore_n (lv' := [(3, .int (tt + r22)), (8, .int 1), (7, .int r5), (6, .int r4), (5, .int r3), (4, .int (iI (i : Int))), (2, .int dd), (1, .int cc9), (0, .ref (a 0))]) hx hb dL_areFlowsSo_189 rfl hl (by decide) rfl (fun ls hl => ?_)
                            refine lv_iinc (v := iI ((i + 1 : Nat) : Int)) (lv' := [(4, .int (iI ((i + 1 : Nat) : Int))), (3, .int (tt + r22)), (8, .int 1), (7, .int r5), (6, .int r4), (5, .int r3), (2, .int dd), (1, .int cc9), (0, .ref (a 0))]) hx hb dL_areFlowsSo_190 hl (k := 5) rfl (show iI (i : Int) + iI 1 = _ by rw [iI_add]; rfl) (by decide) rfl (fun ls hl => ?_)
                            refine lv_goto (tgt := 15) hx hb dL_areFlowsSo_193 (by decide) ?_
                            refine W.widen (k := 2 * (i + 1)) (n := 12 * (i + 1)) (by omega) (by omega) ?_
                            exact ih _ _ _ _ _ _ _ _ _ (by omega) (by omega) hN hP hD hS (lv_sub hl [0, 1, 6, 7, 8] rfl)
                          · refine lv_iconst (v := 0) hx hb dL_areFlowsSo_169 (by decide) ?_
                            refine W.widen (k := 24) (n := 144) (show 2 * i + 2 ≤ 24 by omega) (show 12 * i + 12 ≤ 144 by omega) ?_
                            exact y_ret (k := 0) hQ hx hb hr rfl hlocks hN (Or.inl rfl) hP hK hD hS hS.1 dL_areFlowsSo_170
        · refine lv_iload hx hb dL_areFlowsSo_52 (lv_at hl 2 rfl) ?_
          refine lv_iconst (v := (-1)) hx hb dL_areFlowsSo_54 (by decide) ?_
          refine lv_icmp_ne (tgt := 74) hx hb dL_areFlowsSo_55 (by decide) (fun c123 => ?_) (fun c123 => ?_)
          · refine lv_iconst (v := 0) hx hb dL_areFlowsSo_74 (by decide) ?_
            refine lv_goto (tgt := 113) hx hb dL_areFlowsSo_75 (by decide) ?_
            refine lv_istore (lv' := [(8, .int 0), (7, .int r5), (6, .int r4), (5, .int r3), (4, .int (iI (i : Int))), (3, .int tt), (2, .int dd), (1, .int cc9), (0, .ref (a 0))]) hx hb dL_areFlowsSo_113 hl (by decide) rfl (fun ls hl => ?_)
            refine lv_iload hx hb dL_areFlowsSo_115 (lv_at hl 0 rfl) ?_
            refine lv_if_eq (tgt := 169) hx hb dL_areFlowsSo_117 (by decide) (fun _ => ?_) (fun c9 => absurd (by decide) c9)
            refine lv_iconst (v := 0) hx hb dL_areFlowsSo_169 (by decide) ?_
            refine W.widen (k := 24) (n := 144) (show 2 * i ≤ 24 by omega) (show 12 * i ≤ 144 by omega) ?_
            exact y_ret (k := 0) hQ hx hb hr rfl hlocks hN (Or.inl rfl) hP hK hD hS hS.1 dL_areFlowsSo_170
          · refine lv_iload hx hb dL_areFlowsSo_58 (lv_at hl 1 rfl) ?_
            refine lv_iconst (v := (-1)) hx hb dL_areFlowsSo_60 (by decide) ?_
            refine lv_icmp_ne (tgt := 74) hx hb dL_areFlowsSo_61 (by decide) (fun c124 => ?_) (fun c124 => ?_)
            · refine lv_iconst (v := 0) hx hb dL_areFlowsSo_74 (by decide) ?_
              refine lv_goto (tgt := 113) hx hb dL_areFlowsSo_75 (by decide) ?_
              refine lv_istore (lv' := [(8, .int 0), (7, .int r5), (6, .int r4), (5, .int r3), (4, .int (iI (i : Int))), (3, .int tt), (2, .int dd), (1, .int cc9), (0, .ref (a 0))]) hx hb dL_areFlowsSo_113 hl (by decide) rfl (fun ls hl => ?_)
              refine lv_iload hx hb dL_areFlowsSo_115 (lv_at hl 0 rfl) ?_
              refine lv_if_eq (tgt := 169) hx hb dL_areFlowsSo_117 (by decide) (fun _ => ?_) (fun c9 => absurd (by decide) c9)
              refine lv_iconst (v := 0) hx hb dL_areFlowsSo_169 (by decide) ?_
              refine W.widen (k := 24) (n := 144) (show 2 * i ≤ 24 by omega) (show 12 * i ≤ 144 by omega) ?_
              exact y_ret (k := 0) hQ hx hb hr rfl hlocks hN (Or.inl rfl) hP hK hD hS hS.1 dL_areFlowsSo_170
            · refine lv_iload hx hb dL_areFlowsSo_64 (lv_at hl 0 rfl) ?_
              refine lv_iconst (v := (-1)) hx hb dL_areFlowsSo_66 (by decide) ?_
              refine lv_icmp_ne (tgt := 74) hx hb dL_areFlowsSo_67 (by decide) (fun c125 => ?_) (fun c125 => ?_)
              · refine lv_iconst (v := 0) hx hb dL_areFlowsSo_74 (by decide) ?_
                refine lv_goto (tgt := 113) hx hb dL_areFlowsSo_75 (by decide) ?_
                refine lv_istore (lv' := [(8, .int 0), (7, .int r5), (6, .int r4), (5, .int r3), (4, .int (iI (i : Int))), (3, .int tt), (2, .int dd), (1, .int cc9), (0, .ref (a 0))]) hx hb dL_areFlowsSo_113 hl (by decide) rfl (fun ls hl => ?_)
                refine lv_iload hx hb dL_areFlowsSo_115 (lv_at hl 0 rfl) ?_
                refine lv_if_eq (tgt := 169) hx hb dL_areFlowsSo_117 (by decide) (fun _ => ?_) (fun c9 => absurd (by decide) c9)
                refine lv_iconst (v := 0) hx hb dL_areFlowsSo_169 (by decide) ?_
                refine W.widen (k := 24) (n := 144) (show 2 * i ≤ 24 by omega) (show 12 * i ≤ 144 by omega) ?_
                exact y_ret (k := 0) hQ hx hb hr rfl hlocks hN (Or.inl rfl) hP hK hD hS hS.1 dL_areFlowsSo_170
              · refine lv_iconst (v := 1) hx hb dL_areFlowsSo_70 (by decide) ?_
                refine lv_goto (tgt := 113) hx hb dL_areFlowsSo_71 (by decide) ?_
                refine lv_istore (lv' := [(8, .int 1), (7, .int r5), (6, .int r4), (5, .int r3), (4, .int (iI (i : Int))), (3, .int tt), (2, .int dd), (1, .int cc9), (0, .ref (a 0))]) hx hb dL_areFlowsSo_113 hl (by decide) rfl (fun ls hl => ?_)
                refine lv_iload hx hb dL_areFlowsSo_115 (lv_at hl 0 rfl) ?_
                refine lv_if_eq (tgt := 169) hx hb dL_areFlowsSo_117 (by decide) (fun c9 => absurd c9 (by decide)) (fun _ => ?_)
                refine lv_aload_n hx hb dL_areFlowsSo_120 rfl (lv_at hl 8 rfl) ?_
                refine lv_iload hx hb dL_areFlowsSo_121 (lv_at hl 4 rfl) ?_
                refine y_callS (As := [.ref (a 0), .int (iI (i : Int))]) (rest := []) ⟨hx, hb, hml, hown, hts⟩ hN (l_isArcSo hfl hi) (va_cwS 2 hts gL_areFlowsSo_L_isArcSo rfl rfl rfl (by decide +kernel) ⟨(Nat.le_of_ble_eq_true rfl), (Nat.le_of_ble_eq_true rfl)⟩) hXc hK hP hD hS hA rfl hl.1 (Nat.le_of_ble_eq_true rfl) (show 2 * i + 2 ≤ 24 by omega) (show 12 * i + 12 ≤ 144 by omega) rfl dL_areFlowsSo_123 (fun r26 k9 x f H locs hN hr26 hP hD hS hz1 => ?_)
                refine lv_if_eq (tgt := 169) hx hb dL_areFlowsSo_126 (by decide) (fun c127 => ?_) (fun c127 => ?_)
                · refine lv_iconst (v := 0) hx hb dL_areFlowsSo_169 (by decide) ?_
                  refine W.widen (k := 24) (n := 144) (show 2 * i + 2 ≤ 24 by omega) (show 12 * i + 12 ≤ 144 by omega) ?_
                  exact y_ret (k := 0) hQ hx hb hr rfl hlocks hN (Or.inl rfl) hP hK hD hS hS.1 dL_areFlowsSo_170
                · obtain rfl : k9 = 2 := hr26.resolve_left c127
                  have hz := Nat.le_trans (Nat.add_le_add_right hz 2) hz1
                  refine lv_aload_n hx hb dL_areFlowsSo_129 rfl (lv_at hl 8 rfl) ?_
                  refine lv_iload hx hb dL_areFlowsSo_130 (lv_at hl 4 rfl) ?_
                  refine y_call (As := [.int (iI (i : Int))]) (rest := []) ⟨hx, hb, hml, hown, hts⟩ hN (om_drivenOn hi) (cwV 1 hts gL_areFlowsSo_X4_drivenOn rfl rfl rfl (by decide +kernel) ⟨(Nat.le_of_ble_eq_true rfl), (Nat.le_of_ble_eq_true rfl)⟩) hK hP hD hS hA rfl hl.1 (Nat.le_of_ble_eq_true rfl) (show 2 * i + 2 ≤ 24 by omega) (show 12 * i + 12 ≤ 144 by omega) rfl dL_areFlowsSo_132 (fun r28 x f H locs hN hr28 hP hD hS hz1 => ?_)
                  have hz := Nat.le_trans hz hz1
                  refine lv_if_lt (tgt := 169) hx hb dL_areFlowsSo_135 (by decide) (fun c129 => ?_) (fun c129 => ?_)
                  · refine lv_iconst (v := 0) hx hb dL_areFlowsSo_169 (by decide) ?_
                    refine W.widen (k := 24) (n := 144) (show 2 * i + 2 ≤ 24 by omega) (show 12 * i + 12 ≤ 144 by omega) ?_
                    exact y_ret (k := 0) hQ hx hb hr rfl hlocks hN (Or.inl rfl) hP hK hD hS hS.1 dL_areFlowsSo_170
                  · refine lv_aload_n hx hb dL_areFlowsSo_138 rfl (lv_at hl 8 rfl) ?_
                    refine lv_iload hx hb dL_areFlowsSo_139 (lv_at hl 4 rfl) ?_
                    refine y_call (As := [.int (iI (i : Int))]) (rest := []) ⟨hx, hb, hml, hown, hts⟩ hN (om_drivenOn hi) (cwV 1 hts gL_areFlowsSo_X4_drivenOn rfl rfl rfl (by decide +kernel) ⟨(Nat.le_of_ble_eq_true rfl), (Nat.le_of_ble_eq_true rfl)⟩) hK hP hD hS hA rfl hl.1 (Nat.le_of_ble_eq_true rfl) (show 2 * i + 2 ≤ 24 by omega) (show 12 * i + 12 ≤ 144 by omega) rfl dL_areFlowsSo_141 (fun r30 x f H locs hN hr30 hP hD hS hz1 => ?_)
                    have hz := Nat.le_trans hz hz1
                    refine lv_aload_n hx hb dL_areFlowsSo_144 rfl (lv_at hl 8 rfl) ?_
                    refine lv_iload hx hb dL_areFlowsSo_145 (lv_at hl 4 rfl) ?_
                    refine y_call (As := [.int (iI (i : Int))]) (rest := [.int r30]) ⟨hx, hb, hml, hown, hts⟩ hN (om_capacity hi) (cwV 1 hts gL_areFlowsSo_X4_capacity rfl rfl rfl (by decide +kernel) ⟨(Nat.le_of_ble_eq_true rfl), (Nat.le_of_ble_eq_true rfl)⟩) hK hP hD hS hA rfl hl.1 (Nat.le_of_ble_eq_true rfl) (show 2 * i + 2 ≤ 24 by omega) (show 12 * i + 12 ≤ 144 by omega) rfl dL_areFlowsSo_147 (fun r31 x f H locs hN hr31 hP hD hS hz1 => ?_)
                    obtain rfl : r31 = iI (C i) := hr31
                    have hz := Nat.le_trans hz hz1
                    refine lv_icmp_gt (tgt := 169) hx hb dL_areFlowsSo_150 (by decide) (fun c132 => ?_) (fun c132 => ?_)
                    · refine lv_iconst (v := 0) hx hb dL_areFlowsSo_169 (by decide) ?_
                      refine W.widen (k := 24) (n := 144) (show 2 * i + 2 ≤ 24 by omega) (show 12 * i + 12 ≤ 144 by omega) ?_
                      exact y_ret (k := 0) hQ hx hb hr rfl hlocks hN (Or.inl rfl) hP hK hD hS hS.1 dL_areFlowsSo_170
                    · refine lv_iload_n hx hb dL_areFlowsSo_153 rfl (lv_at hl 7 rfl) ?_
                      refine lv_if_lt (tgt := 171) hx hb dL_areFlowsSo_154 (by decide) (fun _ => ?_) (fun c9 => absurd (y_nge c106) c9)
                      refine lv_iload_n hx hb dL_areFlowsSo_171 rfl (lv_at hl 5 rfl) ?_
                      refine lv_iload_n hx hb dL_areFlowsSo_172 rfl (lv_at hl 7 rfl) ?_
                      refine lv_if_ge (tgt := 180) hx hb dL_areFlowsSo_173 (by decide) (fun c9 => absurd c9 c106) (fun _ => ?_)
                      refine lv_iconst (v := 0) hx hb dL_areFlowsSo_176 (by decide) ?_
                      refine lv_goto (tgt := 188) hx hb dL_areFlowsSo_177 (by decide) ?_
                      refine lv_iadd hx hb dL_areFlowsSo_188 ?_
                      refine lv_istore_n (lv' := [(3, .int (tt + 0)), (8, .int 1), (7, .int r5), (6, .int r4), (5, .int r3), (4, .int (iI (i : Int))), (2, .int dd), (1, .int cc9), (0, .ref (a 0))]) hx hb dL_areFlowsSo_189 rfl hl (by decide) rfl (fun ls hl => ?_)
                      refine lv_iinc (v := iI ((i + 1 : Nat) : Int)) (lv' := [(4, .int (iI ((i + 1 : Nat) : Int))), (3, .int (tt + 0)), (8, .int 1), (7, .int r5), (6, .int r4), (5, .int r3), (2, .int dd), (1, .int cc9), (0, .ref (a 0))]) hx hb dL_areFlowsSo_190 hl (k := 5) rfl (show iI (i : Int) + iI 1 = _ by rw [iI_add]; rfl) (by decide) rfl (fun ls hl => ?_)
                      refine lv_goto (tgt := 15) hx hb dL_areFlowsSo_193 (by decide) ?_
                      refine W.widen (k := 2 * (i + 1)) (n := 12 * (i + 1)) (by omega) (by omega) ?_
                      exact ih _ _ _ _ _ _ _ _ _ (by omega) (by omega) hN hP hD hS (lv_sub hl [0, 1, 6, 7, 8] rfl)
  refine lv_aload_n hx hb dL_areFlowsSo_0 rfl (lv_at hl 0 rfl) ?_
  refine y_call (As := []) (rest := []) ⟨hx, hb, hml, hown, hts⟩ hN om_cost (cwV 0 hts gL_areFlowsSo_X4_cost rfl rfl rfl (by decide +kernel) ⟨(Nat.le_of_ble_eq_true rfl), (Nat.le_of_ble_eq_true rfl)⟩) hK hP hD hS hA rfl hl.1 (Nat.le_of_ble_eq_true rfl) (Nat.le_of_ble_eq_true rfl) (Nat.le_of_ble_eq_true rfl) rfl dL_areFlowsSo_1 (fun r1 x f H locs hN hr1 hP hD hS hz1 => ?_)
  refine lv_istore_n (lv' := [(1, .int r1), (0, .ref (a 0))]) hx hb dL_areFlowsSo_4 rfl hl (by decide) rfl (fun ls hl => ?_)
  refine lv_aload_n hx hb dL_areFlowsSo_5 rfl (lv_at hl 1 rfl) ?_
  refine y_call (As := []) (rest := []) ⟨hx, hb, hml, hown, hts⟩ hN om_driven (cwV 0 hts gL_areFlowsSo_X4_driven rfl rfl rfl (by decide +kernel) ⟨(Nat.le_of_ble_eq_true rfl), (Nat.le_of_ble_eq_true rfl)⟩) hK hP hD hS hA rfl hl.1 (Nat.le_of_ble_eq_true rfl) (Nat.le_of_ble_eq_true rfl) (Nat.le_of_ble_eq_true rfl) rfl dL_areFlowsSo_6 (fun r2 x f H locs hN hr2 hP hD hS hz1 => ?_)
  refine lv_istore_n (lv' := [(2, .int r2), (1, .int r1), (0, .ref (a 0))]) hx hb dL_areFlowsSo_9 rfl hl (by decide) rfl (fun ls hl => ?_)
  refine lv_iconst (v := 0) hx hb dL_areFlowsSo_10 (by decide) ?_
  refine lv_istore_n (lv' := [(3, .int 0), (2, .int r2), (1, .int r1), (0, .ref (a 0))]) hx hb dL_areFlowsSo_11 rfl hl (by decide) rfl (fun ls hl => ?_)
  refine lv_iconst (v := 0) hx hb dL_areFlowsSo_12 (by decide) ?_
  refine lv_istore (lv' := [(4, .int 0), (3, .int 0), (2, .int r2), (1, .int r1), (0, .ref (a 0))]) hx hb dL_areFlowsSo_13 hl (by decide) rfl (fun ls hl => ?_)
  exact key m 0 _ _ _ _ _ _ _ _ (Nat.zero_add m) hS.1 hN hP hD hS hl
end LMF
