/-! rows of my own: both drives, side by side -/
section DRX
variable {n m : Nat} {F T C U : Nat → Int} {mW mU mP : Nat → Int32}
theorem div100 {P c : Int} (h1 : 0 ≤ P) (h2 : P ≤ 693) (h3 : 0 ≤ c) (h4 : c < 8) : iI (100 * P + c) / 100 = iI P := by
  rw [zl100]
  apply Int32.toInt_inj.mp
  rw [Int32.toInt_div, iI_toInt (by omega) (by omega), iI_toInt (by omega) (by omega), iI_toInt (by omega) (by omega), Int.tdiv_eq_ediv_of_nonneg (by omega), show (100 * P + c) / 100 = P by omega]
  exact Int.bmod_eq_of_le (by omega) (by omega)
theorem drive_run (h : NW n m F T C U) {N : Nat} (hPr : PrOK N m C U mW mU) (hCp : CpOK N m C mW mP) {t : Nat} (ht : t < n) {K0 dC dR : Nat → Int} (hD : DP n m F T C U K0 t dC dR) (hN : 100 ≤ N) :
    ∀ (c cur : Nat) (x3 : Int) (x5 : Nat) (P : Int) (K1 K2 : Nat → Int) (M1 M2 : Nat), cur < n → dC cur = 16 * P + c → dR cur = 100 * P + c → 0 ≤ P → x5 + c < n → KOK m C K1 → (∀ a, a < m → K1 a = K2 a) → (∀ a, a < m → K1 a ≠ K0 a → ∃ c' P' : Int, (c : Int) < c' ∧ c' < n ∧ dC (nfr F a) = 16 * P' + c') → c < M1 → c < M2 →
      ∃ K1' K2' : Nat → Int, lp (un4 (pX1_drive_l8 N (iF dC) (iI m) (iF C) (iF F) (iI n) (iF T) (iF U) (iI t))) M1 (iI x3, iI cur, iI x5, iF K1) = some (.inl (iI (x3 + P), iI t, iI ((x5 + c : Nat) : Int), iF K1')) ∧
        lp (un2 (pX5_takeWay_l5 N (iF dR) (iF F) (iI t) mP (iF T) mU mW)) M2 (iI cur, iF K2) = some (iI t, iF K2') ∧ KOK m C K1' ∧ ∀ a, a < m → K1' a = K2' a := by
  have hn := h.2.1
  have hm := h.2.2.1
  obtain ⟨hD1, ⟨z1, z2⟩, hD3⟩ := hD
  have hdb : ∀ v, v < n → 0 ≤ dC v ∧ dC v ≤ 1000000 := by
    intro x hx
    rcases hD1 x hx with g | ⟨c, P, g1, g2, g3, g4, g5, g6⟩ <;> omega
  intro c
  induction c with
  | zero =>
    intro cur x3 x5 P K1 K2 M1 M2 hcur e1 e2 hP hx5 hK hKe hun hM1 hM2
    obtain ⟨M1, rfl⟩ : ∃ q, M1 = q + 1 := ⟨M1 - 1, by omega⟩
    obtain ⟨M2, rfl⟩ : ∃ q, M2 = q + 1 := ⟨M2 - 1, by omega⟩
    have hct : cur = t := by
      by_cases g : cur = t
      · exact g
      · exfalso
        obtain ⟨a, a1, a2, a3, a4, a5⟩ := hD3 cur hcur g (by rcases hD1 cur hcur with f | ⟨c', P', f1, f2, f3, f4, f5, f6⟩ <;> omega)
        rcases hD1 _ (nw_ft h a a1).2.1 with f | ⟨c', P', f1, f2, f3, f4, f5, f6⟩ <;> omega
    subst hct
    have hP0 : P = 0 := by omega
    subst hP0
    refine ⟨K1, K2, ?_, ?_, hK, hKe⟩
    · apply lp_l
      show pX1_drive_l8 _ _ _ _ _ _ _ _ _ _ _ _ _ = _
      unfold pX1_drive_l8
      rw [le_n (by omega) (by omega) (by omega), if_pos rfl, Int.add_zero]
      rfl
    · apply lp_l
      show pX5_takeWay_l5 _ _ _ _ _ _ _ _ _ _ = _
      unfold pX5_takeWay_l5
      rw [if_pos rfl]
  | succ c ih =>
    intro cur x3 x5 P K1 K2 M1 M2 hcur e1 e2 hP hx5 hK hKe hun hM1 hM2
    obtain ⟨M1, rfl⟩ : ∃ q, M1 = q + 1 := ⟨M1 - 1, by omega⟩
    obtain ⟨M2, rfl⟩ : ∃ q, M2 = q + 1 := ⟨M2 - 1, by omega⟩
    have hct : cur ≠ t := by
      rintro rfl
      omega
    have hcl : dC cur < 1000000 := by rcases hD1 cur hcur with f | ⟨c', P', f1, f2, f3, f4, f5, f6⟩ <;> omega
    obtain ⟨a, ha, hl⟩ := nx_least (T := T) (F := F) (C := C) (U := U) (m := m) (K := K1) (dC := dC) (v := cur) (by
      obtain ⟨a, a1, a2, a3, a4, a5⟩ := hD3 cur hcur hct hcl
      have hk : K1 a = K0 a := by
        by_cases g : K1 a = K0 a
        · exact g
        · exfalso
          obtain ⟨c', P', q1, q2, q3⟩ := hun a a1 g
          rw [a3] at q3
          omega
      exact ⟨a, a1, a3, by rw [hk]; exact a2, a4, by rw [dqc hk]; exact a5⟩)
    have ham : a < m := ha.1
    have hft := nw_ft h a ham
    have hC := h.2.2.2.1 a ham
    have hq := dq_bd h hK ham ha.2.2.1
    have hka := hK a ham
    rcases hD1 _ hft.2.1 with f | ⟨c', P', f1, f2, f3, f4, f5, f6⟩
    · have := ha.2.2.2.1; omega
    have hdc := ha.2.2.2.2
    have hcc : c' = c := by omega
    subst hcc
    have hPP : P = P' + dq U K1 a := by omega
    have hTa : T a = (nfr T a : Nat) := by show T a = ((T a).toNat : Int); omega
    obtain ⟨K1', K2', r1, r2, r3, r4⟩ := ih (nfr T a) (x3 + dq U K1 a) (x5 + 1) P' (up K1 a (K1 a + 1)) (up K2 a (K2 a + 1)) M1 M2 hft.2.1 f5 f6 f3 (by omega)
      (fun b hb => by
        by_cases g : b = a
        · subst g; rw [up_eq]; have := ha.2.2.1; omega
        · rw [up_ne _ _ g]; exact hK b hb)
      (fun b hb => by
        by_cases g : b = a
        · subst g; rw [up_eq, up_eq, hKe b hb]
        · rw [up_ne _ _ g, up_ne _ _ g]; exact hKe b hb)
      (fun b hb hne => by
        by_cases g : b = a
        · subst g
          rw [ha.2.1]
          exact ⟨((c + 1 : Nat) : Int), P, by omega, by omega, e1⟩
        · rw [up_ne _ _ g] at hne
          obtain ⟨c', P'', q1, q2, q3⟩ := hun b hb hne
          exact ⟨c', P'', by omega, q2, q3⟩) (by omega) (by omega)
    refine ⟨K1', K2', ?_, ?_, r3, r4⟩
    · have e : un4 (pX1_drive_l8 N (iF dC) (iI m) (iF C) (iF F) (iI n) (iF T) (iF U) (iI t)) (iI x3, iI cur, iI x5, iF K1) = some (.inr (iI (x3 + dq U K1 a), iI (nfr T a : Nat), iI ((x5 + 1 : Nat) : Int), iF (up K1 a (K1 a + 1)))) := by
        show pX1_drive_l8 N (iF dC) (iI m) (iF C) (iF F) (iI n) (iF T) (iF U) (iI t) (iI x3) (iI cur) (iI x5) (iF K1) = _
        unfold pX1_drive_l8
        rw [le_n (by omega) (by omega) (by omega), eq_n (by omega) (by omega) (by omega) (by omega) (by omega), s1_best h hK hdb hcur hcl ha hl hN, bind_some, zlm, eq_n (by omega) (by omega) (by omega) (by omega) (by omega)]
        rw [s1_next h hK ham ha.2.2.1, bind_some, rd_n (by omega) (by omega), bind_some, rd_n (by omega) (by omega), bind_some, zl1, iI_add, wr_n (by omega) (by omega), bind_some, iI_add, iI_add, hTa]
        rfl
      rw [lp_r e, r1, hPP, show x3 + (P' + dq U K1 a) = x3 + dq U K1 a + P' by omega, show x5 + (c + 1) = x5 + 1 + c by omega]
    · have e : un2 (pX5_takeWay_l5 N (iF dR) (iF F) (iI t) mP (iF T) mU mW) (iI cur, iF K2) = some (.inr (iI (nfr T a : Nat), iF (up K2 a (K2 a + 1)))) := by
        show pX5_takeWay_l5 N (iF dR) (iF F) (iI t) mP (iF T) mU mW (iI cur) (iF K2) = _
        unfold pX5_takeWay_l5
        have hb := s5_best h hK hPr hCp (t := t) (K0 := K0) ⟨hD1, ⟨z1, z2⟩, hD3⟩ hcur hcl ha hl hKe hN
        have e0 : (0 : Int32) = iI ((0 : Nat) : Int) := rfl
        rw [eq_n (by omega) (by omega) (by omega) (by omega) (by omega), e0, hb, bind_some, rd_n (by omega) (by omega), bind_some, rd_n (by omega) (by omega), bind_some, zl1, iI_add, wr_n (by omega) (by omega), bind_some, hTa]
      rw [lp_r e, r2]
theorem come_run (h : NW n m F T C U) {N : Nat} (hPr : PrOK N m C U mW mU) (hCp : CpOK N m C mW mP) {s t : Nat} (hs : s < n) (ht : t < n) {A : Nat} (hA : A ≤ 200) (hN : 100 ≤ N) :
    ∀ (r x : Nat) (Pa La : Int) (K1 W K2 D cD : Nat → Int) (M1 M2 : Nat), x + r = A → KOK m C K1 → (∀ a, a < m → K1 a = K2 a) → BT m n (nfr T) (nfr F) (dw 100 U K2) (dok C K2) (src t) D cD → bbw n 96 D → r < M1 → r < M2 →
      ∃ (x' : Nat) (Pa' La' : Int) (K1' W' K2' D' : Nat → Int), (lp (un6 (pX1_comeOneByOne_l47 N (iI m) (iF C) (iF F) (iI n) (iF T) (iF U) (iI s) (iI t) (iI A))) M1 (iI x, iI x, iI Pa, iI La, iF K1, iF W)).bind (sel (un6 fun _ dFo_17 dPa_18 dLa_19 dT_20 dW_21 => some (dFo_17, dPa_18, dLa_19, dT_20, dW_21))) = some (iI x', iI Pa', iI La', iF K1', iF W') ∧
        lp (un5 (pX5_drive_l42 N (iI m) (iF F) (iI t) (iI n) mP (iI A) (iI s) (iF T) mU mW)) M2 (iI x, iI Pa, iI La, iF D, iF K2) = some (iI x', iI Pa', iI La', iF D', iF K2') ∧ x' ≤ A ∧ ∀ a, a < m → K1' a = K2' a := by
  have hn := h.2.1
  have hm := h.2.2.1
  intro r
  induction r with
  | zero =>
    intro x Pa La K1 W K2 D cD M1 M2 hx hK hKe hB hb hM1 hM2
    obtain ⟨M1, rfl⟩ : ∃ q, M1 = q + 1 := ⟨M1 - 1, by omega⟩
    obtain ⟨M2, rfl⟩ : ∃ q, M2 = q + 1 := ⟨M2 - 1, by omega⟩
    refine ⟨x, Pa, La, K1, W, K2, D, ?_, ?_, by omega, hKe⟩
    · have e : un6 (pX1_comeOneByOne_l47 N (iI m) (iF C) (iF F) (iI n) (iF T) (iF U) (iI s) (iI t) (iI A)) (iI x, iI x, iI Pa, iI La, iF K1, iF W) = some (.inl (.inl (iI x, iI x, iI Pa, iI La, iF K1, iF W))) := by
        show pX1_comeOneByOne_l47 _ _ _ _ _ _ _ _ _ _ _ _ _ _ _ _ = _
        unfold pX1_comeOneByOne_l47
        rw [le_y (by omega) (by omega) (by omega)]
      rw [lp_l e]; rfl
    · apply lp_l
      show pX5_drive_l42 _ _ _ _ _ _ _ _ _ _ _ _ _ _ _ _ = _
      unfold pX5_drive_l42
      rw [le_y (by omega) (by omega) (by omega)]
  | succ r ih =>
    intro x Pa La K1 W K2 D cD M1 M2 hx hK hKe hB hb hM1 hM2
    obtain ⟨M1, rfl⟩ : ∃ q, M1 = q + 1 := ⟨M1 - 1, by omega⟩
    obtain ⟨M2, rfl⟩ : ∃ q, M2 = q + 1 := ⟨M2 - 1, by omega⟩
    have hK2 : KOK m C K2 := fun a ha => by rw [← hKe a ha]; exact hK a ha
    obtain ⟨dC, cC, w1, w2, w3⟩ := s1_weigh h hK ht (W0 := W) hN
    have hB' := bt_wcongr hB (w' := dw 100 U K1) (ok' := dok C K1) (fun a ha => ⟨by unfold dok; rw [hKe a ha], by unfold dw; rw [dqc (hKe a ha)]⟩)
    have hD := dp_of h hK ht w2 hB' w3 hb
    rcases hD.1 s hs with g | ⟨c, P, g1, g2, g3, g4, g5, g6⟩
    · refine ⟨x, Pa, La, K1, dC, K2, D, ?_, ?_, by omega, hKe⟩
      · have e : un6 (pX1_comeOneByOne_l47 N (iI m) (iF C) (iF F) (iI n) (iF T) (iF U) (iI s) (iI t) (iI A)) (iI x, iI x, iI Pa, iI La, iF K1, iF W) = some (.inl (.inr (iI x, iI Pa, iI La, iF K1, iF dC))) := by
          show pX1_comeOneByOne_l47 N (iI m) (iF C) (iF F) (iI n) (iF T) (iF U) (iI s) (iI t) (iI A) (iI x) (iI x) (iI Pa) (iI La) (iF K1) (iF W) = _
          unfold pX1_comeOneByOne_l47
          rw [le_n (by omega) (by omega) (by omega), w1, bind_some, rd_n (by omega) (by omega), bind_some, zlF, lt_n (by omega) (by omega) (by omega)]
        rw [lp_l e]; rfl
      · apply lp_l
        show pX5_drive_l42 N (iI m) (iF F) (iI t) (iI n) mP (iI A) (iI s) (iF T) mU mW (iI x) (iI Pa) (iI La) (iF D) (iF K2) = _
        unfold pX5_drive_l42
        rw [le_n (by omega) (by omega) (by omega), rd_n (by omega) (by omega), bind_some, zlF, le_y (by omega) (by omega) (by omega)]
    · obtain ⟨cn, rfl⟩ : ∃ q : Nat, c = q := ⟨c.toNat, by omega⟩
      obtain ⟨K1', K2', r1, r2, r3, r4⟩ := drive_run h hPr hCp ht hD hN cn s 0 0 P K1 K2 N N hs g5 g6 g3 (by omega) hK hKe (fun a ha hne => absurd rfl hne) (by omega) (by omega)
      have hK2' : KOK m C K2' := fun a ha => by rw [← r4 a ha]; exact r3 a ha
      obtain ⟨D', cD', l1, l2, l3⟩ := s5_look h hK2' hPr hCp ht (D0 := D) hN
      obtain ⟨x', Pa', La', K1'', W', K2'', D'', i1, i2, i3, i4⟩ := ih (x + 1) (Pa + P) P K1' dC K2' D' cD' M1 M2 (by omega) r3 r4 l2 l3 (by omega) (by omega)
      refine ⟨x', Pa', La', K1'', W', K2'', D'', ?_, ?_, i3, i4⟩
      · have e : un6 (pX1_comeOneByOne_l47 N (iI m) (iF C) (iF F) (iI n) (iF T) (iF U) (iI s) (iI t) (iI A)) (iI x, iI x, iI Pa, iI La, iF K1, iF W) = some (.inr (iI ((x + 1 : Nat) : Int), iI ((x + 1 : Nat) : Int), iI (Pa + P), iI P, iF K1', iF dC)) := by
          show pX1_comeOneByOne_l47 N (iI m) (iF C) (iF F) (iI n) (iF T) (iF U) (iI s) (iI t) (iI A) (iI x) (iI x) (iI Pa) (iI La) (iF K1) (iF W) = _
          unfold pX1_comeOneByOne_l47
          rw [le_n (by omega) (by omega) (by omega), w1, bind_some, rd_n (by omega) (by omega), bind_some, zlF, lt_y (by omega) (by omega) (by omega)]
          unfold pX1_drive
          have r1' : lp (un4 (pX1_drive_l8 N (iF dC) (iI m) (iF C) (iF F) (iI n) (iF T) (iF U) (iI t))) N ((0 : Int32), iI s, (0 : Int32), iF K1) = _ := r1
          rw [r1']
          show bnd2 (some (iI (0 + P), iF K1')) _ = _
          rw [bs2, iI_s, iI_add, Int.zero_add]
        rw [lp_r e, i1]
      · have e : un5 (pX5_drive_l42 N (iI m) (iF F) (iI t) (iI n) mP (iI A) (iI s) (iF T) mU mW) (iI x, iI Pa, iI La, iF D, iF K2) = some (.inr (iI ((x + 1 : Nat) : Int), iI (Pa + P), iI P, iF D', iF K2')) := by
          show pX5_drive_l42 N (iI m) (iF F) (iI t) (iI n) mP (iI A) (iI s) (iF T) mU mW (iI x) (iI Pa) (iI La) (iF D) (iF K2) = _
          unfold pX5_drive_l42
          rw [le_n (by omega) (by omega) (by omega), rd_n (by omega) (by omega), bind_some, zlF, le_n (by omega) (by omega) (by omega), bind_some]
          unfold pX5_takeWay
          rw [r2, bs2, bind_some, l1, bind_some, iI_s, g6, div100 g3 g4 g1 (by omega), iI_add]
        rw [lp_r e, i2]
theorem dr_all (h : NW n m F T C U) {N : Nat} (hPr : PrOK N m C U mW mU) (hCp : CpOK N m C mW mP) {s t : Nat} (hs : s < n) (ht : t < n) {A : Nat} (hA : A ≤ 200) (hN : 20000 ≤ N) (T0 W0 D0 K0 : Nat → Int) :
    ∃ (x : Nat) (Pa La : Int) (K1 W K2 D : Nat → Int), pX1_comeOneByOne N (iI n) (iI m) (iF F) (iF T) (iF C) (iF U) (iF T0) (iF W0) (iI s) (iI t) (iI A) = some (iI x, iI Pa, iI La, iF K1, iF W) ∧
      pX5_drive N (iI n) (iI m) (iI s) (iI t) (iI A) (iF F) (iF T) mW mU mP (iF D0) (iF K0) = some (iI x, iI Pa, iI La, iF D, iF K2) ∧ x ≤ A ∧ ∀ a, a < m → K1 a = K2 a := by
  have hn := h.2.1
  have hm := h.2.2.1
  have z1 : ∀ a, a < m → fil (fun _ => (0 : Int)) T0 m a = 0 := fun a ha => fil_lt _ _ ha
  have z2 : ∀ a, a < m → fil (fun _ => (0 : Int)) K0 m a = 0 := fun a ha => fil_lt _ _ ha
  have hK1 : KOK m C (fil (fun _ => 0) T0 m) := fun a ha => by have := h.2.2.2.1 a ha; rw [z1 a ha]; omega
  have hK2 : KOK m C (fil (fun _ => 0) K0 m) := fun a ha => by have := h.2.2.2.1 a ha; rw [z2 a ha]; omega
  have i1 : lp (un2 (pX1_comeOneByOne_l3 (iI m))) N (0, iF T0) = some (iI m, iF (fil (fun _ => 0) T0 m)) := by
    rw [show ((0 : Int32), iF T0) = (iI ((0 : Nat) : Int), iF (fil (fun _ => 0) T0 0)) by rw [fil_0]; rfl]
    refine lp_run (fun k : Nat => (iI (k : Int), iF (fil (fun _ => 0) T0 k))) _ m (fun k hk => ?_) ?_ (by omega)
    · show pX1_comeOneByOne_l3 (iI m) (iI (k : Nat)) (iF (fil (fun _ => 0) T0 k)) = _
      unfold pX1_comeOneByOne_l3
      rw [le_n (by omega) (by omega) (by omega), zl0, wr_n (by omega) (by omega), bind_some]
      rw [show (0 : Int) = (fun _ : Nat => (0 : Int)) k from rfl, fil_s, iI_s]
    · show pX1_comeOneByOne_l3 (iI m) (iI (m : Nat)) (iF (fil (fun _ => 0) T0 m)) = _
      unfold pX1_comeOneByOne_l3
      rw [le_y (by omega) (by omega) (by omega)]
  have i2 : lp (un2 (pX5_drive_l2 (iI m))) N (0, iF K0) = some (iI m, iF (fil (fun _ => 0) K0 m)) := by
    rw [show ((0 : Int32), iF K0) = (iI ((0 : Nat) : Int), iF (fil (fun _ => 0) K0 0)) by rw [fil_0]; rfl]
    refine lp_run (fun k : Nat => (iI (k : Int), iF (fil (fun _ => 0) K0 k))) _ m (fun k hk => ?_) ?_ (by omega)
    · show pX5_drive_l2 (iI m) (iI (k : Nat)) (iF (fil (fun _ => 0) K0 k)) = _
      unfold pX5_drive_l2
      rw [le_n (by omega) (by omega) (by omega), zl0, wr_n (by omega) (by omega), bind_some]
      rw [show (0 : Int) = (fun _ : Nat => (0 : Int)) k from rfl, fil_s, iI_s]
    · show pX5_drive_l2 (iI m) (iI (m : Nat)) (iF (fil (fun _ => 0) K0 m)) = _
      unfold pX5_drive_l2
      rw [le_y (by omega) (by omega) (by omega)]
  obtain ⟨D, cD, l1, l2, l3⟩ := s5_look h hK2 hPr hCp ht (D0 := D0) (N := N) (by omega)
  obtain ⟨x', Pa', La', K1', W', K2', D', c1, c2, c3, c4⟩ := come_run h hPr hCp hs ht hA (by omega) A 0 0 (-1) (fil (fun _ => 0) T0 m) W0 (fil (fun _ => 0) K0 m) D cD N N (by omega) hK1 (fun a ha => by rw [z1 a ha, z2 a ha]) l2 l3 (by omega) (by omega)
  refine ⟨x', Pa', La', K1', W', K2', D', ?_, ?_, c3, c4⟩
  · unfold pX1_comeOneByOne
    rw [i1, bs2]
    exact c1
  · unfold pX5_drive
    rw [i2, bs2, l1, bind_some]
    have c2' : lp (un5 (pX5_drive_l42 N (iI m) (iF F) (iI t) (iI n) mP (iI A) (iI s) (iF T) mU mW)) N ((0 : Int32), (0 : Int32), (-1 : Int32), iF D, iF (fil (fun _ => 0) K0 m)) = _ := c2
    rw [c2', bs5]
end DRX
