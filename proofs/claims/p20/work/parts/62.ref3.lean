/-! the reference: the cheapest flow within bounds -/
section X5c
variable {n m : Nat} {F T C U O L H R : Nat → Int} {mW mU : Nat → Int32}
theorem net_bd {fr to : Nat → Nat} {f : Nat → Int} (hf : ∀ a, a < m → 0 ≤ f a ∧ f a ≤ 15) (v : Nat) : -(15 * m) ≤ net m fr to f v ∧ net m fr to f v ≤ 15 * m := by
  unfold net
  constructor
  · have h1 := sm_le (f := fun _ => (-15 : Int)) (g := fun a => (if fr a = v then f a else 0) - (if to a = v then f a else 0)) (n := m) (fun a ha => by
      have := hf a ha
      split <;> split <;> omega)
    rw [sm_const] at h1
    omega
  · have h1 := sm_le (f := fun a => (if fr a = v then f a else 0) - (if to a = v then f a else 0)) (g := fun _ => (15 : Int)) (n := m) (fun a ha => by
      have := hf a ha
      split <;> split <;> omega)
    rw [sm_const] at h1
    exact h1
theorem cst_bd (h : NW n m F T C U) {f : Nat → Int} (hf : ∀ a, a < m → 0 ≤ f a ∧ f a ≤ C a) : 0 ≤ cst m (npr U) f ∧ cst m (npr U) f ≤ 17820 := by
  have hm : m ≤ 12 := h.2.2.1
  have key : ∀ a, a < m → 0 ≤ CC (npr U) a (f a) ∧ CC (npr U) a (f a) ≤ 1485 := by
    intro a ha
    have h1 := hf a ha
    have h2 := h.2.2.2.1 a ha
    unfold CC
    have h3 := sm_nonneg (f := fun u => npr U a (u + 1)) (n := (f a).toNat) (fun u hu => (h.2.2.2.2.1 a ha (u + 1) (by omega) (by omega)).1)
    have h4 := sm_le (f := fun u => npr U a (u + 1)) (g := fun _ => (99 : Int)) (n := (f a).toNat) (fun u hu => (h.2.2.2.2.1 a ha (u + 1) (by omega) (by omega)).2)
    rw [sm_const] at h4
    omega
  unfold cst
  have h5 := sm_nonneg (f := fun a => CC (npr U) a (f a)) (n := m) (fun a ha => (key a ha).1)
  have h6 := sm_le (f := fun a => CC (npr U) a (f a)) (g := fun _ => (1485 : Int)) (n := m) (fun a ha => (key a ha).2)
  rw [sm_const] at h6
  omega
theorem s5_next {d : Nat → Int} (hn : n ≤ 8) (hd : ∀ v, v < n → -1000000 ≤ d v ∧ d v ≤ 1000000) (hR : ∀ v, v < n → -1000000 ≤ R v ∧ R v ≤ 1000000) {N : Nat} (hN : 100 ≤ N) :
    ∃ nx lf : Int, lp (un3 (pX5_cheapest_l28 (iF d) (iI n) (iF R))) N (-1, 0, 0) = some (iI nx, iI lf, iI n) ∧ ((lf = 0 ∧ ∀ v, v < n → R v ≤ 0) ∨ (lf = 1 ∧ ∃ v, v < n ∧ 0 < R v)) ∧
      ((nx = -1 ∧ ∀ v, v < n → R v < 0 → 1000000 ≤ d v) ∨ ∃ w : Nat, w < n ∧ nx = w ∧ R w < 0 ∧ d w < 1000000) := by
  obtain ⟨r, hr1, nx, lf, hr2, hr3, hr4⟩ := lp_inv (step := un3 (pX5_cheapest_l28 (iF d) (iI n) (iF R)))
    (fun k x => ∃ (v : Nat) (nx lf : Int), x = (iI nx, iI lf, iI v) ∧ v + k = n ∧ ((lf = 0 ∧ ∀ w, w < v → R w ≤ 0) ∨ (lf = 1 ∧ ∃ w, w < n ∧ 0 < R w)) ∧ ((nx = -1 ∧ ∀ w, w < v → R w < 0 → 1000000 ≤ d w) ∨ ∃ w : Nat, w < n ∧ nx = w ∧ R w < 0 ∧ d w < 1000000))
    (fun x => ∃ nx lf : Int, x = (iI nx, iI lf, iI n) ∧ ((lf = 0 ∧ ∀ v, v < n → R v ≤ 0) ∨ (lf = 1 ∧ ∃ v, v < n ∧ 0 < R v)) ∧ ((nx = -1 ∧ ∀ v, v < n → R v < 0 → 1000000 ≤ d v) ∨ ∃ w : Nat, w < n ∧ nx = w ∧ R w < 0 ∧ d w < 1000000)) (by
    intro k x hI
    obtain ⟨v, nx, lf, rfl, hv, hl, hx⟩ := hI
    show (∃ r, pX5_cheapest_l28 (iF d) (iI n) (iF R) (iI nx) (iI lf) (iI v) = some (.inl r) ∧ _) ∨ (∃ s', pX5_cheapest_l28 (iF d) (iI n) (iF R) (iI nx) (iI lf) (iI v) = some (.inr s') ∧ _)
    unfold pX5_cheapest_l28
    by_cases c0 : n ≤ v
    · left
      have e : v = n := by omega
      subst e
      rw [le_y (by omega) (by omega) (by omega)]
      exact ⟨_, rfl, nx, lf, rfl, hl, hx⟩
    · right
      have h1 := hd v (by omega)
      have h2 := hR v (by omega)
      have hnx : nx = -1 ∨ ∃ w : Nat, w < n ∧ nx = w := by rcases hx with ⟨g, -⟩ | ⟨w, w1, w2, -⟩; exact Or.inl g; exact Or.inr ⟨w, w1, w2⟩
      rw [le_n (by omega) (by omega) (by omega)]
      have hrR : rd 8 (iF R) (iI (v : Int)) = some (iI (R v)) := rd_n (by omega) (by omega)
      have hrd : rd 8 (iF d) (iI (v : Int)) = some (iI (d v)) := rd_n (by omega) (by omega)
      -- the choice of the next node
      have inner : ∀ fl : Int32, ∃ nx' : Int, ((nx' = -1 ∧ ∀ w, w < v + 1 → R w < 0 → 1000000 ≤ d w) ∨ ∃ w : Nat, w < n ∧ nx' = w ∧ R w < 0 ∧ d w < 1000000) ∧
          ((rd 8 (iF R) (iI (v : Int))).bind fun t20 => if 0 ≤ t20 then some (Sum.inr (iI nx, fl, iI (v : Int) + 1)) else (rd 8 (iF d) (iI (v : Int))).bind fun t21 => if 1000000 ≤ t21 then some (Sum.inr (iI nx, fl, iI (v : Int) + 1)) else
            if iI nx = ((-1)) then some (Sum.inr (iI (v : Int), fl, iI (v : Int) + 1)) else (rd 8 (iF d) (iI (v : Int))).bind fun t22 => (rd 8 (iF d) (iI nx)).bind fun t23 => if t23 ≤ t22 then some (Sum.inr (iI nx, fl, iI (v : Int) + 1)) else some (Sum.inr (iI (v : Int), fl, iI (v : Int) + 1))) =
          (some (.inr (iI nx', fl, iI ((v + 1 : Nat) : Int))) : Option ((Int32 × Int32 × Int32) ⊕ (Int32 × Int32 × Int32))) := by
        intro fl
        have keep : (0 ≤ R v ∨ 1000000 ≤ d v) → (nx = -1 ∧ ∀ w, w < v + 1 → R w < 0 → 1000000 ≤ d w) ∨ ∃ w : Nat, w < n ∧ nx = w ∧ R w < 0 ∧ d w < 1000000 := by
          intro hk
          rcases hx with ⟨g1, g2⟩ | g
          · left
            refine ⟨g1, fun w hw hw2 => ?_⟩
            by_cases e : w = v
            · subst e; omega
            · exact g2 w (by omega) hw2
          · exact Or.inr g
        rw [hrR, hrd, bind_some, bind_some, bind_some, iI_s]
        by_cases c1 : 0 ≤ R v
        · refine ⟨nx, keep (Or.inl c1), ?_⟩
          rw [zl0, le_y c1 (by omega) (by omega)]
        · rw [zl0, le_n (by omega) (by omega) (by omega)]
          by_cases c2 : 1000000 ≤ d v
          · refine ⟨nx, keep (Or.inr c2), ?_⟩
            rw [zlF, le_y c2 (by omega) (by omega)]
          · rw [zlF, le_n (by omega) (by omega) (by omega)]
            rcases hnx with c3 | ⟨w, w1, w2⟩
            · refine ⟨v, Or.inr ⟨v, by omega, rfl, by omega, by omega⟩, ?_⟩
              rw [c3, zlm, eq_y rfl]
            · have h3 := hd w w1
              rw [w2, zlm, eq_n (by omega) (by omega) (by omega) (by omega) (by omega), rd_n (by omega) (by omega), bind_some]
              by_cases c4 : d w ≤ d v
              · refine ⟨w, ?_, ?_⟩
                · rw [← w2]
                  rcases hx with ⟨g1, -⟩ | g
                  · omega
                  · exact Or.inr g
                · rw [le_y c4 (by omega) (by omega)]
              · refine ⟨v, Or.inr ⟨v, by omega, rfl, by omega, by omega⟩, ?_⟩
                rw [le_n (by omega) (by omega) (by omega)]
      rcases hl with ⟨g1, g2⟩ | ⟨g1, g2⟩
      · rw [g1, eq0_y rfl]
        by_cases c1 : R v ≤ 0
        · obtain ⟨nx', i1, i2⟩ := inner 0
          refine ⟨_, ?_, k - 1, by omega, v + 1, nx', 0, rfl, by omega, Or.inl ⟨rfl, fun w hw => ?_⟩, i1⟩
          · rw [hrR, bind_some, le0_y c1 (by omega), ← hrR]
            exact i2
          · by_cases e : w = v
            · subst e; exact c1
            · exact g2 w (by omega)
        · obtain ⟨nx', i1, i2⟩ := inner 1
          refine ⟨_, ?_, k - 1, by omega, v + 1, nx', 1, rfl, by omega, Or.inr ⟨rfl, v, by omega, by omega⟩, i1⟩
          rw [hrR, bind_some, le0_n (by omega) (by omega), ← hrR]
          exact i2
      · rw [g1, eq0_n (by omega) (by omega) (by omega)]
        obtain ⟨nx', i1, i2⟩ := inner 1
        exact ⟨_, i2, k - 1, by omega, v + 1, nx', 1, rfl, by omega, Or.inr ⟨rfl, g2⟩, i1⟩) N n (-1, 0, 0) ⟨0, -1, 0, rfl, by omega, Or.inl ⟨rfl, fun w hw => by omega⟩, Or.inl ⟨rfl, fun w hw => by omega⟩⟩ (by omega)
  exact ⟨nx, lf, by rw [hr1, hr2], hr3, hr4⟩
theorem dma_sum {s t : Nat} (hs : s < n) (ht : t < n) {A al : Int} (hal : al = -1 ∨ (0 ≤ al ∧ al < n)) : sm (dma s t A al) n = 0 := by
  unfold dma dem
  rw [sm_add, sm_sub, sm_sel (fun _ => A) hs, sm_sel (fun _ => A) ht]
  rcases hal with c | c
  · rw [show sm (fun v : Nat => if al = -1 then 0 else (if s = v then (1 : Int) else 0) - (if al = (v : Int) then 1 else 0)) n = sm (fun _ => 0) n from sm_congr (fun v _ => if_pos c), sm_zero]; omega
  · rw [show sm (fun v : Nat => if al = -1 then 0 else (if s = v then (1 : Int) else 0) - (if al = (v : Int) then 1 else 0)) n = sm (fun v : Nat => (if s = v then (1 : Int) else 0) - (if al.toNat = v then 1 else 0)) n from sm_congr (fun v _ => by
      rw [if_neg (show ¬ al = -1 by omega)]
      by_cases e : al = (v : Int)
      · rw [if_pos e, if_pos (show al.toNat = v by omega)]
      · rw [if_neg e, if_neg (show ¬ al.toNat = v by omega)]), sm_sub, sm_sel (fun _ => 1) hs, sm_sel (fun _ => 1) (show al.toNat < n by omega)]
    omega
theorem net_sum {fr to : Nat → Nat} (hft : ∀ a, a < m → fr a < n ∧ to a < n) (f : Nat → Int) : sm (fun v => net m fr to f v) n = 0 := by
  have h1 := net_pi hft f (fun _ => 1)
  rw [show sm (fun v => (fun _ : Nat => (1 : Int)) v * net m fr to f v) n = sm (fun v => net m fr to f v) n from sm_congr (fun v _ => Int.one_mul _)] at h1
  rw [h1]
  refine (sm_congr (g := fun _ => 0) (fun a _ => ?_)).trans (sm_zero m)
  show f a * (1 - 1) = 0
  rw [Int.sub_self, Int.mul_zero]
def psum (n : Nat) (R : Nat → Int) : Int := sm (fun v => if 0 < R v then R v else 0) n
theorem s5_cheapest {N : Nat} (hN : 20000 ≤ N) (h : NW n m F T C U) (hLH : ∀ a, a < m → 0 ≤ L a ∧ L a ≤ H a ∧ H a ≤ C a) (hPr : PrOK N m C U mW mU) {O0 R0 d0 cb0 : Nat → Int} {s t : Nat} (hs : s < n) (ht : t < n) (hst : s ≠ t) {A al : Int} (hA : 0 ≤ A ∧ A ≤ 200) (hal : al = -1 ∨ (0 ≤ al ∧ al < n)) :
    ∃ (c : Int) (O' R' d' cb' : Nat → Int), pX5_cheapest N (iI n) (iI m) (iI s) (iI t) (iF F) (iF T) mW mU (iF L) (iF H) (iF O0) (iF R0) (iF d0) (iF cb0) (iI A) (iI al) = some (iI c, iF O', iF R', iF d', iF cb') ∧
      ((0 ≤ c ∧ c ≤ 20000 ∧ IsMin n m (nfr F) (nfr T) (npr U) L H (dma s t A al) c) ∨ (c = 1000000 ∧ NoFlo n m (nfr F) (nfr T) L H (dma s t A al))) := by
  have hn : 2 ≤ n ∧ n ≤ 8 := ⟨h.1, h.2.1⟩
  have hm : m ≤ 12 := h.2.2.1
  have hft : ∀ a, a < m → nfr F a < n ∧ nfr T a < n := fun a ha => ⟨(nw_ft h a ha).1, (nw_ft h a ha).2.1⟩
  have hC : ∀ a, a < m → C a ≤ 15 := fun a ha => (h.2.2.2.1 a ha).2.2.2.2.2.2
  generalize hb : dma s t A al = b
  have hbb : ∀ v, v < n → -202 ≤ b v ∧ b v ≤ 202 := by
    intro v hv
    rw [← hb]
    unfold dma dem
    split <;> split <;> split <;> (try split) <;> (try split) <;> omega
  have hbs : sm b n = 0 := by rw [← hb]; exact dma_sum hs ht hal
  have hRb : ∀ (f R : Nat → Int), WF m C L H f → (∀ v, v < n → R v = b v - net m (nfr F) (nfr T) f v) → ∀ v, v < n → -400 ≤ R v ∧ R v ≤ 400 := by
    intro f R hf hR v hv
    have h1 := net_bd (m := m) (fr := nfr F) (to := nfr T) (f := f) (fun a ha => by have := hf a ha; have := hC a ha; omega) v
    have h2 := hbb v hv
    have h3 := hR v hv
    omega
  let I : Nat → (Int32 × Int32 × (Nat → Int32) × (Nat → Int32) × (Nat → Int32) × (Nat → Int32)) → Prop := fun k x => ∃ (g : Int) (f R d cb : Nat → Int), x = (iI (cst m (npr U) f), iI g, iF f, iF R, iF d, iF cb) ∧ WF m C L H f ∧ (∀ v, v < n → R v = b v - net m (nfr F) (nfr T) f v) ∧ (∃ p, Pot m (nfr F) (nfr T) (npr U) L H f p) ∧ ((g = 1 ∧ psum n R + 1 = k) ∨ (g = 0 ∧ ∀ v, v < n → R v = 0))
  let Post : ((Int32 × Int32 × (Nat → Int32) × (Nat → Int32) × (Nat → Int32) × (Nat → Int32)) ⊕ (Int32 × (Nat → Int32) × (Nat → Int32) × (Nat → Int32) × (Nat → Int32))) → Prop := fun r =>
    (∃ f R d cb : Nat → Int, r = .inl (iI (cst m (npr U) f), iI 0, iF f, iF R, iF d, iF cb) ∧ Flo n m (nfr F) (nfr T) L H b f ∧ ∃ p, Pot m (nfr F) (nfr T) (npr U) L H f p) ∨
    (∃ f R d cb : Nat → Int, r = .inr (iI 1000000, iF f, iF R, iF d, iF cb) ∧ NoFlo n m (nfr F) (nfr T) L H b)
  obtain ⟨R1, hb1, hb2⟩ := s5_begin h (L := L) (fun a ha => by have := hLH a ha; omega) hPr (O0 := O0) (R0 := R0) hs ht hst (A := A) (al := al) hal (N := N) (by omega)
  rw [hb] at hb2
  have hfil : ∀ a, a < m → fil L O0 m a = L a := fun a ha => fil_lt _ _ ha
  have hwf0 : WF m C L H (fil L O0 m) := fun a ha => by have := hLH a ha; rw [hfil a ha]; omega
  have hcst0 : cst m (npr U) (fil L O0 m) = cst m (npr U) L := sm_congr (fun a ha => by rw [hfil a ha])
  have hnet0 : ∀ v, net m (nfr F) (nfr T) (fil L O0 m) v = net m (nfr F) (nfr T) L v := fun v => sm_congr (fun a ha => by rw [hfil a ha])
  have hps : psum n R1 ≤ 400 * n := by
    unfold psum
    have h1 := sm_le (f := fun v => if 0 < R1 v then R1 v else 0) (g := fun _ => (400 : Int)) (n := n) (fun v hv => by
      have := hRb (fil L O0 m) R1 hwf0 (fun v hv => by rw [hnet0]; exact hb2 v hv) v hv
      split <;> omega)
    rw [sm_const] at h1
    exact h1
  have hps0 : 0 ≤ psum n R1 := sm_nonneg (fun v hv => by split <;> omega)
  have hinit : I (psum n R1 + 1).toNat (iI (cst m (npr U) L), 1, iF (fil L O0 m), iF R1, iF d0, iF cb0) := by
    refine ⟨1, _, _, _, _, by rw [hcst0]; rfl, hwf0, fun v hv => by rw [hnet0]; exact hb2 v hv, ⟨fun _ => 0, pot_of (fun a ha hl => ?_) (fun a ha hl => ?_)⟩, Or.inl ⟨rfl, by omega⟩⟩
    · have h1 := hLH a ha
      rw [hfil a ha] at hl ⊢
      have := h.2.2.2.2.1 a ha ((L a).toNat + 1) (by omega) (by omega)
      show (0 : Int) ≤ 0 + npr U a ((L a).toNat + 1)
      omega
    · rw [hfil a ha] at hl; omega
  obtain ⟨r, hr1, hr2⟩ := lp_inv (step := un6 (pX5_cheapest_l10 N (iI m) (iF F) (iF L) (iF H) (iI n) (iF T) mU mW)) I Post (by
    intro k x hI
    obtain ⟨g, f, R, d, cb, rfl, hf, hR, ⟨p, hp⟩, hg⟩ := hI
    show (∃ r, pX5_cheapest_l10 N (iI m) (iF F) (iF L) (iF H) (iI n) (iF T) mU mW (iI (cst m (npr U) f)) (iI g) (iF f) (iF R) (iF d) (iF cb) = some (.inl r) ∧ Post r) ∨ (∃ s', pX5_cheapest_l10 N (iI m) (iF F) (iF L) (iF H) (iI n) (iF T) mU mW (iI (cst m (npr U) f)) (iI g) (iF f) (iF R) (iF d) (iF cb) = some (.inr s') ∧ ∃ k', k' < k ∧ I k' s')
    have hRbd := hRb f R hf hR
    have hflo : Flo n m (nfr F) (nfr T) L H (fun v => b v - R v) f := ⟨fun a ha => ⟨(hf a ha).2.1, (hf a ha).2.2.1⟩, fun v hv => by have := hR v hv; dsimp only; omega⟩
    unfold pX5_cheapest_l10
    rcases hg with ⟨g1, g2⟩ | ⟨g1, g2⟩
    · rw [g1, eq0_n (by omega) (by omega) (by omega)]
      obtain ⟨d1, cb1, m1, m2, m3⟩ := s5_measure h hf hPr ⟨p, hp⟩ (R := R) (d0 := d) (cb0 := cb) (fun v hv => by have := hRbd v hv; omega) (N := N) (by omega)
      obtain ⟨far1, far2⟩ := bt_far h hf m2 m3
      obtain ⟨nx, lf, n1, n2, n3⟩ := s5_next (R := R) hn.2 (d := d1) (fun v hv => by have := m3 v hv; omega) (fun v hv => by have := hRbd v hv; omega) (N := N) (by omega)
      rw [m1, bs2, n1, bs3]
      have sendcase : ∀ w : Nat, w < n → R w < 0 → d1 w < 1000000 → (∃ s' : (Int32 × Int32 × (Nat → Int32) × (Nat → Int32) × (Nat → Int32) × (Nat → Int32)),
          ((rd 8 (iF d1) (iI (w : Int))).bind fun t34 => bnd2 (pX5_send N (iF F) (iF T) (iF f) (iF R) (iF cb1) (iI (w : Int))) fun mO_35 mR_36 => some (Sum.inr (iI (cst m (npr U) f) + t34, 1, mO_35, mR_36, iF d1, iF cb1))) = (some (.inr s') : Option (((Int32 × Int32 × (Nat → Int32) × (Nat → Int32) × (Nat → Int32) × (Nat → Int32)) ⊕ (Int32 × (Nat → Int32) × (Nat → Int32) × (Nat → Int32) × (Nat → Int32))) ⊕ (Int32 × Int32 × (Nat → Int32) × (Nat → Int32) × (Nat → Int32) × (Nat → Int32)))) ∧ ∃ k', k' < k ∧ I k' s') := by
        intro w w1 w2 w3
        obtain ⟨K, k1, k2, k3, k4, k5, k6, k7, k8, k9⟩ := aug_one (nw_ft h) h.2.2.2.2.2 (fun a ha => (hLH a ha).1) (fun a ha => (hLH a ha).2.2) hflo hp m2 far1 w1
        obtain ⟨mu, hT⟩ := bt_tre h m2
        obtain ⟨R', s1, s2⟩ := s5_send h hT (R := R) w1 k1 k3 k2 (N := N) (by omega)
        have hroot : 0 < R (agn (rst (nfr F) (nfr T)) cb1 w K) := by
          have := k6 w3
          unfold srcs at this
          by_cases c : 0 < R (agn (rst (nfr F) (nfr T)) cb1 w K)
          · exact c
          · rw [if_neg c] at this; omega
        have hd0 : d1 (agn (rst (nfr F) (nfr T)) cb1 w K) = 0 := by rw [k5]; exact if_pos hroot
        rw [hd0, Int.sub_zero] at k9
        generalize hrt : agn (rst (nfr F) (nfr T)) cb1 w K = rt at k4 k5 k6 k7 s2 hroot hd0
        rw [rd_n (by omega) (by omega), bind_some, s1, bs2, iI_add, ← k9]
        have hps2 : psum n R' = psum n R - 1 := by
          unfold psum
          have e1 : sm (fun v => if 0 < R' v then R' v else 0) n = sm (fun v => (if 0 < R v then R v else 0) - (if v = rt then 1 else 0)) n := by
            refine sm_congr (fun v hv => ?_)
            rw [s2 v]
            by_cases e2 : v = rt
            · subst e2
              rw [if_neg (show ¬ w = v from fun e => by subst e; omega)]
              simp only [if_true]
              by_cases e3 : R v = 1
              · rw [e3]; simp
              · rw [if_pos (by omega), if_pos (by omega)]; omega
            · rw [if_neg (show ¬ rt = v from fun e => e2 e.symm), if_neg e2]
              by_cases e3 : w = v
              · subst e3; rw [if_pos rfl, if_neg (by omega), if_neg (by omega)]; omega
              · rw [if_neg e3]
                simp only [Int.add_zero, Int.sub_zero]
          rw [e1, sm_sub, sm_one, if_pos k4]
        have hR' : ∀ v, v < n → R' v = b v - net m (nfr F) (nfr T) (agf (rst (nfr F) (nfr T)) cb1 w 1 f K) v := by
          intro v hv
          rw [s2 v, k7.2 v hv]
          dsimp only
          omega
        have hpn : 0 ≤ psum n R' := sm_nonneg (fun v hv => by split <;> omega)
        refine ⟨_, rfl, k - 1, by omega, 1, _, R', d1, cb1, rfl, flo_wf k7 (fun a ha => ⟨(hLH a ha).1, (hLH a ha).2.2⟩), hR', k8, Or.inl ⟨rfl, by omega⟩⟩
      rcases n2 with ⟨l1, l2⟩ | ⟨l1, v0, l2, l3⟩
      · rw [l1, eq0_y rfl]
        rcases n3 with ⟨q1, q2⟩ | ⟨w, w1, w2, w3, w4⟩
        · right
          rw [q1, zlm, eq_y rfl]
          have hz : ∀ v, v < n → R v = 0 := by
            have hsum : sm R n = 0 := by
              have e1 : sm R n = sm (fun v => b v - net m (nfr F) (nfr T) f v) n := sm_congr hR
              rw [e1, sm_sub, hbs, net_sum hft]; rfl
            intro v hv
            have h1 := sm_pos (f := fun v => -1 * R v) (n := n) (fun v hv => by have := l2 v hv; omega) v hv
            rw [sm_mul, hsum] at h1
            have := l2 v hv
            omega
          have hpn : 0 ≤ psum n R := sm_nonneg (fun v hv => by split <;> omega)
          exact ⟨_, rfl, 0, by omega, 0, f, R, d1, cb1, rfl, hf, hR, ⟨p, hp⟩, Or.inr ⟨rfl, hz⟩⟩
        · exfalso
          obtain ⟨K, k1, k2, k3, k4, k5, k6, -⟩ := aug_one (nw_ft h) h.2.2.2.2.2 (fun a ha => (hLH a ha).1) (fun a ha => (hLH a ha).2.2) hflo hp m2 far1 w1
          have h1 := k6 w4
          have h2 := l2 _ k4
          unfold srcs at h1
          rw [if_neg (by omega)] at h1
          omega
      · rw [l1, eq0_n (by omega) (by omega) (by omega)]
        rcases n3 with ⟨q1, q2⟩ | ⟨w, w1, w2, w3, w4⟩
        · left
          rw [q1, zlm, eq_y rfl]
          refine ⟨_, rfl, Or.inr ⟨f, R, d1, cb1, rfl, fun g9 hg9 => ?_⟩⟩
          have hdec : ∀ q, Decidable (d1 q < 1000000) := fun q => inferInstance
          have h3 := cut_le (n := n) hft (fun q => d1 q < 1000000) hdec hg9.1 far2 (f := f)
          have hv0 : d1 v0 < 1000000 := by
            obtain ⟨-, mu, h2⟩ := m2
            rcases h2 v0 l2 with ⟨-, g⟩ | ⟨q, e1, e2, e3, e4, e5, e6, -⟩
            · rw [g]; unfold srcs; rw [if_pos l3]; omega
            · have := far1 q e1 e3 e5
              omega
          have h4 := sm_pos (f := fun v => if d1 v < 1000000 then net m (nfr F) (nfr T) g9 v - net m (nfr F) (nfr T) f v else 0) (n := n) (fun v hv => by
            have e1 := hR v hv
            have e2 := hg9.2 v hv
            have e3 := q2 v hv
            split <;> omega) v0 l2
          rw [if_pos hv0] at h4
          have e1 := hR v0 l2
          have e2 := hg9.2 v0 l2
          omega
        · right
          have hne : ∀ {α : Type} {u y : α}, (if iI nx = -1 then u else y) = y := fun {α u y} => by rw [zlm, w2]; exact eq_n (by omega) (by omega) (by omega) (by omega) (by omega)
          simp only [hne]
          rw [w2]
          exact sendcase w w1 w3 w4
    · left
      rw [g1, eq0_y rfl]
      refine ⟨_, rfl, Or.inl ⟨f, R, d, cb, rfl, ⟨hflo.1, fun v hv => by have e1 : net m (nfr F) (nfr T) f v = b v - R v := hflo.2 v hv; have := g2 v hv; omega⟩, p, hp⟩⟩) N _ _ hinit (by omega)
  have hrun : pX5_cheapest N (iI n) (iI m) (iI s) (iI t) (iF F) (iF T) mW mU (iF L) (iF H) (iF O0) (iF R0) (iF d0) (iF cb0) (iI A) (iI al) = (some r).bind (sel (un6 fun x3_37 x4_38 mO_39 mR_40 mD_41 mB_42 => some ((x3_37, mO_39, mR_40, mD_41, mB_42)))) := by
    unfold pX5_cheapest
    rw [hb1, bs3]
    show (lp _ N (iI (cst m (npr U) L), 1, iF (fil L O0 m), iF R1, iF d0, iF cb0)).bind _ = _
    rw [hr1]
  rcases hr2 with ⟨f, R, d, cb, rfl, hf, p, hp⟩ | ⟨f, R, d, cb, rfl, hno⟩
  · have hc := cst_bd h (f := f) (fun a ha => by have := hf.1 a ha; have := hLH a ha; omega)
    exact ⟨_, f, R, d, cb, hrun, Or.inl ⟨hc.1, by omega, ⟨f, hf, rfl⟩, fun g hg => opt_of_pot hft h.2.2.2.2.2 (fun a ha => (hLH a ha).1) (fun a ha => (hLH a ha).2.2) hf hg hp⟩⟩
  · exact ⟨_, f, R, d, cb, hrun, Or.inr ⟨rfl, hno⟩⟩
end X5c
