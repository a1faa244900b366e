/-! rows of my own: the drivers who come one by one -/
section DRV
variable {n m : Nat} {F T C U K : Nat → Int} {S : Nat} {st en : Nat → Nat} {w : Nat → Int} {ok : Nat → Bool}
def bbw (n : Nat) (B : Int) (d : Nat → Int) : Prop := ∀ v, v < n → d v = 1000000 ∨ (0 ≤ d v ∧ d v ≤ 9901 * B)
theorem bbw_step (hst : ∀ t, t < S → ok t = true → st t < n ∧ en t < n ∧ st t ≠ en t) (hw : ∀ t, t < S → ok t = true → 0 ≤ w t ∧ w t ≤ 9901) {j : Nat} {x : BX} {B : Int} (hj : j < S) (hB : 0 ≤ B) (h : bbw n B x.1) : bbw n (B + 1) (rlx st en w ok x j).1 := by
  unfold rlx
  by_cases hc : ok j = true ∧ x.1 (st j) < 1000000 ∧ x.1 (st j) + w j < x.1 (en j)
  · rw [if_pos hc]
    obtain ⟨c1, c2, c3⟩ := hc
    obtain ⟨s1, s2, s3⟩ := hst j hj c1
    obtain ⟨w1, w2⟩ := hw j hj c1
    intro v hv
    dsimp only
    by_cases e : v = en j
    · rw [e, up_eq]
      rcases h (st j) s1 with g | g
      · omega
      · right; omega
    · rw [up_ne _ _ e]
      rcases h v hv with g | g
      · exact Or.inl g
      · right; omega
  · rw [if_neg hc]
    intro v hv
    rcases h v hv with g | g
    · exact Or.inl g
    · right; omega
theorem bbw_rnk (hst : ∀ t, t < S → ok t = true → st t < n ∧ en t < n ∧ st t ≠ en t) (hw : ∀ t, t < S → ok t = true → 0 ≤ w t ∧ w t ≤ 9901) {x : BX} {B : Int} (hB : 0 ≤ B) (h : bbw n B x.1) : ∀ j, j ≤ S → bbw n (B + j) (rnk st en w ok x j).1 := by
  intro j
  induction j with
  | zero => intro _; show bbw n (B + (0 : Nat)) x.1; rw [show B + ((0 : Nat) : Int) = B by omega]; exact h
  | succ j ih =>
    intro hj
    have := bbw_step hst hw (x := rnk st en w ok x j) (j := j) (by omega) (by omega) (ih (by omega))
    rw [show B + ((j + 1 : Nat) : Int) = B + j + 1 by omega]
    exact this
theorem bbw_rns (hst : ∀ t, t < S → ok t = true → st t < n ∧ en t < n ∧ st t ≠ en t) (hw : ∀ t, t < S → ok t = true → 0 ≤ w t ∧ w t ≤ 9901) {x : BX} (h : bbw n 0 x.1) : ∀ k : Nat, bbw n (k * S) (rns S st en w ok x k).1 := by
  intro k
  induction k with
  | zero => show bbw n (((0 : Nat) : Int) * S) x.1; rw [show ((0 : Nat) : Int) * (S : Int) = 0 by omega]; exact h
  | succ k ih =>
    have := bbw_rnk hst hw (x := ((rns S st en w ok x k).1, (rns S st en w ok x k).2.1, -1)) (Int.mul_nonneg (by omega) (by omega)) ih S (Nat.le_refl S)
    rw [show ((k + 1 : Nat) : Int) * (S : Int) = k * S + S by rw [Int.natCast_add, Int.add_mul]; omega]
    exact this
def dok (C K : Nat → Int) (a : Nat) : Bool := decide (K a < C a)
def dq (U K : Nat → Int) (a : Nat) : Int := npr U a ((K a).toNat + 1)
def dw (B : Int) (U K : Nat → Int) (a : Nat) : Int := B * dq U K a + 1
def KOK (m : Nat) (C K : Nat → Int) : Prop := ∀ a, a < m → 0 ≤ K a ∧ K a ≤ C a
theorem dok_iff {a : Nat} : dok C K a = true ↔ K a < C a := decide_eq_true_iff
theorem dq_bd (h : NW n m F T C U) (hK : KOK m C K) {a : Nat} (ha : a < m) (hc : K a < C a) : 0 ≤ dq U K a ∧ dq U K a ≤ 99 := by
  have := hK a ha
  exact h.2.2.2.2.1 a ha ((K a).toNat + 1) (by omega) (by omega)
theorem dw_bd (h : NW n m F T C U) (hK : KOK m C K) {B : Int} (hB : B = 16 ∨ B = 100) : ∀ t, t < m → dok C K t = true → 0 ≤ dw B U K t ∧ dw B U K t ≤ 9901 := by
  intro t ht hok
  have := dq_bd h hK ht (dok_iff.mp hok)
  unfold dw
  rcases hB with rfl | rfl <;> omega
theorem d_st (h : NW n m F T C U) (K : Nat → Int) : ∀ t, t < m → dok C K t = true → nfr T t < n ∧ nfr F t < n ∧ nfr T t ≠ nfr F t := fun t ht _ => ⟨(nw_ft h t ht).2.1, (nw_ft h t ht).1, fun e => (nw_ft h t ht).2.2 e.symm⟩
/-- ways to the target: how many arcs, what price -/
def Wk (m : Nat) (st en : Nat → Nat) (ok : Nat → Bool) (q : Nat → Int) (t : Nat) : Nat → Nat → Int → Prop
  | 0, v, P => v = t ∧ P = 0
  | c + 1, v, P => ∃ a, a < m ∧ ok a = true ∧ en a = v ∧ Wk m st en ok q t c (st a) (P - q a)
theorem wk_bd {q : Nat → Int} {t : Nat} (hq : ∀ a, a < m → ok a = true → 0 ≤ q a ∧ q a ≤ 99) : ∀ (c v : Nat) (P : Int), Wk m st en ok q t c v P → 0 ≤ P ∧ P ≤ 99 * c := by
  intro c
  induction c with
  | zero => rintro v P ⟨-, rfl⟩; omega
  | succ c ih =>
    rintro v P ⟨a, h1, h2, h3, h4⟩
    have := ih _ _ h4
    have := hq a h1 h2
    omega
theorem wk_le {q : Nat → Int} {t : Nat} {B : Int} {d : Nat → Int} (hB : B = 16 ∨ B = 100) (hq : ∀ a, a < m → ok a = true → 0 ≤ q a ∧ q a ≤ 99) (h1 : ∀ a, a < m → ok a = true → d (st a) < 1000000 → d (en a) ≤ d (st a) + (B * q a + 1)) (h0 : d t ≤ 0) : ∀ (c v : Nat) (P : Int), c ≤ 7 → Wk m st en ok q t c v P → d v ≤ B * P + c := by
  intro c
  induction c with
  | zero => rintro v P _ ⟨rfl, rfl⟩; rcases hB with rfl | rfl <;> omega
  | succ c ih =>
    rintro v P hc ⟨a, g1, g2, g3, g4⟩
    have e1 := ih _ _ (by omega) g4
    have e2 := wk_bd hq _ _ _ g4
    have e3 := hq a g1 g2
    have e4 := h1 a g1 g2 (by rcases hB with rfl | rfl <;> omega)
    rw [g3] at e4
    rcases hB with rfl | rfl <;> omega
theorem bt_treG (hst : ∀ t, t < S → ok t = true → st t < n ∧ en t < n ∧ st t ≠ en t) {d0 d cb : Nat → Int} (hB : BT S n st en w ok d0 d cb) : ∃ mu, Tre n S st en ok (fun t => d (st t) < 1000000 ∧ d (st t) + w t = d (en t)) cb mu := by
  obtain ⟨-, mu, h2⟩ := hB
  refine ⟨mu, fun v hv => ?_⟩
  rcases h2 v hv with ⟨g, -⟩ | ⟨t, g1, g2, g3, g4, g5, g6, g7⟩
  · exact Or.inl g
  · exact Or.inr ⟨t, g1, g2, g3, g4, g7, (hst t g1 g3).1, g5, by rw [g4]; exact g6⟩
theorem chainG (hst : ∀ t, t < S → ok t = true → st t < n ∧ en t < n ∧ st t ≠ en t) {d cb : Nat → Int} {t : Nat} (hB : BT S n st en w ok (src t) d cb) {v : Nat} (hv : v < n) (hd : d v < 1000000) :
    ∃ K, K < n ∧ agn st cb v K = t ∧ d t = 0 ∧ cb t = -1 ∧ (∀ j, j < K → ∃ q, q < S ∧ ok q = true ∧ en q = agn st cb v j ∧ st q = agn st cb v (j + 1) ∧ d (st q) < 1000000 ∧ d (st q) + w q = d (en q)) ∧ (0 < K → v ≠ t) := by
  obtain ⟨mu, hT⟩ := bt_treG hst hB
  obtain ⟨K, k1, k2, k3, k4⟩ := tre_root hT hv
  have hs : ∀ j, j < K → ∃ q, q < S ∧ ok q = true ∧ en q = agn st cb v j ∧ st q = agn st cb v (j + 1) ∧ d (st q) < 1000000 ∧ d (st q) + w q = d (en q) := by
    intro j hj
    have hn := (tre_fall hT hv j (fun i hi => k3 i (by omega))).1
    rcases hT _ hn with g | ⟨q, g1, g2, g3, g4, g5, g6, g7⟩
    · exact absurd g (k3 j hj)
    · refine ⟨q, g1, g3, g4, ?_, g7⟩
      show st q = st (cb (agn st cb v j)).toNat
      rw [g2]; rfl
  have hroot : d (agn st cb v K) < 1000000 := by
    cases K with
    | zero => exact hd
    | succ i => obtain ⟨q, -, -, -, q4, q5, -⟩ := hs i (by omega); rw [← q4]; exact q5
  have hr : agn st cb v K = t ∧ d t = 0 := by
    obtain ⟨-, mu', h2⟩ := hB
    rcases h2 _ k4 with ⟨-, g⟩ | ⟨q, -, g2, -⟩
    · unfold src at g
      by_cases e : agn st cb v K = t
      · rw [if_pos e, e] at g; exact ⟨e, g⟩
      · rw [if_neg e] at g; omega
    · rw [k2] at g2; omega
  refine ⟨K, k1, hr.1, hr.2, by rw [← hr.1]; exact k2, hs, fun hK e => ?_⟩
  have := k3 0 hK
  apply this
  show cb v = -1
  rw [e, ← hr.1]
  exact k2
theorem wk_of (hst : ∀ t, t < m → ok t = true → st t < n ∧ en t < n ∧ st t ≠ en t) {q : Nat → Int} {B : Int} {d cb : Nat → Int} {t : Nat} (hB : BT m n st en (fun a => B * q a + 1) ok (src t) d cb) {v : Nat} (hv : v < n) (hd : d v < 1000000) :
    ∃ (c : Nat) (P : Int), c < n ∧ Wk m st en ok q t c v P ∧ d v = B * P + c := by
  obtain ⟨K, k1, k2, k3, -, k5, -⟩ := chainG hst hB hv hd
  have hmain : ∀ i, i ≤ K → ∃ P : Int, Wk m st en ok q t i (agn st cb v (K - i)) P ∧ d (agn st cb v (K - i)) = B * P + i := by
    intro i
    induction i with
    | zero =>
      intro _
      refine ⟨0, ⟨k2, rfl⟩, ?_⟩
      rw [show K - 0 = K from rfl, k2, k3, Int.mul_zero]; rfl
    | succ i ih =>
      intro hi
      obtain ⟨P, p1, p2⟩ := ih (by omega)
      obtain ⟨a, q1, q2, q3, q4, q5, q6⟩ := k5 (K - (i + 1)) (by omega)
      have e : K - (i + 1) + 1 = K - i := by omega
      rw [e] at q4
      refine ⟨P + q a, ⟨a, q1, q2, q3, ?_⟩, ?_⟩
      · rw [q4, show P + q a - q a = P by omega]; exact p1
      · rw [← q3, ← q6, q4, p2, Int.mul_add]; omega
  obtain ⟨P, p1, p2⟩ := hmain K (Nat.le_refl K)
  rw [Nat.sub_self] at p1 p2
  exact ⟨K, P, k1, p1, p2⟩
/-- what both weighings say -/
def DP (n m : Nat) (F T C U K : Nat → Int) (t : Nat) (dC dR : Nat → Int) : Prop :=
  (∀ v, v < n → (dC v = 1000000 ∧ dR v = 1000000) ∨ ∃ c P : Int, 0 ≤ c ∧ c < n ∧ 0 ≤ P ∧ P ≤ 693 ∧ dC v = 16 * P + c ∧ dR v = 100 * P + c) ∧ (dC t = 0 ∧ dR t = 0) ∧
  ∀ v, v < n → v ≠ t → dC v < 1000000 → ∃ a, a < m ∧ K a < C a ∧ nfr F a = v ∧ dC (nfr T a) < 1000000 ∧ dC v = dC (nfr T a) + (16 * dq U K a + 1)
theorem dp_of (h : NW n m F T C U) (hK : KOK m C K) {t : Nat} (ht : t < n) {dC cC dR cR : Nat → Int} (hC : BT m n (nfr T) (nfr F) (dw 16 U K) (dok C K) (src t) dC cC) (hR : BT m n (nfr T) (nfr F) (dw 100 U K) (dok C K) (src t) dR cR)
    (bC : bbw n 96 dC) (bR : bbw n 96 dR) : DP n m F T C U K t dC dR := by
  have hn := h.2.1
  have hst := d_st h K
  have hq : ∀ a, a < m → dok C K a = true → 0 ≤ dq U K a ∧ dq U K a ≤ 99 := fun a ha ho => dq_bd h hK ha (dok_iff.mp ho)
  have zero : ∀ {w : Nat → Int} {d cb : Nat → Int}, BT m n (nfr T) (nfr F) w (dok C K) (src t) d cb → bbw n 96 d → (∀ a, a < m → dok C K a = true → 0 ≤ w a ∧ w a ≤ 9901) → d t = 0 := by
    intro w d cb hB hb hw
    by_cases c : d t < 1000000
    · obtain ⟨_, _, _, z, _⟩ := chainG hst hB ht c; exact z
    · exfalso
      obtain ⟨-, mu', h2⟩ := hB
      rcases h2 t ht with ⟨-, g⟩ | ⟨q, g1, g2, g3, g4, g5, g6, -⟩
      · unfold src at g; rw [if_pos rfl] at g; omega
      · have := hb _ (hst q g1 g3).1
        have := hw q g1 g3
        omega
  have zC := zero hC bC (dw_bd h hK (Or.inl rfl))
  have zR := zero hR bR (dw_bd h hK (Or.inr rfl))
  refine ⟨fun v hv => ?_, ⟨zC, zR⟩, fun v hv hvt hd => ?_⟩
  · by_cases c1 : dC v < 1000000
    · obtain ⟨c, P, w1, w2, w3⟩ := wk_of (B := 16) (q := dq U K) hst hC hv c1
      have e1 := wk_le (B := 100) (Or.inr rfl) hq hR.1 (by omega) c v P (by omega) w2
      have e0 := wk_bd hq _ _ _ w2
      obtain ⟨c', P', w1', w2', w3'⟩ := wk_of (B := 100) (q := dq U K) hst hR hv (by omega)
      have e1' := wk_le (B := 16) (Or.inl rfl) hq hC.1 (by omega) c' v P' (by omega) w2'
      have e0' := wk_bd hq _ _ _ w2'
      right
      refine ⟨c, P, by omega, by omega, e0.1, by omega, w3, ?_⟩
      have : P = P' := by omega
      omega
    · left
      have e : dC v = 1000000 := by rcases bC v hv with g | g <;> omega
      refine ⟨e, ?_⟩
      by_cases c2 : dR v < 1000000
      · exfalso
        obtain ⟨c', P', w1', w2', w3'⟩ := wk_of (B := 100) (q := dq U K) hst hR hv c2
        have e1' := wk_le (B := 16) (Or.inl rfl) hq hC.1 (by omega) c' v P' (by omega) w2'
        have e0' := wk_bd hq _ _ _ w2'
        omega
      · rcases bR v hv with g | g <;> omega
  · obtain ⟨mu, h2⟩ := hC.2
    rcases h2 v hv with ⟨-, g⟩ | ⟨q, g1, g2, g3, g4, g5, g6, -⟩
    · unfold src at g; rw [if_neg hvt] at g; omega
    · exact ⟨q, g1, dok_iff.mp g3, g4, g5, g6.symm⟩
theorem s1_next (h : NW n m F T C U) (hK : KOK m C K) {a : Nat} (ha : a < m) (hc : K a < C a) : pX1_nextPrice (iF C) (iF U) (iF K) (iI a) = some (iI (dq U K a)) := by
  have hm := h.2.2.1
  have hC := h.2.2.2.1 a ha
  have hk := hK a ha
  unfold pX1_nextPrice
  rw [rd_n (by omega) (by omega), bind_some, show iI (K a) + 1 = iI (((K a).toNat + 1 : Nat) : Int) by rw [zl1, iI_add]; congr 1; omega]
  rw [s_unitPrice (by omega) (by omega) (by omega) (by omega)]
  rfl
theorem s1_weight (h : NW n m F T C U) (hK : KOK m C K) {d : Nat → Int} (hd : ∀ v, v < n → 0 ≤ d v ∧ d v ≤ 1000000) {a : Nat} (ha : a < m) :
    pX1_weightBy (iF T) (iF C) (iF U) (iF K) (iF d) (iI a) = some (iI (if dok C K a = true ∧ d (nfr T a) < 1000000 then d (nfr T a) + dw 16 U K a else 1000000)) := by
  have hm := h.2.2.1
  have hC := h.2.2.2.1 a ha
  have hk := hK a ha
  have hn := h.2.1
  have hft := nw_ft h a ha
  have hdT := hd _ hft.2.1
  unfold pX1_weightBy
  rw [rd_n (by omega) (by omega), bind_some, rd_n (by omega) (by omega), bind_some]
  by_cases c : K a < C a
  · rw [le_n c (by omega) (by omega), rd_n (by omega) (by omega), bind_some, rd_in (by omega) (by omega) (by omega), bind_some]
    show (if iI (d (nfr T a)) < iI 1000000 then _ else _) = _
    by_cases c2 : d (nfr T a) < 1000000
    · rw [lt_y c2 (by omega) (by omega), s1_next h hK ha c, bind_some, bind_some, rd_in (by omega) (by omega) (by omega), bind_some, if_pos ⟨dok_iff.mpr c, c2⟩, zl16, zl1, iI_mul, iI_add, iI_add]
      congr 2
      unfold dw
      show _ + d (nfr T a) = _
      omega
    · rw [lt_n (by omega) (by omega) (by omega), if_neg (fun g => c2 g.2)]; rfl
  · rw [le_y (by omega) (by omega) (by omega), if_neg (fun g => c (dok_iff.mp g.1))]; rfl
theorem s1_weigh (h : NW n m F T C U) (hK : KOK m C K) {t : Nat} (ht : t < n) {W0 : Nat → Int} {N : Nat} (hN : 100 ≤ N) :
    ∃ d cb : Nat → Int, pX1_weighWaysTo N (iI n) (iI m) (iF F) (iF T) (iF C) (iF U) (iF K) (iF W0) (iI t) = some (iF d) ∧ BT m n (nfr T) (nfr F) (dw 16 U K) (dok C K) (src t) d cb ∧ bbw n 96 d := by
  have hn : 2 ≤ n ∧ n ≤ 8 := ⟨h.1, h.2.1⟩
  have hm : m ≤ 12 := h.2.2.1
  have hst := d_st h K
  have hwt := dw_bd h hK (Or.inl rfl : (16 : Int) = 16 ∨ (16 : Int) = 100)
  let d0 : Nat → Int := fil (src t) W0 n
  let X : Nat → BX := rns m (nfr T) (nfr F) (dw 16 U K) (dok C K) (d0, fun _ => -1, -1)
  have hp : ∀ q, q < m → dok C K q = true → (fun _ : Nat => (0 : Int)) (nfr F q) ≤ (fun _ : Nat => (0 : Int)) (nfr T q) + dw 16 U K q := fun q hq ho => by have := hwt q hq ho; dsimp only; omega
  have hI0 : BI m n (nfr T) (nfr F) (dw 16 U K) (dok C K) d0 0 m (d0, fun _ => -1, -1) := bi_init d0 _ (-1) (fun v _ => rfl)
  have hB : ∀ k, BI m n (nfr T) (nfr F) (dw 16 U K) (dok C K) d0 k m (X k) := bi_rns hst hI0
  have hb0 : bbw n 0 ((d0, fun _ => -1, -1) : BX).1 := by
    intro v hv
    show fil (src t) W0 n v = _ ∨ (0 ≤ fil (src t) W0 n v ∧ fil (src t) W0 n v ≤ _)
    rw [fil_lt _ _ hv]
    unfold src
    split
    · right; omega
    · left; rfl
  have hbb : ∀ k : Nat, bbw n (k * m) (X k).1 := bbw_rns hst hwt hb0
  have hend : (X n).2.2 = -1 := bi_end (pi := fun _ => 0) hst hp (by omega) hI0
  obtain ⟨K', k1, k2, k3⟩ := least_of (P := fun k => (X (k + 1)).2.2 = -1) n ⟨n - 1, by omega, by show (X (n - 1 + 1)).2.2 = -1; rw [show n - 1 + 1 = n by omega]; exact hend⟩
  have hround : ∀ k, k < n → lp (un3 (pX1_weighWaysTo_l60 (iF K) (iI m) (iF C) (iF F) (iF T) (iF U))) N (0, 0, iF (X k).1) = some (iI (if (X (k + 1)).2.2 = -1 then 0 else 1), iI m, iF (X (k + 1)).1) := by
    intro k hk
    let Y : Nat → BX := rnk (nfr T) (nfr F) (dw 16 U K) (dok C K) ((X k).1, (X k).2.1, -1)
    have hYb : ∀ j, j ≤ m → bbw n (k * m + j) (Y j).1 := bbw_rnk hst hwt (x := ((X k).1, (X k).2.1, -1)) (Int.mul_nonneg (by omega) (by omega)) (hbb k)
    have hkm : (k : Int) * (m : Nat) ≤ 84 := by
      have := Int.mul_le_mul (show (k : Int) ≤ 7 by omega) (show ((m : Nat) : Int) ≤ 12 by omega) (by omega) (by omega)
      omega
    have hkm0 : 0 ≤ (k : Int) * (m : Nat) := Int.mul_nonneg (by omega) (by omega)
    refine lp_run (fun j => (iI (if (Y j).2.2 = -1 then 0 else 1), iI (j : Nat), iF (Y j).1)) _ m (fun j hj => ?_) ?_ (by omega)
    · show pX1_weighWaysTo_l60 (iF K) (iI m) (iF C) (iF F) (iF T) (iF U) (iI (if (Y j).2.2 = -1 then 0 else 1)) (iI (j : Nat)) (iF (Y j).1) = _
      have hyd : ∀ v, v < n → 0 ≤ (Y j).1 v ∧ (Y j).1 v ≤ 1000000 := fun v hv => by have := hYb j (by omega) v hv; omega
      have hft := nw_ft h j hj
      have hC := h.2.2.2.1 j hj
      have hyF := hyd _ hft.1
      have hyT := hyd _ hft.2.1
      unfold pX1_weighWaysTo_l60
      rw [le_n (by omega) (by omega) (by omega), s1_weight h hK hyd hj, bind_some, rd_n (by omega) (by omega), bind_some, rd_in (by omega) (by omega) (by omega), bind_some]
      show (if iI ((Y j).1 (nfr F j)) ≤ _ then _ else _) = _
      have e1 : Y (j + 1) = rlx (nfr T) (nfr F) (dw 16 U K) (dok C K) (Y j) j := rfl
      rw [iI_s, e1]
      unfold rlx
      by_cases c : dok C K j = true ∧ (Y j).1 (nfr T j) < 1000000 ∧ (Y j).1 (nfr T j) + dw 16 U K j < (Y j).1 (nfr F j)
      · rw [if_pos c, if_pos (show dok C K j = true ∧ (Y j).1 (nfr T j) < 1000000 from ⟨c.1, c.2.1⟩)]
        have hw := hwt j hj c.1
        rw [le_n c.2.2 (by omega) (by omega), bind_some, wr_in (by omega) (by omega) (by omega), bind_some]
        dsimp only
        rw [if_neg (show ¬ ((nfr F j : Nat) : Int) = -1 by omega)]
        rfl
      · rw [if_neg c]
        by_cases c1 : dok C K j = true ∧ (Y j).1 (nfr T j) < 1000000
        · have hw := hwt j hj c1.1
          rw [if_pos c1, le_y (by have : ¬ ((Y j).1 (nfr T j) + dw 16 U K j < (Y j).1 (nfr F j)) := fun g => c ⟨c1.1, c1.2, g⟩
                                  omega) (by omega) (by omega)]
        · rw [if_neg c1, le_y (by omega) (by omega) (by omega)]
    · show pX1_weighWaysTo_l60 _ _ _ _ _ _ _ _ _ = _
      unfold pX1_weighWaysTo_l60
      rw [le_y (by omega) (by omega) (by omega)]
      rfl
  have hini : lp (un2 (pX1_weighWaysTo_l2 (iI n) (iI t))) N (0, iF W0) = some (iI n, iF (fil (src t) W0 n)) := by
    rw [show ((0 : Int32), iF W0) = (iI ((0 : Nat) : Int), iF (fil (src t) W0 0)) by rw [fil_0]; rfl]
    refine lp_run (fun k : Nat => (iI (k : Int), iF (fil (src t) W0 k))) _ n (fun k hk => ?_) ?_ (by omega)
    · show pX1_weighWaysTo_l2 (iI n) (iI t) (iI (k : Nat)) (iF (fil (src t) W0 k)) = _
      unfold pX1_weighWaysTo_l2
      rw [le_n (by omega) (by omega) (by omega)]
      by_cases c : k = t
      · rw [eq_y (by omega), zl0, wr_n (by omega) (by omega), bind_some]
        rw [show (0 : Int) = src t k from (if_pos c).symm, fil_s, iI_s]
      · rw [eq_n (by omega) (by omega) (by omega) (by omega) (by omega), zlF, wr_n (by omega) (by omega), bind_some]
        rw [show (1000000 : Int) = src t k from (if_neg c).symm, fil_s, iI_s]
    · show pX1_weighWaysTo_l2 (iI n) (iI t) (iI (n : Nat)) (iF (fil (src t) W0 n)) = _
      unfold pX1_weighWaysTo_l2
      rw [le_y (by omega) (by omega) (by omega)]
  refine ⟨(X (K' + 1)).1, (X (K' + 1)).2.1, ?_, bt_congr (bi_done (pi := fun _ => 0) hst hp (by omega) (hB (K' + 1)) k2) (fun v hv => fil_lt _ _ hv), fun v hv => ?_⟩
  · unfold pX1_weighWaysTo
    have hlp : lp (un3 (pX1_weighWaysTo_l40 N (iF K) (iI m) (iF C) (iF F) (iI n) (iF T) (iF U))) N (1, 0, iF d0) = some (iI 0, iI ((K' + 1 : Nat) : Int), iF (X (K' + 1)).1) := by
      refine lp_run (fun k => (iI (if k = 0 then 1 else if (X k).2.2 = -1 then 0 else 1), iI (k : Nat), iF (X k).1)) _ (K' + 1) (fun k hk => ?_) ?_ (by omega)
      · show pX1_weighWaysTo_l40 _ _ _ _ _ _ _ _ _ _ _ = _
        unfold pX1_weighWaysTo_l40
        have e : (if k = 0 then (1 : Int) else if (X k).2.2 = -1 then 0 else 1) = 1 := by
          by_cases c : k = 0
          · rw [if_pos c]
          · rw [if_neg c, if_neg]
            have := k3 (k - 1) (by omega)
            rw [show k - 1 + 1 = k by omega] at this
            exact this
        rw [le_n (by omega) (by omega) (by omega), e, zl0, eq_n (by omega) (by omega) (by omega) (by omega) (by omega)]
        rw [show (iI 0 : Int32) = 0 from rfl, hround k (by omega)]
        show some (Sum.inr (_, _, _)) = some (Sum.inr (_, _, _))
        rw [iI_s, if_neg (show ¬ k + 1 = 0 by omega)]
      · show pX1_weighWaysTo_l40 _ _ _ _ _ _ _ _ _ _ _ = _
        unfold pX1_weighWaysTo_l40
        rw [if_neg (show ¬ K' + 1 = 0 by omega), if_pos k2]
        by_cases c : n ≤ K' + 1
        · rw [le_y (by omega) (by omega) (by omega)]
        · rw [le_n (by omega) (by omega) (by omega), zl0, eq_y rfl]
    rw [hini, bs2, hlp]; rfl
  · have := hbb (K' + 1) v hv
    have hkm : ((K' + 1 : Nat) : Int) * (m : Nat) ≤ 96 := by
      have := Int.mul_le_mul (show ((K' + 1 : Nat) : Int) ≤ 8 by omega) (show ((m : Nat) : Int) ≤ 12 by omega) (by omega) (by omega)
      omega
    omega
end DRV
