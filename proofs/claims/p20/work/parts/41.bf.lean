/-! rounds over steps that shorten ways: what they keep, and that they come to an end -/
abbrev BX : Type := (Nat → Int) × (Nat → Int) × Int
def rlx (st en : Nat → Nat) (w : Nat → Int) (ok : Nat → Bool) (x : BX) (t : Nat) : BX :=
  if ok t = true ∧ x.1 (st t) < 1000000 ∧ x.1 (st t) + w t < x.1 (en t) then (up x.1 (en t) (x.1 (st t) + w t), up x.2.1 (en t) (t : Int), (en t : Int)) else x
def rnk (st en : Nat → Nat) (w : Nat → Int) (ok : Nat → Bool) (x : BX) : Nat → BX
  | 0 => x
  | k + 1 => rlx st en w ok (rnk st en w ok x k) k
def rnd (S : Nat) (st en : Nat → Nat) (w : Nat → Int) (ok : Nat → Bool) (x : BX) : BX := rnk st en w ok (x.1, x.2.1, -1) S
def rns (S : Nat) (st en : Nat → Nat) (w : Nat → Int) (ok : Nat → Bool) (x : BX) : Nat → BX
  | 0 => x
  | k + 1 => rnd S st en w ok (rns S st en w ok x k)
/-- each node's predecessor: a step that is there, along which the node was reached -/
def bi_pred (S n : Nat) (st en : Nat → Nat) (w : Nat → Int) (ok : Nat → Bool) (r tau : Nat → Nat) (d cb : Nat → Int) : Prop :=
  ∀ v, v < n → cb v = -1 ∨ ∃ t : Nat, t < S ∧ cb v = (t : Int) ∧ ok t = true ∧ en t = v ∧ d (st t) < 1000000 ∧ (d (st t) + w t < d v ∨ (d (st t) + w t = d v ∧ tau (st t) < tau v)) ∧ r v ≤ r (st t) + 1
def bi_rel (S : Nat) (st en : Nat → Nat) (w : Nat → Int) (ok : Nat → Bool) (r : Nat → Nat) (k j : Nat) (d : Nat → Int) : Prop :=
  ∀ t, t < S → ok t = true → d (st t) < 1000000 → d (en t) ≤ d (st t) + w t ∨ k ≤ r (st t) + (if t < j then 0 else 1)
/-- the ghosts r (the round in which a node was changed last), tau (when it was) -/
def BI (S n : Nat) (st en : Nat → Nat) (w : Nat → Int) (ok : Nat → Bool) (d0 : Nat → Int) (k j : Nat) (x : BX) : Prop :=
  ∃ (r tau : Nat → Nat) (T : Nat), bi_pred S n st en w ok r tau x.1 x.2.1 ∧ bi_rel S st en w ok r k j x.1 ∧ (∀ v, v < n → x.2.1 v = -1 → r v = 0 ∧ x.1 v = d0 v) ∧ (∀ v, r v ≤ k) ∧ (∀ v, tau v ≤ T) ∧ (1 ≤ k → (x.2.2 = -1 → ∀ v, r v < k) ∧ (x.2.2 ≠ -1 → ∃ v, v < n ∧ x.2.2 = (v : Int) ∧ r v = k))
section BF
variable {S n : Nat} {st en : Nat → Nat} {w : Nat → Int} {ok : Nat → Bool} {d0 : Nat → Int}
theorem bi_init (d : Nat → Int) (cb : Nat → Int) (ch : Int) (hc : ∀ v, v < n → cb v = -1) : BI S n st en w ok d 0 S (d, cb, ch) := by
  refine ⟨fun _ => 0, fun _ => 0, 0, fun v hv => Or.inl (hc v hv), fun t ht _ _ => Or.inr (Nat.zero_le _), fun v _ _ => ⟨rfl, rfl⟩, fun v => Nat.le_refl 0, fun v => Nat.le_refl 0, fun h => absurd h (by omega)⟩
theorem bi_next {k : Nat} {x : BX} (h : BI S n st en w ok d0 k S x) : BI S n st en w ok d0 (k + 1) 0 (x.1, x.2.1, -1) := by
  obtain ⟨r, tau, T, h1, h2, h3, h4, h5, h6⟩ := h
  refine ⟨r, tau, T, h1, fun t ht ho hd => ?_, h3, fun v => Nat.le_succ_of_le (h4 v), h5, fun _ => ⟨fun _ v => Nat.lt_succ_of_le (h4 v), fun h => absurd rfl h⟩⟩
  rcases h2 t ht ho hd with h | h
  · exact Or.inl h
  · rw [if_pos ht] at h
    rw [if_neg (by omega)]
    exact Or.inr (by omega)
theorem bi_step (hst : ∀ t, t < S → ok t = true → st t < n ∧ en t < n ∧ st t ≠ en t) {k j : Nat} {x : BX} (hk : 1 ≤ k) (hj : j < S) (h : BI S n st en w ok d0 k j x) : BI S n st en w ok d0 k (j + 1) (rlx st en w ok x j) := by
  obtain ⟨r, tau, T, h1, h2, h3, h4, h5, h6⟩ := h
  obtain ⟨d, cb, ch⟩ := x
  dsimp only at h1 h2 h3 h6
  unfold rlx
  dsimp only
  by_cases hc : ok j = true ∧ d (st j) < 1000000 ∧ d (st j) + w j < d (en j)
  · rw [if_pos hc]
    obtain ⟨c1, c2, c3⟩ := hc
    obtain ⟨s1, s2, s3⟩ := hst j hj c1
    have hr : k ≤ r (st j) + 1 := by
      rcases h2 j hj c1 c2 with h | h
      · omega
      · rw [if_neg (by omega)] at h; exact h
    refine ⟨fun v => if v = en j then k else r v, fun v => if v = en j then T + 1 else tau v, T + 1, ?_, ?_, ?_, ?_, ?_, ?_⟩
    · intro v hv
      dsimp only
      by_cases e1 : v = en j
      · right
        refine ⟨j, hj, by rw [e1, up_eq], c1, e1.symm, ?_, ?_, ?_⟩
        · rw [up_ne _ _ s3]; exact c2
        · right
          rw [up_ne _ _ s3, e1, up_eq, if_pos rfl, if_neg s3]
          exact ⟨rfl, Nat.lt_succ_of_le (h5 _)⟩
        · rw [if_pos e1, if_neg s3]; exact hr
      · rw [up_ne _ _ e1, if_neg e1, if_neg e1]
        rcases h1 v hv with g | ⟨t, g1, g2, g3, g4, g5, g6, g7⟩
        · exact Or.inl g
        · right
          refine ⟨t, g1, g2, g3, g4, ?_, ?_, ?_⟩
          · by_cases e2 : st t = en j
            · rw [e2] at g5; rw [e2, up_eq]; omega
            · rw [up_ne _ _ e2]; exact g5
          · rw [up_ne _ _ e1]
            by_cases e2 : st t = en j
            · left
              rw [e2, up_eq]
              rw [e2] at g6
              rcases g6 with g | g <;> omega
            · rw [up_ne _ _ e2, if_neg e2]; exact g6
          · by_cases e2 : st t = en j
            · rw [if_pos e2]; have := h4 v; omega
            · rw [if_neg e2]; exact g7
    · intro t ht ho hd
      dsimp only at hd ⊢
      by_cases e2 : st t = en j
      · right; rw [if_pos e2]; omega
      · rw [up_ne _ _ e2] at hd ⊢
        rw [if_neg e2]
        by_cases e1 : en t = en j
        · rw [e1, up_eq]
          by_cases e3 : t = j
          · left; rw [e3]; omega
          · rcases h2 t ht ho hd with g | g
            · left; rw [e1] at g; omega
            · right
              by_cases e4 : t < j
              · rw [if_pos e4] at g; rw [if_pos (by omega)]; exact g
              · rw [if_neg e4] at g; rw [if_neg (by omega)]; exact g
        · rw [up_ne _ _ e1]
          have e3 : t ≠ j := fun e => e1 (by rw [e])
          rcases h2 t ht ho hd with g | g
          · exact Or.inl g
          · right
            by_cases e4 : t < j
            · rw [if_pos e4] at g; rw [if_pos (by omega)]; exact g
            · rw [if_neg e4] at g; rw [if_neg (by omega)]; exact g
    · intro v hv hcb
      dsimp only at hcb ⊢
      by_cases e1 : v = en j
      · rw [e1, up_eq] at hcb; omega
      · rw [up_ne _ _ e1] at hcb ⊢
        rw [if_neg e1]
        exact h3 v hv hcb
    · intro v
      dsimp only
      split
      · exact Nat.le_refl k
      · exact h4 v
    · intro v
      dsimp only
      split
      · exact Nat.le_refl _
      · exact Nat.le_succ_of_le (h5 v)
    · intro _
      dsimp only
      exact ⟨fun h => by omega, fun _ => ⟨en j, s2, rfl, if_pos rfl⟩⟩
  · rw [if_neg hc]
    refine ⟨r, tau, T, h1, fun t ht ho hd => ?_, h3, h4, h5, h6⟩
    dsimp only at hd ⊢
    by_cases e3 : t = j
    · left; subst e3; rcases Int.lt_or_le (d (st t) + w t) (d (en t)) with g | g
      · exact absurd ⟨ho, hd, g⟩ hc
      · exact g
    · rcases h2 t ht ho hd with g | g
      · exact Or.inl g
      · right
        by_cases e4 : t < j
        · rw [if_pos e4] at g; rw [if_pos (by omega)]; exact g
        · rw [if_neg e4] at g; rw [if_neg (by omega)]; exact g
theorem bi_rnk (hst : ∀ t, t < S → ok t = true → st t < n ∧ en t < n ∧ st t ≠ en t) {k : Nat} {x : BX} (hk : 1 ≤ k) (h : BI S n st en w ok d0 k 0 x) : ∀ j, j ≤ S → BI S n st en w ok d0 k j (rnk st en w ok x j) := by
  intro j
  induction j with
  | zero => intro _; exact h
  | succ j ih => intro hj; exact bi_step hst hk (by omega) (ih (by omega))
theorem bi_rnd (hst : ∀ t, t < S → ok t = true → st t < n ∧ en t < n ∧ st t ≠ en t) {k : Nat} {x : BX} (h : BI S n st en w ok d0 k S x) : BI S n st en w ok d0 (k + 1) S (rnd S st en w ok x) :=
  bi_rnk hst (by omega) (bi_next h) S (Nat.le_refl S)
theorem bi_rns (hst : ∀ t, t < S → ok t = true → st t < n ∧ en t < n ∧ st t ≠ en t) {x : BX} (h : BI S n st en w ok d0 0 S x) : ∀ k, BI S n st en w ok d0 k S (rns S st en w ok x k) := by
  intro k
  induction k with
  | zero => exact h
  | succ k ih => exact bi_rnd hst ih
/-- where a round changed nothing, every step is at rest -/
theorem bi_rest (hst : ∀ t, t < S → ok t = true → st t < n ∧ en t < n ∧ st t ≠ en t) {k : Nat} {x : BX} (hk : 1 ≤ k) (h : BI S n st en w ok d0 k S x) (hch : x.2.2 = -1) : ∀ t, t < S → ok t = true → x.1 (st t) < 1000000 → x.1 (en t) ≤ x.1 (st t) + w t := by
  obtain ⟨r, tau, T, h1, h2, h3, h4, h5, h6⟩ := h
  intro t ht ho hd
  rcases h2 t ht ho hd with g | g
  · exact g
  · rw [if_pos ht] at g
    have := (h6 hk).1 hch (st t)
    omega
/-- the predecessor -/
def bpar (st : Nat → Nat) (cb : Nat → Int) (v : Nat) : Nat := if cb v = -1 then v else st (cb v).toNat
def bch (st : Nat → Nat) (cb : Nat → Int) (v : Nat) : Nat → Nat
  | 0 => v
  | i + 1 => bpar st cb (bch st cb v i)
theorem bi_chain (hst : ∀ t, t < S → ok t = true → st t < n ∧ en t < n ∧ st t ≠ en t) {r tau : Nat → Nat} {d cb : Nat → Int} (h1 : bi_pred S n st en w ok r tau d cb) (h3 : ∀ v, v < n → cb v = -1 → r v = 0) {v : Nat} (hv : v < n) : ∀ i, i ≤ r v → bch st cb v i < n ∧ r v ≤ r (bch st cb v i) + i ∧ (i < r v → cb (bch st cb v i) ≠ -1) := by
  intro i
  induction i with
  | zero =>
    intro _
    refine ⟨hv, Nat.le_refl _, fun h hc => ?_⟩
    have := h3 v hv hc
    omega
  | succ i ih =>
    intro hi
    obtain ⟨a1, a2, a3⟩ := ih (by omega)
    have a4 := a3 (by omega)
    rcases h1 _ a1 with g | ⟨t, g1, g2, g3, g4, g5, g6, g7⟩
    · exact absurd g a4
    · have e : bch st cb v (i + 1) = st t := by
        show bpar st cb (bch st cb v i) = st t
        unfold bpar
        rw [if_neg a4, g2]; rfl
      obtain ⟨s1, s2, s3⟩ := hst t g1 g3
      rw [e]
      refine ⟨s1, by omega, fun h hc => ?_⟩
      have := h3 _ s1 hc
      omega
/-- a strictly falling measure along predecessors -/
theorem bi_mu (hst : ∀ t, t < S → ok t = true → st t < n ∧ en t < n ∧ st t ≠ en t) {pi : Nat → Int} (hpi : ∀ t, t < S → ok t = true → pi (en t) ≤ pi (st t) + w t) {r tau : Nat → Nat} {T : Nat} {d cb : Nat → Int} (h1 : bi_pred S n st en w ok r tau d cb) (h5 : ∀ v, tau v ≤ T) {v : Nat} (hv : v < n) {t : Nat} (hc : cb v = (t : Int)) : (d (st t) - pi (st t)) * (T + 1) + tau (st t) < (d v - pi v) * (T + 1) + tau v := by
  rcases h1 v hv with g | ⟨t', g1, g2, g3, g4, g5, g6, g7⟩
  · omega
  · have e : t' = t := by omega
    subst e
    have hp := hpi t' g1 g3
    rw [g4] at hp
    have q1 := h5 (st t')
    rcases g6 with g | ⟨g, g'⟩
    · have : d (st t') - pi (st t') + 1 ≤ d v - pi v := by omega
      have := Int.mul_le_mul_of_nonneg_right this (show (0 : Int) ≤ (T + 1 : Int) by omega)
      rw [Int.add_mul] at this
      omega
    · have : d (st t') - pi (st t') ≤ d v - pi v := by omega
      have := Int.mul_le_mul_of_nonneg_right this (show (0 : Int) ≤ (T + 1 : Int) by omega)
      omega
/-- with a potential no node is changed in round n or later -/
theorem bi_few (hst : ∀ t, t < S → ok t = true → st t < n ∧ en t < n ∧ st t ≠ en t) {pi : Nat → Int} (hpi : ∀ t, t < S → ok t = true → pi (en t) ≤ pi (st t) + w t) {x : BX} {r tau : Nat → Nat} {T : Nat} (h1 : bi_pred S n st en w ok r tau x.1 x.2.1) (h3 : ∀ v, v < n → x.2.1 v = -1 → r v = 0) (h5 : ∀ v, tau v ≤ T) {v : Nat} (hv : v < n) : r v < n := by
  rcases Nat.lt_or_ge (r v) n with h | h
  · exact h
  · exfalso
    have hch := bi_chain hst h1 h3 hv
    obtain ⟨i, j, p1, p2, p3⟩ := pigeon n (bch st x.2.1 v) (fun i hi => (hch i (by omega)).1)
    have fall : ∀ q, i + q < n → (x.1 (bch st x.2.1 v (i + q + 1)) - pi (bch st x.2.1 v (i + q + 1))) * (T + 1) + tau (bch st x.2.1 v (i + q + 1)) < (x.1 (bch st x.2.1 v (i + q)) - pi (bch st x.2.1 v (i + q))) * (T + 1) + tau (bch st x.2.1 v (i + q)) := by
      intro q hq
      obtain ⟨a1, a2, a3⟩ := hch (i + q) (by omega)
      have a4 := a3 (by omega)
      rcases h1 _ a1 with g | ⟨t, g1, g2, -⟩
      · exact absurd g a4
      · have e : bch st x.2.1 v (i + q + 1) = st t := by
          show bpar st x.2.1 (bch st x.2.1 v (i + q)) = st t
          unfold bpar
          rw [if_neg a4, g2]; rfl
        rw [e]
        exact bi_mu hst hpi h1 h5 a1 g2
    have fall2 : ∀ q, i + q + 1 ≤ n → (x.1 (bch st x.2.1 v (i + q + 1)) - pi (bch st x.2.1 v (i + q + 1))) * (T + 1) + tau (bch st x.2.1 v (i + q + 1)) < (x.1 (bch st x.2.1 v i) - pi (bch st x.2.1 v i)) * (T + 1) + tau (bch st x.2.1 v i) := by
      intro q
      induction q with
      | zero => intro hq; exact fall 0 (by omega)
      | succ q ih =>
        intro hq
        have a1 := ih (by omega)
        have a2 := fall (q + 1) (by omega)
        exact Int.lt_trans a2 a1
    have := fall2 (j - i - 1) (by omega)
    rw [show i + (j - i - 1) + 1 = j by omega, ← p3] at this
    omega
/-- what rounds at rest leave: ways to the nodes, each step tight, falling towards its root -/
def BT (S n : Nat) (st en : Nat → Nat) (w : Nat → Int) (ok : Nat → Bool) (d0 : Nat → Int) (d cb : Nat → Int) : Prop :=
  (∀ t, t < S → ok t = true → d (st t) < 1000000 → d (en t) ≤ d (st t) + w t) ∧
  ∃ mu : Nat → Int, ∀ v, v < n → (cb v = -1 ∧ d v = d0 v) ∨ ∃ t : Nat, t < S ∧ cb v = (t : Int) ∧ ok t = true ∧ en t = v ∧ d (st t) < 1000000 ∧ d (st t) + w t = d v ∧ mu (st t) < mu v
theorem bi_done (hst : ∀ t, t < S → ok t = true → st t < n ∧ en t < n ∧ st t ≠ en t) {pi : Nat → Int} (hpi : ∀ t, t < S → ok t = true → pi (en t) ≤ pi (st t) + w t) {k : Nat} {x : BX} (hk : 1 ≤ k) (h : BI S n st en w ok d0 k S x) (hch : x.2.2 = -1) : BT S n st en w ok d0 x.1 x.2.1 := by
  have hrest := bi_rest hst hk h hch
  obtain ⟨r, tau, T, h1, h2, h3, h4, h5, h6⟩ := h
  refine ⟨hrest, fun v => (x.1 v - pi v) * (T + 1) + tau v, fun v hv => ?_⟩
  rcases h1 v hv with g | ⟨t, g1, g2, g3, g4, g5, g6, g7⟩
  · exact Or.inl ⟨g, (h3 v hv g).2⟩
  · refine Or.inr ⟨t, g1, g2, g3, g4, g5, ?_, bi_mu hst hpi h1 h5 hv g2⟩
    have := hrest t g1 g3 g5
    rw [g4] at this
    rcases g6 with g | g <;> omega
/-- rounds come to rest: in round n at the latest -/
theorem bi_end (hst : ∀ t, t < S → ok t = true → st t < n ∧ en t < n ∧ st t ≠ en t) {pi : Nat → Int} (hpi : ∀ t, t < S → ok t = true → pi (en t) ≤ pi (st t) + w t) (hn : 1 ≤ n) {x : BX} (h : BI S n st en w ok d0 0 S x) : (rns S st en w ok x n).2.2 = -1 := by
  have hB := bi_rns hst h n
  obtain ⟨r, tau, T, h1, h2, h3, h4, h5, h6⟩ := hB
  rcases Classical.em ((rns S st en w ok x n).2.2 = -1) with e | e
  · exact e
  · obtain ⟨v, v1, v2, v3⟩ := (h6 hn).2 e
    have := bi_few hst hpi h1 (fun v hv hc => (h3 v hv hc).1) h5 v1
    omega
/-- how far distances can be -/
def bb (n : Nat) (B : Int) (d : Nat → Int) : Prop := ∀ v, v < n → d v = 1000000 ∨ (-99 * B ≤ d v ∧ d v ≤ 99 * B)
theorem bb_step (hst : ∀ t, t < S → ok t = true → st t < n ∧ en t < n ∧ st t ≠ en t) (hw : ∀ t, t < S → ok t = true → -99 ≤ w t ∧ w t ≤ 99) {j : Nat} {x : BX} {B : Int} (hj : j < S) (hB : 0 ≤ B) (h : bb n B x.1) : bb n (B + 1) (rlx st en w ok x j).1 := by
  unfold rlx
  by_cases hc : ok j = true ∧ x.1 (st j) < 1000000 ∧ x.1 (st j) + w j < x.1 (en j)
  · rw [if_pos hc]
    obtain ⟨c1, c2, c3⟩ := hc
    obtain ⟨s1, s2, s3⟩ := hst j hj c1
    obtain ⟨w1, w2⟩ := hw j hj c1
    intro v hv
    dsimp only
    by_cases e : v = en j
    · rw [e, up_eq]
      rcases h (st j) s1 with g | g
      · omega
      · right; omega
    · rw [up_ne _ _ e]
      rcases h v hv with g | g
      · exact Or.inl g
      · right; omega
  · rw [if_neg hc]
    intro v hv
    rcases h v hv with g | g
    · exact Or.inl g
    · right; omega
theorem bb_rnk (hst : ∀ t, t < S → ok t = true → st t < n ∧ en t < n ∧ st t ≠ en t) (hw : ∀ t, t < S → ok t = true → -99 ≤ w t ∧ w t ≤ 99) {x : BX} {B : Int} (hB : 0 ≤ B) (h : bb n B x.1) : ∀ j, j ≤ S → bb n (B + j) (rnk st en w ok x j).1 := by
  intro j
  induction j with
  | zero => intro _; show bb n (B + (0 : Nat)) x.1; rw [show B + ((0 : Nat) : Int) = B by omega]; exact h
  | succ j ih =>
    intro hj
    have := bb_step hst hw (x := rnk st en w ok x j) (j := j) (by omega) (by omega) (ih (by omega))
    rw [show B + ((j + 1 : Nat) : Int) = B + j + 1 by omega]
    exact this
theorem bb_rns (hst : ∀ t, t < S → ok t = true → st t < n ∧ en t < n ∧ st t ≠ en t) (hw : ∀ t, t < S → ok t = true → -99 ≤ w t ∧ w t ≤ 99) {x : BX} (h : bb n 0 x.1) : ∀ k : Nat, bb n (k * S) (rns S st en w ok x k).1 := by
  intro k
  induction k with
  | zero => show bb n (((0 : Nat) : Int) * S) x.1; rw [show ((0 : Nat) : Int) * (S : Int) = 0 by omega]; exact h
  | succ k ih =>
    have := bb_rnk hst hw (x := ((rns S st en w ok x k).1, (rns S st en w ok x k).2.1, -1)) (Int.mul_nonneg (by omega) (by omega)) ih S (Nat.le_refl S)
    rw [show ((k + 1 : Nat) : Int) * (S : Int) = k * S + S by rw [Int.natCast_add, Int.add_mul]; omega]
    exact this
end BF
