/-! units sent along a tree of steps -/
theorem rst_e {fr to : Nat → Nat} {t : Nat} (h : t % 2 = 0) : rst fr to t = fr (t / 2) := if_pos h
theorem rst_o {fr to : Nat → Nat} {t : Nat} (h : ¬ t % 2 = 0) : rst fr to t = to (t / 2) := if_neg h
theorem ren_e {fr to : Nat → Nat} {t : Nat} (h : t % 2 = 0) : ren fr to t = to (t / 2) := if_pos h
theorem ren_o {fr to : Nat → Nat} {t : Nat} (h : ¬ t % 2 = 0) : ren fr to t = fr (t / 2) := if_neg h
theorem rwt_e {pr : Nat → Nat → Int} {f : Nat → Int} {t : Nat} (h : t % 2 = 0) : rwt pr f t = pr (t / 2) ((f (t / 2)).toNat + 1) := if_pos h
theorem rwt_o {pr : Nat → Nat → Int} {f : Nat → Int} {t : Nat} (h : ¬ t % 2 = 0) : rwt pr f t = -pr (t / 2) (f (t / 2)).toNat := if_neg h
theorem rok_e {lo hi f : Nat → Int} {t : Nat} (h : t % 2 = 0) : rok lo hi f t = true ↔ f (t / 2) < hi (t / 2) := by unfold rok; rw [if_pos h]; exact decide_eq_true_iff
theorem rok_o {lo hi f : Nat → Int} {t : Nat} (h : ¬ t % 2 = 0) : rok lo hi f t = true ↔ lo (t / 2) < f (t / 2) := by unfold rok; rw [if_neg h]; exact decide_eq_true_iff
def Tre (n S : Nat) (st en : Nat → Nat) (ok : Nat → Bool) (Q : Nat → Prop) (cb mu : Nat → Int) : Prop := ∀ v, v < n → cb v = -1 ∨ ∃ t : Nat, t < S ∧ cb v = (t : Int) ∧ ok t = true ∧ en t = v ∧ mu (st t) < mu v ∧ st t < n ∧ Q t
/-- the nodes from v on towards the root, and the flow with u more along the steps between them -/
def agn (st : Nat → Nat) (cb : Nat → Int) (v : Nat) : Nat → Nat
  | 0 => v
  | i + 1 => st (cb (agn st cb v i)).toNat
def agf (st : Nat → Nat) (cb : Nat → Int) (v : Nat) (u : Int) (f : Nat → Int) : Nat → (Nat → Int)
  | 0 => f
  | i + 1 => up (agf st cb v u f i) ((cb (agn st cb v i)).toNat / 2) (agf st cb v u f i ((cb (agn st cb v i)).toNat / 2) + (if (cb (agn st cb v i)).toNat % 2 = 0 then u else -u))
theorem least_of {P : Nat → Prop} : ∀ n : Nat, (∃ i, i < n ∧ P i) → ∃ i, i < n ∧ P i ∧ ∀ j, j < i → ¬ P j := by
  intro n
  induction n with
  | zero => intro h; obtain ⟨i, h, -⟩ := h; omega
  | succ n ih =>
    intro h
    rcases Classical.em (∃ i, i < n ∧ P i) with h1 | h1
    · obtain ⟨i, a, b, c⟩ := ih h1
      exact ⟨i, by omega, b, c⟩
    · obtain ⟨i, a, b⟩ := h
      refine ⟨i, a, b, fun j hj hp => h1 ⟨j, by omega, hp⟩⟩
theorem net_up {m : Nat} {fr to : Nat → Nat} {a : Nat} (ha : a < m) (f : Nat → Int) (x : Int) (w : Nat) : net m fr to (up f a (f a + x)) w = net m fr to f w + (if fr a = w then x else 0) - (if to a = w then x else 0) := by
  unfold net
  have h1 : sm (fun a' => (if fr a' = w then up f a (f a + x) a' else 0) - (if to a' = w then up f a (f a + x) a' else 0)) m = sm (fun a' => ((if fr a' = w then f a' else 0) - (if to a' = w then f a' else 0)) + (if a' = a then (if fr a = w then x else 0) - (if to a = w then x else 0) else 0)) m := by
    refine sm_congr (fun i _ => ?_)
    by_cases h : i = a
    · subst h
      rw [up_eq, if_pos rfl]
      by_cases h3 : fr i = w <;> by_cases h4 : to i = w <;> simp [h3, h4] <;> omega
    · rw [up_ne _ _ h, if_neg h]; omega
  rw [h1, sm_add, sm_one, if_pos ha]
  omega
theorem cc_add (pr : Nat → Nat → Int) (a : Nat) {x : Int} (hx : 0 ≤ x) : CC pr a (x + 1) = CC pr a x + pr a (x.toNat + 1) := by
  unfold CC
  rw [show (x + 1).toNat = x.toNat + 1 by omega]; rfl
theorem cc_sub (pr : Nat → Nat → Int) (a : Nat) {x : Int} (hx : 1 ≤ x) : CC pr a (x + -1) = CC pr a x - pr a x.toNat := by
  have := cc_add pr a (x := x - 1) (by omega)
  rw [show x - 1 + 1 = x by omega, show (x - 1).toNat + 1 = x.toNat by omega] at this
  rw [show x + -1 = x - 1 by omega]
  omega
theorem cst_up {m : Nat} {pr : Nat → Nat → Int} {a : Nat} (ha : a < m) (f : Nat → Int) (y : Int) : cst m pr (up f a y) = cst m pr f + (CC pr a y - CC pr a (f a)) := by
  unfold cst
  have h1 : sm (fun a' => CC pr a' (up f a y a')) m = sm (fun a' => CC pr a' (f a') + (if a' = a then CC pr a y - CC pr a (f a) else 0)) m := by
    refine sm_congr (fun i _ => ?_)
    by_cases h : i = a
    · subst h; rw [up_eq, if_pos rfl]; omega
    · rw [up_ne _ _ h, if_neg h]; omega
  rw [h1, sm_add, sm_one, if_pos ha]
section Aug
variable {n m : Nat} {fr to : Nat → Nat} {pr : Nat → Nat → Int} {cap lo hi b f p : Nat → Int} {Q : Nat → Prop} {cb mu : Nat → Int} {st en : Nat → Nat} {ok : Nat → Bool} {S : Nat}
theorem tre_fall (hT : Tre n S st en ok Q cb mu) {v : Nat} (hv : v < n) : ∀ i : Nat, (∀ j, j < i → cb (agn st cb v j) ≠ -1) → agn st cb v i < n ∧ (∀ j, j < i → mu (agn st cb v i) < mu (agn st cb v j)) := by
  intro i
  induction i with
  | zero => intro _; exact ⟨hv, fun j hj => by omega⟩
  | succ i ih =>
    intro h
    obtain ⟨h1, h2⟩ := ih (fun j hj => h j (by omega))
    rcases hT _ h1 with g | ⟨t, g1, g2, g3, g4, g5, g6, g7⟩
    · exact absurd g (h i (by omega))
    · have e : agn st cb v (i + 1) = st t := by
        show st (cb (agn st cb v i)).toNat = st t
        rw [g2]; rfl
      rw [e]
      refine ⟨g6, fun j hj => ?_⟩
      by_cases hji : j = i
      · rw [hji]; exact g5
      · exact Int.lt_trans g5 (h2 j (by omega))
/-- the root is near -/
theorem tre_root (hT : Tre n S st en ok Q cb mu) {v : Nat} (hv : v < n) : ∃ K, K < n ∧ cb (agn st cb v K) = -1 ∧ (∀ j, j < K → cb (agn st cb v j) ≠ -1) ∧ agn st cb v K < n := by
  have h1 : ∃ i, i < n ∧ cb (agn st cb v i) = -1 := by
    rcases Classical.em (∃ i, i < n ∧ cb (agn st cb v i) = -1) with h | h
    · exact h
    · exfalso
      have hne : ∀ j, j < n → cb (agn st cb v j) ≠ -1 := fun j hj he => h ⟨j, hj, he⟩
      obtain ⟨i, j, p1, p2, p3⟩ := pigeon n (agn st cb v) (fun i hi => (tre_fall hT hv i (fun j hj => hne j (by omega))).1)
      have := (tre_fall hT hv j (fun q hq => hne q (by omega))).2 i p1
      rw [p3] at this
      omega
  obtain ⟨K, a1, a2, a3⟩ := least_of n h1
  exact ⟨K, a1, a2, a3, (tre_fall hT hv K a3).1⟩
/-- what is so after i steps -/
theorem aug_inv (hft : ∀ a, a < m → fr a < n ∧ to a < n ∧ fr a ≠ to a) (hT : Tre n (2 * m) (rst fr to) (ren fr to) ok Q cb mu) {v : Nat} (hv : v < n) (u : Int) : ∀ i : Nat, (∀ j, j < i → cb (agn (rst fr to) cb v j) ≠ -1) →
    (∀ w, net m fr to (agf (rst fr to) cb v u f i) w = net m fr to f w + (if agn (rst fr to) cb v i = w then u else 0) - (if v = w then u else 0)) ∧
    (∀ a, agf (rst fr to) cb v u f i a = f a ∨ ∃ t : Nat, t < 2 * m ∧ t / 2 = a ∧ ok t = true ∧ Q t ∧ agf (rst fr to) cb v u f i a = f a + (if t % 2 = 0 then u else -u) ∧ ∃ j, j < i ∧ (cb (agn (rst fr to) cb v j)).toNat = t) ∧
    (∀ a, a < m → mu (fr a) ≤ mu (agn (rst fr to) cb v i) → mu (to a) ≤ mu (agn (rst fr to) cb v i) → agf (rst fr to) cb v u f i a = f a) := by
  intro i
  induction i with
  | zero =>
    intro _
    refine ⟨fun w => ?_, fun a => Or.inl rfl, fun a _ _ _ => rfl⟩
    show net m fr to f w = net m fr to f w + (if v = w then u else 0) - (if v = w then u else 0)
    omega
  | succ i ih =>
    intro h
    obtain ⟨h1, h2, h3⟩ := ih (fun j hj => h j (by omega))
    have hn := (tre_fall hT hv i (fun j hj => h j (by omega))).1
    rcases hT _ hn with g | ⟨t, g1, g2, g3, g4, g5, g6, g7⟩
    · exact absurd g (h i (by omega))
    · have ht : (cb (agn (rst fr to) cb v i)).toNat = t := by rw [g2]; rfl
      have e1 : agn (rst fr to) cb v (i + 1) = rst fr to t := by
        show rst fr to (cb (agn (rst fr to) cb v i)).toNat = _
        rw [ht]
      have e2 : agf (rst fr to) cb v u f (i + 1) = up (agf (rst fr to) cb v u f i) (t / 2) (agf (rst fr to) cb v u f i (t / 2) + (if t % 2 = 0 then u else -u)) := by
        show up (agf (rst fr to) cb v u f i) ((cb (agn (rst fr to) cb v i)).toNat / 2) _ = _
        rw [ht]
      have ha : t / 2 < m := by omega
      obtain ⟨q1, q2, q3⟩ := hft (t / 2) ha
      have hends : mu (fr (t / 2)) ≤ mu (agn (rst fr to) cb v i) ∧ mu (to (t / 2)) ≤ mu (agn (rst fr to) cb v i) := by
        by_cases h9 : t % 2 = 0
        · rw [ren_e h9] at g4; rw [rst_e h9] at g5; rw [g4]; omega
        · rw [ren_o h9] at g4; rw [rst_o h9] at g5; rw [g4]; omega
      have hsame := h3 (t / 2) ha hends.1 hends.2
      rw [e1, e2]
      refine ⟨fun w => ?_, fun a => ?_, fun a hm k1 k2 => ?_⟩
      · rw [net_up ha, h1 w]
        by_cases h9 : t % 2 = 0
        · rw [ren_e h9] at g4
          rw [rst_e h9, if_pos h9, ← g4]
          by_cases w1 : fr (t / 2) = w <;> by_cases w2 : to (t / 2) = w <;> by_cases w3 : v = w <;> simp [w1, w2, w3] <;> omega
        · rw [ren_o h9] at g4
          rw [rst_o h9, if_neg h9, ← g4]
          by_cases w1 : fr (t / 2) = w <;> by_cases w2 : to (t / 2) = w <;> by_cases w3 : v = w <;> simp [w1, w2, w3] <;> omega
      · by_cases h9 : a = t / 2
        · right
          refine ⟨t, g1, h9.symm, g3, g7, ?_, i, by omega, ht⟩
          rw [h9, up_eq, hsame]
        · rw [up_ne _ _ h9]
          rcases h2 a with q | ⟨t', q1, q2, q3, q4, q5, j, q6, q7⟩
          · exact Or.inl q
          · exact Or.inr ⟨t', q1, q2, q3, q4, q5, j, by omega, q7⟩
      · by_cases h9 : a = t / 2
        · exfalso
          rw [h9] at k1 k2
          by_cases h8 : t % 2 = 0
          · rw [rst_e h8] at k1 k2 g5; rw [ren_e h8] at g4; rw [← g4] at g5; omega
          · rw [rst_o h8] at k1 k2 g5; rw [ren_o h8] at g4; rw [← g4] at g5; omega
        · rw [up_ne _ _ h9]
          exact h3 a hm (by omega) (by omega)
/-- the cost of one unit more, along tight steps -/
theorem aug_cost (hft : ∀ a, a < m → fr a < n ∧ to a < n ∧ fr a ≠ to a) {d : Nat → Int} (hQ : ∀ t, Q t → d (rst fr to t) + rwt pr f t = d (ren fr to t)) (hok : ∀ t, t < 2 * m → ok t = true → if t % 2 = 0 then 0 ≤ f (t / 2) else 1 ≤ f (t / 2)) (hT : Tre n (2 * m) (rst fr to) (ren fr to) ok Q cb mu) {v : Nat} (hv : v < n) : ∀ i : Nat, (∀ j, j < i → cb (agn (rst fr to) cb v j) ≠ -1) →
    cst m pr (agf (rst fr to) cb v 1 f i) = cst m pr f + d v - d (agn (rst fr to) cb v i) := by
  intro i
  induction i with
  | zero => intro _; show cst m pr f = cst m pr f + d v - d v; omega
  | succ i ih =>
    intro h
    have h0 := ih (fun j hj => h j (by omega))
    obtain ⟨h1, h2, h3⟩ := aug_inv (f := f) hft hT hv 1 i (fun j hj => h j (by omega))
    have hn := (tre_fall hT hv i (fun j hj => h j (by omega))).1
    rcases hT _ hn with g | ⟨t, g1, g2, g3, g4, g5, g6, g7⟩
    · exact absurd g (h i (by omega))
    · have ht : (cb (agn (rst fr to) cb v i)).toNat = t := by rw [g2]; rfl
      have e1 : agn (rst fr to) cb v (i + 1) = rst fr to t := by
        show rst fr to (cb (agn (rst fr to) cb v i)).toNat = _
        rw [ht]
      have e2 : agf (rst fr to) cb v 1 f (i + 1) = up (agf (rst fr to) cb v 1 f i) (t / 2) (agf (rst fr to) cb v 1 f i (t / 2) + (if t % 2 = 0 then 1 else -1)) := by
        show up (agf (rst fr to) cb v 1 f i) ((cb (agn (rst fr to) cb v i)).toNat / 2) _ = _
        rw [ht]
      have ha : t / 2 < m := by omega
      have hends : mu (fr (t / 2)) ≤ mu (agn (rst fr to) cb v i) ∧ mu (to (t / 2)) ≤ mu (agn (rst fr to) cb v i) := by
        by_cases h9 : t % 2 = 0
        · rw [ren_e h9] at g4; rw [rst_e h9] at g5; rw [g4]; omega
        · rw [ren_o h9] at g4; rw [rst_o h9] at g5; rw [g4]; omega
      have hsame := h3 (t / 2) ha hends.1 hends.2
      have hq := hQ t g7
      have hk := hok t g1 g3
      rw [e1, e2, cst_up ha, hsame, h0]
      rw [g4] at hq
      by_cases h9 : t % 2 = 0
      · rw [rwt_e h9] at hq
        rw [if_pos h9] at hk ⊢
        rw [cc_add pr _ hk]; omega
      · rw [rwt_o h9] at hq
        rw [if_neg h9] at hk ⊢
        rw [cc_sub pr _ hk]; omega
theorem max_of (F : Nat → Int) : ∀ S : Nat, ∃ M : Int, ∀ t, t < S → F t ≤ M := by
  intro S
  induction S with
  | zero => exact ⟨0, fun t ht => by omega⟩
  | succ S ih =>
    obtain ⟨M, h⟩ := ih
    refine ⟨max M (F S), fun t ht => ?_⟩
    by_cases e : t = S
    · rw [e]; exact Int.le_max_right _ _
    · exact Int.le_trans (h t (by omega)) (Int.le_max_left _ _)
/-- one unit more along a cheapest way: still a flow, still with a potential -/
theorem aug_one (hft : ∀ a, a < m → fr a < n ∧ to a < n ∧ fr a ≠ to a) (hs : srt m cap pr) (hlo : ∀ a, a < m → 0 ≤ lo a) (hhi : ∀ a, a < m → hi a ≤ cap a)
    (hf : Flo n m fr to lo hi b f) (hp : Pot m fr to pr lo hi f p) {d d0 : Nat → Int} (hBT : BT (2 * m) n (rst fr to) (ren fr to) (rwt pr f) (rok lo hi f) d0 d cb)
    (hfar : ∀ t, t < 2 * m → rok lo hi f t = true → d (rst fr to t) < 1000000 → d (rst fr to t) + rwt pr f t < 1000000)
    {v : Nat} (hv : v < n) : ∃ K, K < n ∧ cb (agn (rst fr to) cb v K) = -1 ∧ (∀ j, j < K → cb (agn (rst fr to) cb v j) ≠ -1) ∧ agn (rst fr to) cb v K < n ∧
      d (agn (rst fr to) cb v K) = d0 (agn (rst fr to) cb v K) ∧ (d v < 1000000 → d0 (agn (rst fr to) cb v K) < 1000000) ∧
      Flo n m fr to lo hi (fun w => b w + (if agn (rst fr to) cb v K = w then 1 else 0) - (if v = w then 1 else 0)) (agf (rst fr to) cb v 1 f K) ∧
      (∃ p', Pot m fr to pr lo hi (agf (rst fr to) cb v 1 f K) p') ∧
      cst m pr (agf (rst fr to) cb v 1 f K) = cst m pr f + d v - d (agn (rst fr to) cb v K) := by
  obtain ⟨hrest, mu, htree⟩ := hBT
  have hT : Tre n (2 * m) (rst fr to) (ren fr to) (rok lo hi f) (fun t => t < 2 * m ∧ d (rst fr to t) < 1000000 ∧ d (rst fr to t) + rwt pr f t = d (ren fr to t)) cb mu := by
    intro v hv
    rcases htree v hv with ⟨g, -⟩ | ⟨t, g1, g2, g3, g4, g5, g6, g7⟩
    · exact Or.inl g
    · refine Or.inr ⟨t, g1, g2, g3, g4, g7, ?_, g1, g5, by rw [g4]; exact g6⟩
      unfold rst
      split
      · exact (hft _ (by omega)).1
      · exact (hft _ (by omega)).2.1
  obtain ⟨K, k1, k2, k3, k4⟩ := tre_root hT hv
  obtain ⟨i1, i2, -⟩ := aug_inv (f := f) hft hT hv 1 K k3
  have hokf : ∀ t, t < 2 * m → rok lo hi f t = true → if t % 2 = 0 then 0 ≤ f (t / 2) else 1 ≤ f (t / 2) := by
    intro t ht hok
    have h1 := hf.1 (t / 2) (by omega)
    have h2 := hlo (t / 2) (by omega)
    unfold rok at hok
    by_cases h9 : t % 2 = 0
    · rw [if_pos h9]; omega
    · rw [if_neg h9] at hok ⊢
      have := of_decide_eq_true hok
      omega
  have hcost := aug_cost (f := f) (pr := pr) (d := d) hft (fun t h => h.2.2) hokf hT hv K k3
  have hroot : d (agn (rst fr to) cb v K) = d0 (agn (rst fr to) cb v K) := by
    rcases htree _ k4 with ⟨-, g⟩ | ⟨t, -, g2, -⟩
    · exact g
    · omega
  have hreach : ∀ i, i ≤ K → d v < 1000000 → d (agn (rst fr to) cb v i) < 1000000 := by
    intro i hi hd
    cases i with
    | zero => exact hd
    | succ i =>
      have hn := (tre_fall hT hv i (fun j hj => k3 j (by omega))).1
      rcases hT _ hn with g | ⟨t, g1, g2, g3, g4, g5, g6, g7⟩
      · exact absurd g (k3 i (by omega))
      · have e1 : agn (rst fr to) cb v (i + 1) = rst fr to t := by
          show rst fr to (cb (agn (rst fr to) cb v i)).toNat = _
          rw [g2]; rfl
        rw [e1]; exact g7.2.1
  refine ⟨K, k1, k2, k3, k4, hroot, fun hd => by rw [← hroot]; exact hreach K (Nat.le_refl K) hd, ⟨fun a ha => ?_, fun w hw => ?_⟩, ?_, hcost⟩
  · have h1 := hf.1 a ha
    rcases i2 a with g | ⟨t, g1, g2, g3, g4, g5, -⟩
    · rw [g]; exact h1
    · rw [g5]
      unfold rok at g3
      rw [g2] at g3
      by_cases h9 : t % 2 = 0
      · rw [if_pos h9] at g3 ⊢
        have := of_decide_eq_true g3
        omega
      · rw [if_neg h9] at g3 ⊢
        have := of_decide_eq_true g3
        omega
  · rw [i1 w, hf.2 w hw]
  · obtain ⟨M, hM⟩ := max_of (fun t => d (ren fr to t) - p (rst fr to t) - rwt pr f t) (2 * m)
    refine ⟨fun x => if d x < 1000000 then d x else p x + M, ?_⟩
    -- a step that was there before
    have old : ∀ t, t < 2 * m → rok lo hi f t = true → (if d (ren fr to t) < 1000000 then d (ren fr to t) else p (ren fr to t) + M) ≤ (if d (rst fr to t) < 1000000 then d (rst fr to t) else p (rst fr to t) + M) + rwt pr f t := by
      intro t ht hok
      by_cases r1 : d (rst fr to t) < 1000000
      · have h1 := hrest t ht hok r1
        have h2 := hfar t ht hok r1
        rw [if_pos r1, if_pos (by omega)]
        exact h1
      · rw [if_neg r1]
        by_cases r2 : d (ren fr to t) < 1000000
        · rw [if_pos r2]
          have := hM t ht
          omega
        · rw [if_neg r2]
          have := hp t ht hok
          omega
    refine pot_of (fun a ha hl => ?_) (fun a ha hl => ?_)
    · have h1 := hf.1 a ha
      have h2 := hlo a ha
      have h3 := hhi a ha
      rcases i2 a with g | ⟨t, g1, g2, g3, ⟨g4, g5, g6⟩, g7, -⟩
      · rw [g] at hl ⊢
        have := old (2 * a) (by omega) (by unfold rok; rw [if_pos (by omega), show 2 * a / 2 = a by omega]; exact decide_eq_true hl)
        rw [ren_e (by omega), rst_e (by omega), rwt_e (by omega), show 2 * a / 2 = a by omega] at this
        exact this
      · rw [g7] at hl ⊢
        have h4 := hfar t g1 g3 g5
        unfold rok at g3
        unfold rst ren rwt at g6
        unfold rst at g5
        unfold rst rwt at h4
        rw [g2] at g3 g5 g6 h4
        by_cases h9 : t % 2 = 0
        · rw [if_pos h9] at g3 g5 hl ⊢
          rw [if_pos h9, if_pos h9, if_pos h9] at g6
          rw [if_pos h9, if_pos h9] at h4
          have h5 := of_decide_eq_true g3
          rw [if_pos (by omega), if_pos g5]
          have := hs a ha ((f a).toNat + 1) ((f a + 1).toNat + 1) (by omega) (by omega) (by omega)
          omega
        · rw [if_neg h9] at g3 g5 hl ⊢
          rw [if_neg h9, if_neg h9, if_neg h9] at g6
          rw [if_neg h9, if_neg h9] at h4
          have h5 := of_decide_eq_true g3
          rw [if_pos g5, if_pos (by omega)]
          rw [show (f a + -1).toNat + 1 = (f a).toNat by omega]
          omega
    · have h1 := hf.1 a ha
      have h2 := hlo a ha
      have h3 := hhi a ha
      rcases i2 a with g | ⟨t, g1, g2, g3, ⟨g4, g5, g6⟩, g7, -⟩
      · rw [g] at hl ⊢
        have := old (2 * a + 1) (by omega) (by unfold rok; rw [if_neg (by omega), show (2 * a + 1) / 2 = a by omega]; exact decide_eq_true hl)
        rw [ren_o (by omega), rst_o (by omega), rwt_o (by omega), show (2 * a + 1) / 2 = a by omega] at this
        omega
      · rw [g7] at hl ⊢
        have h4 := hfar t g1 g3 g5
        unfold rok at g3
        unfold rst ren rwt at g6
        unfold rst at g5
        unfold rst rwt at h4
        rw [g2] at g3 g5 g6 h4
        by_cases h9 : t % 2 = 0
        · rw [if_pos h9] at g3 g5 hl ⊢
          rw [if_pos h9, if_pos h9, if_pos h9] at g6
          rw [if_pos h9, if_pos h9] at h4
          have h5 := of_decide_eq_true g3
          rw [if_pos g5, if_pos (by omega)]
          rw [show (f a + 1).toNat = (f a).toNat + 1 by omega]
          omega
        · rw [if_neg h9] at g3 g5 hl ⊢
          rw [if_neg h9, if_neg h9, if_neg h9] at g6
          rw [if_neg h9, if_neg h9] at h4
          have h5 := of_decide_eq_true g3
          rw [if_pos (by omega), if_pos g5]
          have := hs a ha (f a + -1).toNat (f a).toNat (by omega) (by omega) (by omega)
          omega
end Aug
