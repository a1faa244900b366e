/-! the class: ways found, units sent, the demand met -/
/-- a loop with an invariant and a falling number -/
theorem lp_inv {S R : Type} {step : S → Option (R ⊕ S)} (I : Nat → S → Prop) (Post : R → Prop) (h : ∀ k s, I k s → (∃ r, step s = some (.inl r) ∧ Post r) ∨ (∃ s', step s = some (.inr s') ∧ ∃ k', k' < k ∧ I k' s')) : ∀ (N k : Nat) (s : S), I k s → k < N → ∃ r, lp step N s = some r ∧ Post r := by
  intro N
  induction N with
  | zero => intro k s _ hk; omega
  | succ N ih =>
    intro k s hI hk
    rcases h k s hI with ⟨r, h1, h2⟩ | ⟨s', h1, k', h2, h3⟩
    · refine ⟨r, ?_, h2⟩
      show (step s).bind _ = some r
      rw [h1]; rfl
    · obtain ⟨r, h4, h5⟩ := ih k' s' h3 (by omega)
      refine ⟨r, ?_, h5⟩
      show (step s).bind _ = some r
      rw [h1]; exact h4
/-- the first k places filled -/
def fil (g f : Nat → Int) (k : Nat) : Nat → Int := fun j => if j < k then g j else f j
theorem fil_0 (g f : Nat → Int) : fil g f 0 = f := funext fun j => if_neg (by omega)
theorem fil_s (g f : Nat → Int) (k : Nat) : up (fil g f k) k (g k) = fil g f (k + 1) := by
  funext j
  unfold up fil
  by_cases h : j = k
  · rw [if_pos h, if_pos (by omega), h]
  · rw [if_neg h]
    by_cases h2 : j < k
    · rw [if_pos h2, if_pos (by omega)]
    · rw [if_neg h2, if_neg (by omega)]
theorem fil_lt (g f : Nat → Int) {k j : Nat} (h : j < k) : fil g f k j = g j := if_pos h
theorem imin_I {a b : Int} (h1 : -2147483648 ≤ a) (h2 : a < 2147483648) (h3 : -2147483648 ≤ b) (h4 : b < 2147483648) : imin (iI a) (iI b) = iI (if b < a then b else a) := by
  unfold imin
  by_cases h : b < a
  · rw [lt_y h h3 h2, if_pos h]
  · rw [lt_n (by omega) h1 h4, if_neg h]
theorem bt_congr {S n : Nat} {st en : Nat → Nat} {w : Nat → Int} {ok : Nat → Bool} {d0 d1 d cb : Nat → Int} (h : BT S n st en w ok d0 d cb) (he : ∀ v, v < n → d0 v = d1 v) : BT S n st en w ok d1 d cb := by
  obtain ⟨h1, mu, h2⟩ := h
  refine ⟨h1, mu, fun v hv => ?_⟩
  rcases h2 v hv with g | g
  · left; rw [← he v hv]; exact g
  · exact Or.inr g
def src (s : Nat) : Nat → Int := fun v => if v = s then 0 else 1000000
section X0b
variable {n m : Nat} {F T C U O L H : Nat → Int}
theorem s_measureFrom (h : NW n m F T C U) (hw : WF m C L H O) (hp : ∃ p, Pot m (nfr F) (nfr T) (npr U) L H O p) {d0 cb0 : Nat → Int} {s : Nat} (hs : s < n) {N : Nat} (hN : 100 ≤ N) :
    ∃ d cb : Nat → Int, pX0_measureFrom N (iI n) (iI m) (iF F) (iF T) (iF C) (iF U) (iF O) (iF L) (iF H) (iF d0) (iF cb0) (iI s) = some (iF d, iF cb) ∧
      BT (2 * m) n (rst (nfr F) (nfr T)) (ren (nfr F) (nfr T)) (rwt (npr U) O) (rok L H O) (src s) d cb ∧ ∀ v, v < n → d v = 1000000 ∨ (-20000 ≤ d v ∧ d v ≤ 20000) := by
  have hn : 2 ≤ n ∧ n ≤ 8 := ⟨h.1, h.2.1⟩
  have hlp : lp (un3 (pX0_measureFrom_l2 (iI n) (iI s))) N (0, iF d0, iF cb0) = some (iI n, iF (fil (src s) d0 n), iF (fil (fun _ => -1) cb0 n)) := by
    rw [show ((0 : Int32), iF d0, iF cb0) = (iI ((0 : Nat) : Int), iF (fil (src s) d0 0), iF (fil (fun _ => -1) cb0 0)) by rw [fil_0, fil_0]; rfl]
    refine lp_run (fun k : Nat => (iI (k : Int), iF (fil (src s) d0 k), iF (fil (fun _ => -1) cb0 k))) _ n (fun k hk => ?_) ?_ (by omega)
    · show pX0_measureFrom_l2 (iI n) (iI s) (iI (k : Nat)) (iF (fil (src s) d0 k)) (iF (fil (fun _ => -1) cb0 k)) = _
      unfold pX0_measureFrom_l2
      rw [le_n (by omega) (by omega) (by omega)]
      by_cases c : k = s
      · rw [eq_y (by omega), zl0, zlm, wr_n (by omega) (by omega), bind_some, wr_n (by omega) (by omega), bind_some]
        rw [show (0 : Int) = src s k from (if_pos c).symm, fil_s, show (-1 : Int) = (fun _ : Nat => (-1 : Int)) k from rfl, fil_s, iI_s]
      · rw [eq_n (by omega) (by omega) (by omega) (by omega) (by omega), zlF, zlm, wr_n (by omega) (by omega), bind_some, wr_n (by omega) (by omega), bind_some]
        rw [show (1000000 : Int) = src s k from (if_neg c).symm, fil_s, show (-1 : Int) = (fun _ : Nat => (-1 : Int)) k from rfl, fil_s, iI_s]
    · show pX0_measureFrom_l2 (iI n) (iI s) (iI (n : Nat)) (iF (fil (src s) d0 n)) (iF (fil (fun _ => -1) cb0 n)) = _
      unfold pX0_measureFrom_l2
      rw [le_y (by omega) (by omega) (by omega)]
  obtain ⟨d, cb, h1, h2, h3⟩ := s_measure h hw hp (d0 := fil (src s) d0 n) (cb0 := fil (fun _ => -1) cb0 n) (fun v hv => by rw [fil_lt _ _ hv]; unfold src; split <;> omega) (fun v hv => fil_lt _ _ hv) hN
  refine ⟨d, cb, ?_, bt_congr h2 (fun v hv => fil_lt _ _ hv), h3⟩
  unfold pX0_measureFrom
  rw [hlp]
  show bnd2 _ _ = _
  rw [h1]; rfl
theorem s_measureFromAll (h : NW n m F T C U) (hw : WF m C L H O) (hp : ∃ p, Pot m (nfr F) (nfr T) (npr U) L H O p) {d0 cb0 : Nat → Int} {N : Nat} (hN : 100 ≤ N) :
    ∃ d cb : Nat → Int, pX0_measureFromAll N (iI n) (iI m) (iF F) (iF T) (iF C) (iF U) (iF O) (iF L) (iF H) (iF d0) (iF cb0) = some (iF d, iF cb) ∧
      BT (2 * m) n (rst (nfr F) (nfr T)) (ren (nfr F) (nfr T)) (rwt (npr U) O) (rok L H O) (fun _ => 0) d cb ∧ ∀ v, v < n → d v = 1000000 ∨ (-20000 ≤ d v ∧ d v ≤ 20000) := by
  have hn : 2 ≤ n ∧ n ≤ 8 := ⟨h.1, h.2.1⟩
  have hlp : lp (un3 (pX0_measureFromAll_l2 (iI n))) N (0, iF d0, iF cb0) = some (iI n, iF (fil (fun _ => 0) d0 n), iF (fil (fun _ => -1) cb0 n)) := by
    rw [show ((0 : Int32), iF d0, iF cb0) = (iI ((0 : Nat) : Int), iF (fil (fun _ => 0) d0 0), iF (fil (fun _ => -1) cb0 0)) by rw [fil_0, fil_0]; rfl]
    refine lp_run (fun k : Nat => (iI (k : Int), iF (fil (fun _ => 0) d0 k), iF (fil (fun _ => -1) cb0 k))) _ n (fun k hk => ?_) ?_ (by omega)
    · show pX0_measureFromAll_l2 (iI n) (iI (k : Nat)) (iF (fil (fun _ => 0) d0 k)) (iF (fil (fun _ => -1) cb0 k)) = _
      unfold pX0_measureFromAll_l2
      rw [le_n (by omega) (by omega) (by omega), zl0, zlm, wr_n (by omega) (by omega), bind_some, wr_n (by omega) (by omega), bind_some]
      rw [show (0 : Int) = (fun _ : Nat => (0 : Int)) k from rfl, fil_s, show (-1 : Int) = (fun _ : Nat => (-1 : Int)) k from rfl, fil_s, iI_s]
    · show pX0_measureFromAll_l2 (iI n) (iI (n : Nat)) (iF (fil (fun _ => 0) d0 n)) (iF (fil (fun _ => -1) cb0 n)) = _
      unfold pX0_measureFromAll_l2
      rw [le_y (by omega) (by omega) (by omega)]
  obtain ⟨d, cb, h1, h2, h3⟩ := s_measure h hw hp (d0 := fil (fun _ => 0) d0 n) (cb0 := fil (fun _ => -1) cb0 n) (fun v hv => Or.inl (fil_lt _ _ hv)) (fun v hv => fil_lt _ _ hv) hN
  refine ⟨d, cb, ?_, bt_congr h2 (fun v hv => fil_lt _ _ hv), h3⟩
  unfold pX0_measureFromAll
  rw [hlp]
  show bnd2 _ _ = _
  rw [h1]; rfl
/-- how much room a step has; the least along a chain -/
def rmo (L H O : Nat → Int) (t : Nat) : Int := if t % 2 = 0 then H (t / 2) - O (t / 2) else O (t / 2) - L (t / 2)
def rmn (st : Nat → Nat) (L H O cb : Nat → Int) (v : Nat) : Nat → Int
  | 0 => 1000000
  | j + 1 => if rmo L H O (cb (agn st cb v j)).toNat < rmn st L H O cb v j then rmo L H O (cb (agn st cb v j)).toNat else rmn st L H O cb v j
theorem rmn_le {st : Nat → Nat} {cb : Nat → Int} {v : Nat} : ∀ i j, j < i → rmn st L H O cb v i ≤ rmo L H O (cb (agn st cb v j)).toNat := by
  intro i
  induction i with
  | zero => intro j hj; omega
  | succ i ih =>
    intro j hj
    rw [show rmn st L H O cb v (i + 1) = if rmo L H O (cb (agn st cb v i)).toNat < rmn st L H O cb v i then rmo L H O (cb (agn st cb v i)).toNat else rmn st L H O cb v i from rfl]
    by_cases e : j = i
    · subst e; split <;> omega
    · have := ih j (by omega)
      split <;> omega
theorem rmn_bd {st : Nat → Nat} {cb : Nat → Int} {v : Nat} : ∀ i, (∀ j, j < i → 1 ≤ rmo L H O (cb (agn st cb v j)).toNat) → 1 ≤ rmn st L H O cb v i ∧ rmn st L H O cb v i ≤ 1000000 := by
  intro i
  induction i with
  | zero => intro _; show (1 : Int) ≤ 1000000 ∧ (1000000 : Int) ≤ 1000000; omega
  | succ i ih =>
    intro h
    have h1 := ih (fun j hj => h j (by omega))
    have h2 := h i (by omega)
    rw [show rmn st L H O cb v (i + 1) = if rmo L H O (cb (agn st cb v i)).toNat < rmn st L H O cb v i then rmo L H O (cb (agn st cb v i)).toNat else rmn st L H O cb v i from rfl]
    split <;> omega
theorem rok_rmo {t : Nat} : rok L H O t = true ↔ 1 ≤ rmo L H O t := by
  rw [rok_room]
  unfold rmo
  rw [decide_eq_true_iff]
  omega
/-- the chain of a tree, as the class walks it -/
theorem chain_steps {Q : Nat → Prop} {cb mu : Nat → Int} (hT : Tre n (2 * m) (rst (nfr F) (nfr T)) (ren (nfr F) (nfr T)) (rok L H O) Q cb mu) {t K : Nat} (ht : t < n) (hK : ∀ j, j < K → cb (agn (rst (nfr F) (nfr T)) cb t j) ≠ -1) : ∀ j, j < K → agn (rst (nfr F) (nfr T)) cb t j < n ∧ ∃ q : Nat, q < 2 * m ∧ cb (agn (rst (nfr F) (nfr T)) cb t j) = (q : Int) ∧ rok L H O q = true ∧ agn (rst (nfr F) (nfr T)) cb t (j + 1) = rst (nfr F) (nfr T) q := by
  intro j hj
  have hn := (tre_fall hT ht j (fun i hi => hK i (by omega))).1
  refine ⟨hn, ?_⟩
  rcases hT _ hn with g | ⟨q, g1, g2, g3, g4, g5, g6, g7⟩
  · exact absurd g (hK j hj)
  · refine ⟨q, g1, g2, g3, ?_⟩
    show rst (nfr F) (nfr T) (cb (agn (rst (nfr F) (nfr T)) cb t j)).toNat = _
    rw [g2]; rfl
theorem s_roomOnWay (h : NW n m F T C U) (hw : WF m C L H O) {Q : Nat → Prop} {cb mu : Nat → Int} (hT : Tre n (2 * m) (rst (nfr F) (nfr T)) (ren (nfr F) (nfr T)) (rok L H O) Q cb mu) {s t K : Nat} (ht : t < n) (hKn : K < n) (hK : ∀ j, j < K → cb (agn (rst (nfr F) (nfr T)) cb t j) ≠ -1) (hs : agn (rst (nfr F) (nfr T)) cb t K = s) (hc : cb s = -1) {N : Nat} (hN : 100 ≤ N) :
    pX0_roomOnWay N (iI n) (iF F) (iF T) (iF O) (iF L) (iF H) (iF cb) (iI s) (iI t) = some (iI (rmn (rst (nfr F) (nfr T)) L H O cb t K)) := by
  have hn : 2 ≤ n ∧ n ≤ 8 := ⟨h.1, h.2.1⟩
  have hm : m ≤ 12 := h.2.2.1
  have hch := chain_steps hT ht hK
  have hsn : s < n := by rw [← hs]; exact (tre_fall hT ht K hK).1
  have hroom : ∀ j, j ≤ K → 1 ≤ rmn (rst (nfr F) (nfr T)) L H O cb t j ∧ rmn (rst (nfr F) (nfr T)) L H O cb t j ≤ 1000000 := fun j hj => rmn_bd j (fun i hi => by
    obtain ⟨-, q, q1, q2, q3, -⟩ := hch i (by omega)
    rw [q2]
    exact rok_rmo.mp q3)
  unfold pX0_roomOnWay
  have hlp : lp (un3 (pX0_roomOnWay_l9 (iF cb) (iF H) (iF L) (iF O) (iF F) (iI n) (iF T) (iI s))) N (1000000, iI t, 0) = some (.inl (iI (rmn (rst (nfr F) (nfr T)) L H O cb t K), iI s, iI (K : Nat))) := by
    refine lp_run (fun j => (iI (rmn (rst (nfr F) (nfr T)) L H O cb t j), iI ((agn (rst (nfr F) (nfr T)) cb t j : Nat) : Int), iI (j : Nat))) _ K (fun j hj => ?_) ?_ (by omega)
    · show pX0_roomOnWay_l9 (iF cb) (iF H) (iF L) (iF O) (iF F) (iI n) (iF T) (iI s) (iI (rmn (rst (nfr F) (nfr T)) L H O cb t j)) (iI ((agn (rst (nfr F) (nfr T)) cb t j : Nat) : Int)) (iI (j : Nat)) = some (.inr (iI (rmn (rst (nfr F) (nfr T)) L H O cb t (j + 1)), iI ((agn (rst (nfr F) (nfr T)) cb t (j + 1) : Nat) : Int), iI ((j + 1 : Nat) : Int)))
      obtain ⟨q0, q, q1, q2, q3, q4⟩ := hch j hj
      have hne : agn (rst (nfr F) (nfr T)) cb t j ≠ s := fun e => hK j hj (by rw [e]; exact hc)
      have h1 := h.2.2.2.1 (q / 2) (by omega)
      have h2 := hw (q / 2) (by omega)
      have h3 := hroom j (by omega)
      unfold pX0_roomOnWay_l9
      rw [le_n (by omega) (by omega) (by omega), eq_n (by omega) (by omega) (by omega) (by omega) (by omega), rd_n (by omega) (by omega), bind_some, zlm, q2, eq_n (by omega) (by omega) (by omega) (by omega) (by omega), s_roomOf (by omega), bind_some, s_start (by omega) (by omega) (by omega), bind_some]
      rw [show (if q % 2 = 0 then H (q / 2) - O (q / 2) else O (q / 2) - L (q / 2)) = rmo L H O q from rfl]
      have h4 : 1 ≤ rmo L H O q := rok_rmo.mp q3
      have h5 : rmo L H O q ≤ 15 := by unfold rmo; split <;> omega
      rw [imin_I (by omega) (by omega) (by omega) (by omega), iI_s, q4]
      have h6 : rmn (rst (nfr F) (nfr T)) L H O cb t (j + 1) = if rmo L H O q < rmn (rst (nfr F) (nfr T)) L H O cb t j then rmo L H O q else rmn (rst (nfr F) (nfr T)) L H O cb t j := by
        show (if rmo L H O (cb (agn (rst (nfr F) (nfr T)) cb t j)).toNat < _ then rmo L H O (cb (agn (rst (nfr F) (nfr T)) cb t j)).toNat else _) = _
        rw [q2]; rfl
      rw [h6]
    · show pX0_roomOnWay_l9 (iF cb) (iF H) (iF L) (iF O) (iF F) (iI n) (iF T) (iI s) (iI (rmn (rst (nfr F) (nfr T)) L H O cb t K)) (iI ((agn (rst (nfr F) (nfr T)) cb t K : Nat) : Int)) (iI (K : Nat)) = _
      unfold pX0_roomOnWay_l9
      rw [le_n (by omega) (by omega) (by omega), hs, eq_y rfl]
  rw [hlp, bind_some]
  show (if _ then _ else _) = _
  rw [eq_y rfl]
theorem s_sendOnWay (h : NW n m F T C U) (hw : WF m C L H O) {Q : Nat → Prop} {cb mu : Nat → Int} (hT : Tre n (2 * m) (rst (nfr F) (nfr T)) (ren (nfr F) (nfr T)) (rok L H O) Q cb mu) {s t K : Nat} (ht : t < n) (hKn : K < n) (hK : ∀ j, j < K → cb (agn (rst (nfr F) (nfr T)) cb t j) ≠ -1) (hs : agn (rst (nfr F) (nfr T)) cb t K = s) (hc : cb s = -1) {lim : Int} (hl1 : 1 ≤ lim) (hl2 : lim ≤ 1000000) {N : Nat} (hN : 100 ≤ N) :
    ∃ u : Int, 1 ≤ u ∧ u ≤ lim ∧ (∀ j, j < K → u ≤ rmo L H O (cb (agn (rst (nfr F) (nfr T)) cb t j)).toNat) ∧
    pX0_sendOnWay N (iI n) (iF F) (iF T) (iF O) (iF L) (iF H) (iF cb) (iI s) (iI t) (iI lim) = some (iI u, iF (agf (rst (nfr F) (nfr T)) cb t u O K)) := by
  have hn : 2 ≤ n ∧ n ≤ 8 := ⟨h.1, h.2.1⟩
  have hm : m ≤ 12 := h.2.2.1
  have hch := chain_steps hT ht hK
  have hsn : s < n := by rw [← hs]; exact (tre_fall hT ht K hK).1
  have hroom : 1 ≤ rmn (rst (nfr F) (nfr T)) L H O cb t K ∧ rmn (rst (nfr F) (nfr T)) L H O cb t K ≤ 1000000 := rmn_bd K (fun i hi => by
    obtain ⟨-, q, q1, q2, q3, -⟩ := hch i (by omega)
    rw [q2]
    exact rok_rmo.mp q3)
  refine ⟨if rmn (rst (nfr F) (nfr T)) L H O cb t K < lim then rmn (rst (nfr F) (nfr T)) L H O cb t K else lim, by split <;> omega, by split <;> omega, fun j hj => by have := rmn_le (st := rst (nfr F) (nfr T)) (L := L) (H := H) (O := O) (cb := cb) (v := t) K j hj; split <;> omega, ?_⟩
  generalize hu : (if rmn (rst (nfr F) (nfr T)) L H O cb t K < lim then rmn (rst (nfr F) (nfr T)) L H O cb t K else lim) = u
  have hu1 : 1 ≤ u ∧ u ≤ 1000000 := by rw [← hu]; split <;> omega
  unfold pX0_sendOnWay
  rw [s_roomOnWay h hw hT ht hKn hK hs hc hN, bind_some, imin_I (by omega) (by omega) (by omega) (by omega), hu]
  have hlp : lp (un3 (pX0_sendOnWay_l18 (iF cb) (iF F) (iI n) (iF T) (iI s) (iI lim) (iI (rmn (rst (nfr F) (nfr T)) L H O cb t K)))) N (iI t, 0, iF O) = some (iI s, iI (K : Nat), iF (agf (rst (nfr F) (nfr T)) cb t u O K)) := by
    refine lp_run (fun j => (iI ((agn (rst (nfr F) (nfr T)) cb t j : Nat) : Int), iI (j : Nat), iF (agf (rst (nfr F) (nfr T)) cb t u O j))) _ K (fun j hj => ?_) ?_ (by omega)
    · show pX0_sendOnWay_l18 (iF cb) (iF F) (iI n) (iF T) (iI s) (iI lim) (iI (rmn (rst (nfr F) (nfr T)) L H O cb t K)) (iI ((agn (rst (nfr F) (nfr T)) cb t j : Nat) : Int)) (iI (j : Nat)) (iF (agf (rst (nfr F) (nfr T)) cb t u O j)) = some (.inr (iI ((agn (rst (nfr F) (nfr T)) cb t (j + 1) : Nat) : Int), iI ((j + 1 : Nat) : Int), iF (agf (rst (nfr F) (nfr T)) cb t u O (j + 1))))
      obtain ⟨q0, q, q1, q2, q3, q4⟩ := hch j hj
      have hne : agn (rst (nfr F) (nfr T)) cb t j ≠ s := fun e => hK j hj (by rw [e]; exact hc)
      have h1 := h.2.2.2.1 (q / 2) (by omega)
      have e2 : agf (rst (nfr F) (nfr T)) cb t u O (j + 1) = up (agf (rst (nfr F) (nfr T)) cb t u O j) (q / 2) (agf (rst (nfr F) (nfr T)) cb t u O j (q / 2) + (if q % 2 = 0 then u else -u)) := by
        show up _ ((cb (agn (rst (nfr F) (nfr T)) cb t j)).toNat / 2) _ = _
        rw [q2]; rfl
      unfold pX0_sendOnWay_l18
      rw [le_n (by omega) (by omega) (by omega), eq_n (by omega) (by omega) (by omega) (by omega) (by omega), imin_I (by omega) (by omega) (by omega) (by omega), hu, le0_n (by omega) (by omega), rd_n (by omega) (by omega), bind_some, q2, s_arcOf (by omega), bind_some, rd_n (by omega) (by omega), bind_some, s_goesAlong (by omega), bind_some, b0_d, s_start (by omega) (by omega) (by omega), e2, q4, iI_s, iI_neg, iI_add, iI_add]
      by_cases h9 : q % 2 = 0
      · rw [if_pos h9, if_pos h9, wr_n (by omega) (by omega)]; rfl
      · rw [if_neg h9, if_neg h9, wr_n (by omega) (by omega)]; rfl
    · show pX0_sendOnWay_l18 (iF cb) (iF F) (iI n) (iF T) (iI s) (iI lim) (iI (rmn (rst (nfr F) (nfr T)) L H O cb t K)) (iI ((agn (rst (nfr F) (nfr T)) cb t K : Nat) : Int)) (iI (K : Nat)) (iF (agf (rst (nfr F) (nfr T)) cb t u O K)) = _
      unfold pX0_sendOnWay_l18
      rw [le_n (by omega) (by omega) (by omega), hs, eq_y rfl]
  rw [hlp]; rfl
/-- no way: nothing is sent -/
theorem s_sendOnWay0 (hn : 2 ≤ n ∧ n ≤ 8) {cb : Nat → Int} {s t : Nat} (hs : s < n) (ht : t < n) (hst : t ≠ s) (hc : cb t = -1) {lim : Int} (hl1 : 0 ≤ lim) (hl2 : lim ≤ 1000000) {N : Nat} (hN : 100 ≤ N) :
    pX0_sendOnWay N (iI n) (iF F) (iF T) (iF O) (iF L) (iF H) (iF cb) (iI s) (iI t) (iI lim) = some (iI 0, iF O) := by
  unfold pX0_sendOnWay
  have h1 : pX0_roomOnWay N (iI n) (iF F) (iF T) (iF O) (iF L) (iF H) (iF cb) (iI s) (iI t) = some (iI 0) := by
    unfold pX0_roomOnWay
    have hlp : lp (un3 (pX0_roomOnWay_l9 (iF cb) (iF H) (iF L) (iF O) (iF F) (iI n) (iF T) (iI s))) N (1000000, iI t, 0) = some (.inr 0) := by
      refine lp_run (fun _ => (1000000, iI t, 0)) _ 0 (fun j hj => by omega) ?_ (by omega)
      show pX0_roomOnWay_l9 (iF cb) (iF H) (iF L) (iF O) (iF F) (iI n) (iF T) (iI s) 1000000 (iI t) 0 = _
      unfold pX0_roomOnWay_l9
      rw [zl0, le_n (by omega) (by omega) (by omega), eq_n (by omega) (by omega) (by omega) (by omega) (by omega), rd_n (by omega) (by omega), bind_some, hc, zlm, eq_y rfl]
    rw [hlp]; rfl
  rw [h1, bind_some, imin_I (by omega) (by omega) (by omega) (by omega)]
  have hlp : lp (un3 (pX0_sendOnWay_l18 (iF cb) (iF F) (iI n) (iF T) (iI s) (iI lim) (iI 0))) N (iI t, 0, iF O) = some (iI t, 0, iF O) := by
    refine lp_run (fun _ => (iI t, 0, iF O)) _ 0 (fun j hj => by omega) ?_ (by omega)
    show pX0_sendOnWay_l18 (iF cb) (iF F) (iI n) (iF T) (iI s) (iI lim) (iI 0) (iI t) 0 (iF O) = _
    unfold pX0_sendOnWay_l18
    rw [zl0, le_n (by omega) (by omega) (by omega), eq_n (by omega) (by omega) (by omega) (by omega) (by omega), imin_I (by omega) (by omega) (by omega) (by omega), le_y (by split <;> omega) (by split <;> omega) (by omega)]
  rw [hlp, show (if (0 : Int) < lim then (0 : Int) else lim) = 0 by split <;> omega]; rfl
end X0b
