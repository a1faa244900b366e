/-! the class: the demand met as cheaply as can be, what it costs, what one unit more costs -/
def dem (s t : Nat) (A : Int) : Nat → Int := fun v => (if s = v then A else 0) - (if t = v then A else 0)
theorem flo_b {n m : Nat} {fr to : Nat → Nat} {lo hi b b' f : Nat → Int} (h : Flo n m fr to lo hi b f) (he : ∀ v, v < n → b v = b' v) : Flo n m fr to lo hi b' f := ⟨h.1, fun v hv => by rw [← he v hv]; exact h.2 v hv⟩
theorem flo_lh {n m : Nat} {fr to : Nat → Nat} {lo hi lo' hi' b f : Nat → Int} (h : Flo n m fr to lo hi b f) (he : ∀ a, a < m → lo a = lo' a ∧ hi a = hi' a) : Flo n m fr to lo' hi' b f := ⟨fun a ha => by rw [← (he a ha).1, ← (he a ha).2]; exact h.1 a ha, h.2⟩
theorem rok_lh {lo hi lo' hi' f : Nat → Int} {m t : Nat} (ht : t < 2 * m) (he : ∀ a, a < m → lo a = lo' a ∧ hi a = hi' a) : rok lo hi f t = rok lo' hi' f t := by
  have := he (t / 2) (by omega)
  unfold rok
  rw [this.1, this.2]
theorem pot_lh {m : Nat} {fr to : Nat → Nat} {pr : Nat → Nat → Int} {lo hi lo' hi' f p : Nat → Int} (h : Pot m fr to pr lo hi f p) (he : ∀ a, a < m → lo a = lo' a ∧ hi a = hi' a) : Pot m fr to pr lo' hi' f p := fun t ht hok => h t ht (by rw [rok_lh ht he]; exact hok)
/-- there is no such flow -/
def NoFlo (n m : Nat) (fr to : Nat → Nat) (lo hi b : Nat → Int) : Prop := ∀ g, ¬ Flo n m fr to lo hi b g
/-- the least cost -/
def IsMin (n m : Nat) (fr to : Nat → Nat) (pr : Nat → Nat → Int) (lo hi b : Nat → Int) (c : Int) : Prop := (∃ f, Flo n m fr to lo hi b f ∧ cst m pr f = c) ∧ ∀ g, Flo n m fr to lo hi b g → c ≤ cst m pr g
theorem ismin_one {n m : Nat} {fr to : Nat → Nat} {pr : Nat → Nat → Int} {lo hi b : Nat → Int} {c c' : Int} (h : IsMin n m fr to pr lo hi b c) (h' : IsMin n m fr to pr lo hi b c') : c = c' := by
  obtain ⟨⟨f, f1, f2⟩, f3⟩ := h
  obtain ⟨⟨g, g1, g2⟩, g3⟩ := h'
  have := f3 g g1
  have := g3 f f1
  omega
section X0c
variable {n m : Nat} {F T C U O L H : Nat → Int}
theorem bt_tre (h : NW n m F T C U) {w : Nat → Int} {ok : Nat → Bool} {d0 d cb : Nat → Int} (hB : BT (2 * m) n (rst (nfr F) (nfr T)) (ren (nfr F) (nfr T)) w ok d0 d cb) : ∃ mu, Tre n (2 * m) (rst (nfr F) (nfr T)) (ren (nfr F) (nfr T)) ok (fun t => d (rst (nfr F) (nfr T) t) < 1000000 ∧ d (rst (nfr F) (nfr T) t) + w t = d (ren (nfr F) (nfr T) t)) cb mu := by
  obtain ⟨-, mu, h2⟩ := hB
  refine ⟨mu, fun v hv => ?_⟩
  rcases h2 v hv with ⟨g, -⟩ | ⟨t, g1, g2, g3, g4, g5, g6, g7⟩
  · exact Or.inl g
  · exact Or.inr ⟨t, g1, g2, g3, g4, g7, (nw_st h ok t g1 g3).1, g5, by rw [g4]; exact g6⟩
/-- where a tree with one source comes from -/
theorem bt_src (h : NW n m F T C U) {w : Nat → Int} {ok : Nat → Bool} {s : Nat} {d cb : Nat → Int} (hB : BT (2 * m) n (rst (nfr F) (nfr T)) (ren (nfr F) (nfr T)) w ok (src s) d cb) {v : Nat} (hv : v < n) (hd : d v < 1000000) {K : Nat} (hK : ∀ j, j < K → cb (agn (rst (nfr F) (nfr T)) cb v j) ≠ -1) (hc : cb (agn (rst (nfr F) (nfr T)) cb v K) = -1) : agn (rst (nfr F) (nfr T)) cb v K = s := by
  obtain ⟨mu, hT⟩ := bt_tre h hB
  have hreach : ∀ i, i ≤ K → d (agn (rst (nfr F) (nfr T)) cb v i) < 1000000 := by
    intro i hi
    cases i with
    | zero => exact hd
    | succ i =>
      have hn := (tre_fall hT hv i (fun j hj => hK j (by omega))).1
      rcases hT _ hn with g | ⟨t, g1, g2, g3, g4, g5, g6, g7⟩
      · exact absurd g (hK i (by omega))
      · have e1 : agn (rst (nfr F) (nfr T)) cb v (i + 1) = rst (nfr F) (nfr T) t := by
          show rst (nfr F) (nfr T) (cb (agn (rst (nfr F) (nfr T)) cb v i)).toNat = _
          rw [g2]; rfl
        rw [e1]; exact g7.1
  have h1 := hreach K (Nat.le_refl K)
  have hn := (tre_fall hT hv K hK).1
  obtain ⟨-, mu', h2⟩ := hB
  rcases h2 _ hn with ⟨-, g⟩ | ⟨t, -, g2, -⟩
  · rw [g] at h1
    unfold src at h1
    by_cases e : agn (rst (nfr F) (nfr T)) cb v K = s
    · exact e
    · rw [if_neg e] at h1; omega
  · omega
/-- the source itself -/
theorem bt_src0 (h : NW n m F T C U) {w : Nat → Int} {ok : Nat → Bool} {s : Nat} (hs : s < n) {d cb : Nat → Int} (hB : BT (2 * m) n (rst (nfr F) (nfr T)) (ren (nfr F) (nfr T)) w ok (src s) d cb) (hd : ∀ v, v < n → d v = 1000000 ∨ (-20000 ≤ d v ∧ d v ≤ 20000)) (hwt : ∀ t, t < 2 * m → ok t = true → -99 ≤ w t ∧ w t ≤ 99) : cb s = -1 ∧ d s = 0 := by
  have hds : d s < 1000000 := by
    obtain ⟨-, mu, h2⟩ := hB
    rcases h2 s hs with ⟨-, g⟩ | ⟨t, g1, g2, g3, g4, g5, g6, -⟩
    · rw [g]; unfold src; rw [if_pos rfl]; omega
    · have := hwt t g1 g3
      have := hd _ (nw_st h ok t g1 g3).1
      omega
  obtain ⟨mu, hT⟩ := bt_tre h hB
  obtain ⟨K, k1, k2, k3, k4⟩ := tre_root hT hs
  have e := bt_src h hB hs hds k3 k2
  have e0 : cb s = -1 := by rw [← e]; exact k2
  refine ⟨e0, ?_⟩
  obtain ⟨-, mu', h2⟩ := hB
  rcases h2 s hs with ⟨-, g⟩ | ⟨t, -, g2, -⟩
  · rw [g]; unfold src; rw [if_pos rfl]
  · omega
theorem s_empty (hm : m ≤ 12) {N : Nat} (hN : 100 ≤ N) : pX0_empty N (iI m) (iF C) (iF O) (iF L) (iF H) = some (iF (fil (fun _ => 0) O m), iF (fil (fun _ => 0) L m), iF (fil C H m)) := by
  unfold pX0_empty
  have hlp : lp (un4 (pX0_empty_l2 (iI m) (iF C))) N (0, iF O, iF L, iF H) = some (iI m, iF (fil (fun _ => 0) O m), iF (fil (fun _ => 0) L m), iF (fil C H m)) := by
    rw [show ((0 : Int32), iF O, iF L, iF H) = (iI ((0 : Nat) : Int), iF (fil (fun _ => 0) O 0), iF (fil (fun _ => 0) L 0), iF (fil C H 0)) by rw [fil_0, fil_0, fil_0]; rfl]
    refine lp_run (fun k : Nat => (iI (k : Int), iF (fil (fun _ => 0) O k), iF (fil (fun _ => 0) L k), iF (fil C H k))) _ m (fun k hk => ?_) ?_ (by omega)
    · show pX0_empty_l2 (iI m) (iF C) (iI (k : Nat)) (iF (fil (fun _ => 0) O k)) (iF (fil (fun _ => 0) L k)) (iF (fil C H k)) = _
      unfold pX0_empty_l2
      rw [le_n (by omega) (by omega) (by omega), zl0, wr_n (by omega) (by omega), bind_some, wr_n (by omega) (by omega), bind_some, rd_n (by omega) (by omega), bind_some, wr_n (by omega) (by omega), bind_some]
      rw [show up (fil (fun _ => 0) O k) k 0 = fil (fun _ => 0) O (k + 1) from fil_s _ _ _, show up (fil (fun _ => 0) L k) k 0 = fil (fun _ => 0) L (k + 1) from fil_s _ _ _, fil_s, iI_s]
    · show pX0_empty_l2 (iI m) (iF C) (iI (m : Nat)) (iF (fil (fun _ => 0) O m)) (iF (fil (fun _ => 0) L m)) (iF (fil C H m)) = _
      unfold pX0_empty_l2
      rw [le_y (by omega) (by omega) (by omega)]
  rw [hlp]; rfl
theorem flo_wf {b : Nat → Int} {fr to : Nat → Nat} (hf : Flo n m fr to L H b O) (h0 : ∀ a, a < m → 0 ≤ L a ∧ H a ≤ C a) : WF m C L H O := fun a ha => ⟨(h0 a ha).1, (hf.1 a ha).1, (hf.1 a ha).2, (h0 a ha).2⟩
theorem net_0 (fr to : Nat → Nat) (hO : ∀ a, a < m → O a = 0) (v : Nat) : net m fr to O v = 0 := by
  unfold net
  refine (sm_congr (g := fun _ => 0) (fun a ha => ?_)).trans (sm_zero m)
  rw [hO a ha]
  by_cases h1 : fr a = v <;> by_cases h2 : to a = v <;> simp [h1, h2]
/-- at rest, nothing leaves what is reached -/
theorem bt_far (h : NW n m F T C U) (hw : WF m C L H O) {d0 d cb : Nat → Int} (hB : BT (2 * m) n (rst (nfr F) (nfr T)) (ren (nfr F) (nfr T)) (rwt (npr U) O) (rok L H O) d0 d cb) (hd : ∀ v, v < n → d v = 1000000 ∨ (-20000 ≤ d v ∧ d v ≤ 20000)) : (∀ t, t < 2 * m → rok L H O t = true → d (rst (nfr F) (nfr T) t) < 1000000 → d (rst (nfr F) (nfr T) t) + rwt (npr U) O t < 1000000) ∧ (∀ t, t < 2 * m → rok L H O t = true → d (rst (nfr F) (nfr T) t) < 1000000 → d (ren (nfr F) (nfr T) t) < 1000000) := by
  have key : ∀ t, t < 2 * m → rok L H O t = true → d (rst (nfr F) (nfr T) t) < 1000000 → d (rst (nfr F) (nfr T) t) + rwt (npr U) O t < 1000000 := by
    intro t ht hok hlt
    have h1 := hd _ (nw_st h _ t ht hok).1
    have h2 := nw_w h hw t ht hok
    omega
  refine ⟨key, fun t ht hok hlt => ?_⟩
  have h3 := hB.1 t ht hok hlt
  have h4 := key t ht hok hlt
  omega
/-- the sum over a set of nodes that holds s and not t -/
theorem sm_st {s t : Nat} (hs : s < n) (R : Nat → Prop) (hR : ∀ v, Decidable (R v)) (h1 : R s) (h2 : ¬ R t) (x : Int) : sm (fun v => if R v then (if s = v then x else 0) - (if t = v then x else 0) else 0) n = x := by
  have : sm (fun v => if R v then (if s = v then x else 0) - (if t = v then x else 0) else 0) n = sm (fun v => if v = s then x else 0) n := by
    refine sm_congr (fun v _ => ?_)
    by_cases e1 : v = s
    · subst e1
      rw [if_pos h1, if_pos rfl]
      by_cases e2 : t = v
      · subst e2; exact absurd h1 h2
      · rw [if_neg e2]; omega
    · rw [if_neg e1, if_neg (show ¬ s = v from fun e => e1 e.symm)]
      by_cases e2 : t = v
      · subst e2; rw [if_neg h2]
      · rw [if_neg e2]; split <;> rfl
  rw [this, sm_one, if_pos hs]
/-- unreachable: more cannot be sent -/
theorem cut_dem (h : NW n m F T C U) {s t : Nat} (hs : s < n) {i A : Int} (hf : Flo n m (nfr F) (nfr T) L H (dem s t i) O) (R : Nat → Prop) (hc : ∀ q, q < 2 * m → rok L H O q = true → R (rst (nfr F) (nfr T) q) → R (ren (nfr F) (nfr T) q)) (h1 : R s) (h2 : ¬ R t) (hA : i < A) : NoFlo n m (nfr F) (nfr T) L H (dem s t A) := by
  intro g hg
  have hR : ∀ v, Decidable (R v) := fun v => Classical.propDecidable _
  have h3 := cut_le (n := n) (fun a ha => ⟨(nw_ft h a ha).1, (nw_ft h a ha).2.1⟩) R hR hg.1 hc (f := O)
  have h4 : sm (fun v => if R v then net m (nfr F) (nfr T) g v - net m (nfr F) (nfr T) O v else 0) n = sm (fun v => if R v then (if s = v then (A - i) else 0) - (if t = v then (A - i) else 0) else 0) n := by
    refine sm_congr (fun v hv => ?_)
    rw [hg.2 v hv, hf.2 v hv]
    unfold dem
    by_cases e0 : R v
    · rw [if_pos e0, if_pos e0]
      by_cases e1 : s = v <;> by_cases e2 : t = v <;> simp [e1, e2] <;> omega
    · rw [if_neg e0, if_neg e0]
  rw [h4, sm_st hs R hR h1 h2] at h3
  omega
/-- the demand is met, or it cannot be -/
theorem s_meet (h : NW n m F T C U) {d0 cb0 : Nat → Int} {s t : Nat} (hs : s < n) (ht : t < n) (hst : s ≠ t) {A : Nat} (hA : A ≤ 200) {N : Nat} (hN : 300 ≤ N) :
    (∃ f L' H' d cb : Nat → Int, pX0_meet N (iI n) (iI m) (iF F) (iF T) (iF C) (iF U) (iF O) (iF L) (iF H) (iF d0) (iF cb0) (iI s) (iI t) (iI A) = some (true, iF f, iF L', iF H', iF d, iF cb) ∧ (∀ a, a < m → L' a = 0 ∧ H' a = C a) ∧ Flo n m (nfr F) (nfr T) L' H' (dem s t A) f ∧ ∃ p, Pot m (nfr F) (nfr T) (npr U) L' H' f p) ∨
    (∃ f L' H' d cb : Nat → Int, pX0_meet N (iI n) (iI m) (iF F) (iF T) (iF C) (iF U) (iF O) (iF L) (iF H) (iF d0) (iF cb0) (iI s) (iI t) (iI A) = some (false, iF f, iF L', iF H', iF d, iF cb) ∧ ∀ A' : Int, (A : Int) ≤ A' → NoFlo n m (nfr F) (nfr T) (fun _ => 0) C (dem s t A')) := by
  have hn : 2 ≤ n ∧ n ≤ 8 := ⟨h.1, h.2.1⟩
  have hm : m ≤ 12 := h.2.2.1
  have hLH : ∀ a, a < m → fil (fun _ => 0) L m a = 0 ∧ fil C H m a = C a := fun a ha => ⟨fil_lt _ _ ha, fil_lt _ _ ha⟩
  generalize hL' : fil (fun _ => 0) L m = L' at hLH
  generalize hH' : fil C H m = H' at hLH
  have h0C : ∀ a, a < m → 0 ≤ L' a ∧ H' a ≤ C a := fun a ha => by rw [(hLH a ha).1, (hLH a ha).2]; exact ⟨Int.le_refl _, Int.le_refl _⟩
  let I : Nat → (Int32 × (Nat → Int32) × (Nat → Int32) × (Nat → Int32)) → Prop := fun k x => ∃ (i : Nat) (f d cb : Nat → Int), x = (iI i, iF f, iF d, iF cb) ∧ i + k = A + 1 ∧ i ≤ A ∧ Flo n m (nfr F) (nfr T) L' H' (dem s t i) f ∧ ∃ p, Pot m (nfr F) (nfr T) (npr U) L' H' f p
  let Post : ((Int32 × (Nat → Int32) × (Nat → Int32) × (Nat → Int32)) ⊕ (Bool × (Nat → Int32) × (Nat → Int32) × (Nat → Int32) × (Nat → Int32) × (Nat → Int32))) → Prop := fun r =>
    (∃ f d cb : Nat → Int, r = .inl (iI A, iF f, iF d, iF cb) ∧ Flo n m (nfr F) (nfr T) L' H' (dem s t A) f ∧ ∃ p, Pot m (nfr F) (nfr T) (npr U) L' H' f p) ∨
    (∃ f d cb : Nat → Int, r = .inr (false, iF f, iF L', iF H', iF d, iF cb) ∧ ∀ A' : Int, (A : Int) ≤ A' → NoFlo n m (nfr F) (nfr T) L' H' (dem s t A'))
  have hinit : I (A + 1) (0, iF (fil (fun _ => 0) O m), iF d0, iF cb0) := by
    have hz : ∀ a, a < m → fil (fun _ => 0) O m a = 0 := fun a ha => fil_lt _ _ ha
    refine ⟨0, _, _, _, rfl, by omega, by omega, ⟨fun a ha => ?_, fun v hv => ?_⟩, fun _ => 0, pot_of (fun a ha hl => ?_) (fun a ha hl => ?_)⟩
    · have := h.2.2.2.1 a ha
      rw [hz a ha, (hLH a ha).1, (hLH a ha).2]; omega
    · rw [net_0 _ _ hz]; unfold dem; by_cases e1 : s = v <;> by_cases e2 : t = v <;> simp [e1, e2]
    · have := h.2.2.2.1 a ha
      have := h.2.2.2.2.1 a ha 1 (by omega) (by omega)
      rw [hz a ha]
      show (0 : Int) ≤ 0 + npr U a 1
      omega
    · rw [hz a ha, (hLH a ha).1] at hl; omega
  obtain ⟨r, hr1, hr2⟩ := lp_inv (step := un4 (pX0_meet_l7 N (iF H') (iF L') (iI m) (iF C) (iF F) (iI n) (iF T) (iF U) (iI s) (iI t) (iI A))) I Post (by
    intro k x hI
    obtain ⟨i, f, d, cb, rfl, hk, hiA, hf, p, hp⟩ := hI
    have hw : WF m C L' H' f := flo_wf hf h0C
    show (∃ r, pX0_meet_l7 N (iF H') (iF L') (iI m) (iF C) (iF F) (iI n) (iF T) (iF U) (iI s) (iI t) (iI A) (iI i) (iF f) (iF d) (iF cb) = some (.inl r) ∧ Post r) ∨ (∃ s', pX0_meet_l7 N (iF H') (iF L') (iI m) (iF C) (iF F) (iI n) (iF T) (iF U) (iI s) (iI t) (iI A) (iI i) (iF f) (iF d) (iF cb) = some (.inr s') ∧ ∃ k', k' < k ∧ I k' s')
    unfold pX0_meet_l7
    by_cases hlt : i < A
    · rw [le_n (by omega) (by omega) (by omega)]
      obtain ⟨d1, cb1, m1, m2, m3⟩ := s_measureFrom h hw ⟨p, hp⟩ (d0 := d) (cb0 := cb) hs (N := N) (by omega)
      rw [m1, bs2]
      obtain ⟨far1, far2⟩ := bt_far h hw m2 m3
      obtain ⟨c0, ds0⟩ := bt_src0 h hs m2 m3 (nw_w h hw)
      by_cases hd : d1 t < 1000000
      · right
        obtain ⟨K, k1, k2, k3, k4, k5, k6, k7, k8, k9⟩ := aug_one (nw_ft h) h.2.2.2.2.2 (fun a ha => (h0C a ha).1) (fun a ha => (h0C a ha).2) hf hp m2 far1 ht
        have e := bt_src h m2 ht hd k3 k2
        obtain ⟨mu, hT⟩ := bt_tre h m2
        obtain ⟨u, u1, u2, u3, u4⟩ := s_sendOnWay h hw hT ht k1 k3 e c0 (lim := 1) (by omega) (by omega) (N := N) (by omega)
        have hu : u = 1 := by omega
        subst hu
        rw [zl1, u4, bs2, eq0_n (by omega) (by omega) (by omega)]
        refine ⟨_, rfl, k - 1, by omega, i + 1, _, _, _, by rw [iI_add]; rfl, by omega, by omega, flo_b k7 (fun v hv => ?_), k8⟩
        rw [e]
        unfold dem
        by_cases e1 : s = v <;> by_cases e2 : t = v <;> simp [e1, e2] <;> omega
      · left
        have hcb : cb1 t = -1 := by
          obtain ⟨-, mu, h2⟩ := m2
          rcases h2 t ht with ⟨g, -⟩ | ⟨q, g1, g2, g3, g4, g5, g6, -⟩
          · exact g
          · have := far1 q g1 g3 g5
            omega
        rw [zl1, s_sendOnWay0 hn hs ht (fun e => hst e.symm) hcb (by omega) (by omega) (by omega), bs2, eq0_y rfl]
        refine ⟨_, rfl, Or.inr ⟨f, d1, cb1, rfl, ?_⟩⟩
        exact fun A' hA' => cut_dem h hs hf (fun v => d1 v < 1000000) far2 (by show d1 s < 1000000; omega) hd (by omega)
    · left
      rw [le_y (by omega) (by omega) (by omega)]
      have e : i = A := by omega
      subst e
      exact ⟨_, rfl, Or.inl ⟨f, d, cb, rfl, hf, p, hp⟩⟩) N (A + 1) _ hinit (by omega)
  have hmeet : pX0_meet N (iI n) (iI m) (iF F) (iF T) (iF C) (iF U) (iF O) (iF L) (iF H) (iF d0) (iF cb0) (iI s) (iI t) (iI A) = (some r).bind (sel (un4 fun x4_12 cO_13 cD_14 cB_15 => some ((true, cO_13, iF L', iF H', cD_14, cB_15)))) := by
    unfold pX0_meet
    rw [s_empty hm (by omega), hL', hH']
    show (lp _ N _).bind _ = _
    rw [hr1]
  rcases hr2 with ⟨f, d, cb, rfl, hf, hp⟩ | ⟨f, d, cb, rfl, hno⟩
  · left
    exact ⟨f, L', H', d, cb, hmeet, hLH, hf, hp⟩
  · right
    refine ⟨f, L', H', d, cb, hmeet, fun A' hA' g hg => hno A' hA' g (flo_lh hg (fun a ha => ⟨(hLH a ha).1.symm, (hLH a ha).2.symm⟩))⟩
/-- the total price -/
theorem s_totalPrice (h : NW n m F T C U) (hf : ∀ a, a < m → 0 ≤ O a ∧ O a ≤ C a) {N : Nat} (hN : 100 ≤ N) : pX0_totalPrice N (iI m) (iF C) (iF U) (iF O) = some (iI (cst m (npr U) O)) := by
  have hm : m ≤ 12 := h.2.2.1
  unfold pX0_totalPrice
  have hlp : lp (un2 (pX0_totalPrice_l4 N (iF O) (iI m) (iF C) (iF U))) N (0, 0) = some (iI (cst m (npr U) O), iI m) := by
    refine lp_run (fun k : Nat => (iI (sm (fun a => CC (npr U) a (O a)) k), iI (k : Int))) _ m (fun k hk => ?_) ?_ (by omega)
    · show pX0_totalPrice_l4 N (iF O) (iI m) (iF C) (iF U) (iI (sm (fun a => CC (npr U) a (O a)) k)) (iI (k : Nat)) = _
      unfold pX0_totalPrice_l4
      have h1 := h.2.2.2.1 k hk
      have h2 := hf k hk
      rw [le_n (by omega) (by omega) (by omega)]
      have hin : lp (un2 (pX0_totalPrice_l17 (iF O) (iF C) (iF U) (iI (k : Nat)))) N (iI (sm (fun a => CC (npr U) a (O a)) k), 1) = some (iI (sm (fun a => CC (npr U) a (O a)) k + CC (npr U) k (O k)), iI ((O k).toNat + 1 : Nat)) := by
        rw [show (iI (sm (fun a => CC (npr U) a (O a)) k), (1 : Int32)) = (iI (sm (fun a => CC (npr U) a (O a)) k + sm (fun u => npr U k (u + 1)) 0), iI ((0 + 1 : Nat) : Int)) by rw [show sm (fun u => npr U k (u + 1)) 0 = 0 from rfl, Int.add_zero]; rfl]
        refine lp_run (fun j : Nat => (iI (sm (fun a => CC (npr U) a (O a)) k + sm (fun u => npr U k (u + 1)) j), iI ((j + 1 : Nat) : Int))) _ (O k).toNat (fun j hj => ?_) ?_ (by omega)
        · show pX0_totalPrice_l17 (iF O) (iF C) (iF U) (iI (k : Nat)) (iI (sm (fun a => CC (npr U) a (O a)) k + sm (fun u => npr U k (u + 1)) j)) (iI ((j + 1 : Nat) : Int)) = _
          unfold pX0_totalPrice_l17
          rw [rd_n (by omega) (by omega), bind_some, lt_n (by omega) (by omega) (by omega), s_unitPrice (by omega) (by omega) (by omega) (by omega), bind_some, iI_add, iI_s]
          rw [show sm (fun u => npr U k (u + 1)) (j + 1) = sm (fun u => npr U k (u + 1)) j + npr U k (j + 1) from rfl, Int.add_assoc]
        · show pX0_totalPrice_l17 (iF O) (iF C) (iF U) (iI (k : Nat)) (iI (sm (fun a => CC (npr U) a (O a)) k + sm (fun u => npr U k (u + 1)) (O k).toNat)) (iI (((O k).toNat + 1 : Nat) : Int)) = _
          unfold pX0_totalPrice_l17
          rw [rd_n (by omega) (by omega), bind_some, lt_y (by omega) (by omega) (by omega)]
          rfl
      rw [hin, iI_s]; rfl
    · show pX0_totalPrice_l4 N (iF O) (iI m) (iF C) (iF U) (iI (sm (fun a => CC (npr U) a (O a)) m)) (iI (m : Nat)) = _
      unfold pX0_totalPrice_l4
      rw [le_y (by omega) (by omega) (by omega)]
      rfl
  rw [hlp]; rfl
/-- the price of a unit more: of the demand with a unit more to a node, or none -/
theorem s_priceOfUnitMore (h : NW n m F T C U) {b : Nat → Int} {p : Nat → Int} (hLH : ∀ a, a < m → L a = 0 ∧ H a = C a) (hf : Flo n m (nfr F) (nfr T) L H b O) (hp : Pot m (nfr F) (nfr T) (npr U) L H O p) {d0 cb0 : Nat → Int} {s v : Nat} (hs : s < n) (hv : v < n) {N : Nat} (hN : 100 ≤ N) :
    ∃ (x : Int) (d cb : Nat → Int), pX0_priceOfUnitMore N (iI n) (iI m) (iF F) (iF T) (iF C) (iF U) (iF O) (iF L) (iF H) (iF d0) (iF cb0) (iI s) (iI v) = some (iI x, iF d, iF cb) ∧ (v = s → x = 0) ∧
      ((-20000 ≤ x ∧ x ≤ 20000 ∧ IsMin n m (nfr F) (nfr T) (npr U) (fun _ => 0) C (fun w => b w + (if s = w then 1 else 0) - (if v = w then 1 else 0)) (cst m (npr U) O + x)) ∨
       (x = -1 ∧ NoFlo n m (nfr F) (nfr T) (fun _ => 0) C (fun w => b w + (if s = w then 1 else 0) - (if v = w then 1 else 0)))) := by
  have hn : 2 ≤ n ∧ n ≤ 8 := ⟨h.1, h.2.1⟩
  have h0C : ∀ a, a < m → 0 ≤ L a ∧ H a ≤ C a := fun a ha => by rw [(hLH a ha).1, (hLH a ha).2]; exact ⟨Int.le_refl _, Int.le_refl _⟩
  have hw : WF m C L H O := flo_wf hf h0C
  obtain ⟨d1, cb1, m1, m2, m3⟩ := s_measureFrom h hw ⟨p, hp⟩ (d0 := d0) (cb0 := cb0) hs (N := N) hN
  obtain ⟨far1, far2⟩ := bt_far h hw m2 m3
  obtain ⟨c0, ds0⟩ := bt_src0 h hs m2 m3 (nw_w h hw)
  have hop : ∀ g, Flo n m (nfr F) (nfr T) L H b g → cst m (npr U) O ≤ cst m (npr U) g := fun g hg => opt_of_pot (fun a ha => ⟨(nw_ft h a ha).1, (nw_ft h a ha).2.1⟩) h.2.2.2.2.2 (fun a ha => (h0C a ha).1) (fun a ha => (h0C a ha).2) hf hg hp
  have hrun : pX0_priceOfUnitMore N (iI n) (iI m) (iF F) (iF T) (iF C) (iF U) (iF O) (iF L) (iF H) (iF d0) (iF cb0) (iI s) (iI v) = some (iI (if d1 v < 1000000 then d1 v else -1), iF d1, iF cb1) := by
    unfold pX0_priceOfUnitMore
    rw [m1]
    show (rd 8 (iF d1) (iI v)).bind _ = _
    have := m3 v hv
    rw [rd_n (by omega) (by omega), bind_some, zlF]
    by_cases hd : d1 v < 1000000
    · rw [le_n hd (by omega) (by omega), bind_some, if_pos hd]
    · rw [le_y (by omega) (by omega) (by omega), if_neg hd]; rfl
  refine ⟨_, d1, cb1, hrun, fun e => by rw [e, ds0]; rfl, ?_⟩
  by_cases hd : d1 v < 1000000
  · left
    rw [if_pos hd]
    obtain ⟨K, k1, k2, k3, k4, k5, k6, k7, ⟨p', k8⟩, k9⟩ := aug_one (nw_ft h) h.2.2.2.2.2 (fun a ha => (h0C a ha).1) (fun a ha => (h0C a ha).2) hf hp m2 far1 hv
    have e := bt_src h m2 hv hd k3 k2
    rw [e] at k7 k9
    rw [ds0, Int.sub_zero] at k9
    have hmin : ∀ g, Flo n m (nfr F) (nfr T) L H (fun w => b w + (if s = w then 1 else 0) - (if v = w then 1 else 0)) g → cst m (npr U) O + d1 v ≤ cst m (npr U) g := fun g hg => by
      rw [← k9]
      exact opt_of_pot (fun a ha => ⟨(nw_ft h a ha).1, (nw_ft h a ha).2.1⟩) h.2.2.2.2.2 (fun a ha => (h0C a ha).1) (fun a ha => (h0C a ha).2) k7 hg k8
    have := m3 v hv
    refine ⟨by omega, by omega, ⟨_, flo_lh k7 hLH, k9⟩, fun g hg => hmin g (flo_lh hg (fun a ha => ⟨(hLH a ha).1.symm, (hLH a ha).2.symm⟩))⟩
  · right
    rw [if_neg hd]
    refine ⟨rfl, fun g hg => ?_⟩
    have hg' : Flo n m (nfr F) (nfr T) L H (fun w => b w + (if s = w then 1 else 0) - (if v = w then 1 else 0)) g := flo_lh hg (fun a ha => ⟨(hLH a ha).1.symm, (hLH a ha).2.symm⟩)
    have hR : ∀ q, Decidable (d1 q < 1000000) := fun q => inferInstance
    have h3 := cut_le (n := n) (fun a ha => ⟨(nw_ft h a ha).1, (nw_ft h a ha).2.1⟩) (fun q => d1 q < 1000000) hR hg'.1 far2 (f := O)
    have h4 : sm (fun q => if d1 q < 1000000 then net m (nfr F) (nfr T) g q - net m (nfr F) (nfr T) O q else 0) n = sm (fun q => if d1 q < 1000000 then (if s = q then (1 : Int) else 0) - (if v = q then 1 else 0) else 0) n := by
      refine sm_congr (fun q hq => ?_)
      rw [hg'.2 q hq, hf.2 q hq]
      by_cases e0 : d1 q < 1000000
      · rw [if_pos e0, if_pos e0]; show b q + (if s = q then 1 else 0) - (if v = q then 1 else 0) - b q = _; omega
      · rw [if_neg e0, if_neg e0]
    rw [h4, sm_st hs (fun q => d1 q < 1000000) hR (by show d1 s < 1000000; omega) hd] at h3
    omega
end X0c
