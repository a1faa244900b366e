/-! rows of my own: units and arcs -/
section UNF
variable {n m : Nat} {F T C U τ : Nat → Int}
theorem sm_split (h : Nat → Int) (k : Nat) : ∀ e : Nat, sm h (k + e) = sm h k + sm (fun j => h (k + j)) e := by
  intro e
  induction e with
  | zero => show sm h k = sm h k + 0; omega
  | succ e ih =>
    show sm h (k + e) + h (k + e) = sm h k + (sm (fun j => h (k + j)) e + h (k + e))
    rw [ih]; omega
theorem sm_blk (h : Nat → Int) : ∀ m : Nat, sm h (15 * m) = sm (fun a => sm (fun j => h (15 * a + j)) 15) m := by
  intro m
  induction m with
  | zero => rfl
  | succ m ih =>
    rw [show 15 * (m + 1) = 15 * m + 15 by omega, sm_split, ih]
    rfl
def uf (τ : Nat → Int) (a : Nat) : Int := sm (fun j => τ (15 * a + j)) 15
theorem unet_is (τ : Nat → Int) (v : Nat) : unet m F T τ v = net m (nfr F) (nfr T) (uf τ) v := by
  unfold unet net
  rw [sm_blk]
  refine sm_congr (fun a _ => ?_)
  have e : sm (fun j => (if nfr F ((15 * a + j) / 15) = v then τ (15 * a + j) else 0) - (if nfr T ((15 * a + j) / 15) = v then τ (15 * a + j) else 0)) 15 = sm (fun j => (if nfr F a = v then τ (15 * a + j) else 0) - (if nfr T a = v then τ (15 * a + j) else 0)) 15 := by
    refine sm_congr (fun j hj => ?_)
    rw [show (15 * a + j) / 15 = a by omega]
  show sm (fun j => (if nfr F ((15 * a + j) / 15) = v then τ (15 * a + j) else 0) - (if nfr T ((15 * a + j) / 15) = v then τ (15 * a + j) else 0)) 15 = _
  rw [e, sm_sub]
  have k : ∀ P : Prop, ∀ _ : Decidable P, sm (fun j => if P then τ (15 * a + j) else 0) 15 = if P then uf τ a else 0 := by
    intro P hP
    by_cases c : P
    · rw [if_pos c]
      exact sm_congr (fun j _ => if_pos c)
    · rw [if_neg c]
      exact (sm_congr (fun j _ => if_neg c)).trans (sm_zero 15)
  rw [k, k]
def gam (g : Nat → Int) (u : Nat) : Int := if ((u % 15 : Nat) : Int) < g (u / 15) then 1 else 0
theorem sm_first (h : Nat → Int) {x : Int} (hx : 0 ≤ x) : ∀ k : Nat, sm (fun j => (if (j : Int) < x then 1 else 0) * h j) k = sm h (if x.toNat ≤ k then x.toNat else k) := by
  intro k
  induction k with
  | zero => rw [show (if x.toNat ≤ 0 then x.toNat else 0) = 0 by split <;> omega]; rfl
  | succ k ih =>
    show sm _ k + (if (k : Int) < x then 1 else 0) * h k = _
    rw [ih]
    by_cases c : (k : Int) < x
    · rw [if_pos c, show (if x.toNat ≤ k then x.toNat else k) = k by split <;> omega, show (if x.toNat ≤ k + 1 then x.toNat else k + 1) = k + 1 by split <;> omega, Int.one_mul]
      rfl
    · rw [if_neg c, Int.zero_mul, if_pos (by omega), if_pos (by omega), Int.add_zero]
theorem gam_at (g : Nat → Int) {a j : Nat} (hj : j < 15) : gam g (15 * a + j) = if (j : Int) < g a then 1 else 0 := by
  unfold gam
  rw [show (15 * a + j) % 15 = j by omega, show (15 * a + j) / 15 = a by omega]
theorem sm_one' : ∀ k : Nat, sm (fun _ => (1 : Int)) k = k := by
  intro k
  induction k with
  | zero => rfl
  | succ k ih => show sm _ k + 1 = _; rw [ih]; omega
theorem gam_uf {g : Nat → Int} {a : Nat} (h0 : 0 ≤ g a) (h1 : g a ≤ 15) : uf (gam g) a = g a := by
  unfold uf
  have e : sm (fun j => gam g (15 * a + j)) 15 = sm (fun j => (if (j : Int) < g a then 1 else 0) * 1) 15 := sm_congr (fun j hj => by rw [gam_at g hj, Int.mul_one])
  rw [e, sm_first (fun _ => 1) h0, if_pos (by omega), sm_one']
  omega
theorem gam_ok {g : Nat → Int} (hg : ∀ a, a < m → 0 ≤ g a ∧ g a ≤ C a) : UOK m C (gam g) := by
  intro u hu
  unfold gam
  have := hg (u / 15) (by omega)
  by_cases c : ((u % 15 : Nat) : Int) < g (u / 15)
  · rw [if_pos c]
    exact ⟨Or.inr rfl, fun _ => decide_eq_true (by omega)⟩
  · rw [if_neg c]
    exact ⟨Or.inl rfl, fun e => by omega⟩
theorem gam_uc (h : NW n m F T C U) {g : Nat → Int} (hg : ∀ a, a < m → 0 ≤ g a ∧ g a ≤ C a) : uc m U (gam g) = cst m (npr U) g := by
  unfold uc cst
  rw [sm_blk]
  refine sm_congr (fun a ha => ?_)
  have hC := h.2.2.2.1 a ha
  have hga := hg a ha
  have e : sm (fun j => gam g (15 * a + j) * U (15 * a + j)) 15 = sm (fun j => (if (j : Int) < g a then 1 else 0) * U (15 * a + j)) 15 := sm_congr (fun j hj => by rw [gam_at g hj])
  show sm (fun j => gam g (15 * a + j) * U (15 * a + j)) 15 = _
  rw [e, sm_first (fun j => U (15 * a + j)) hga.1, if_pos (by omega)]
  unfold CC
  exact sm_congr (fun j _ => by show U (15 * a + j) = U (15 * a + (j + 1) - 1); rfl)
theorem net_congr {fr to : Nat → Nat} {f g : Nat → Int} (h : ∀ a, a < m → f a = g a) (v : Nat) : net m fr to f v = net m fr to g v := by
  unfold net
  exact sm_congr (fun a ha => by rw [h a ha])
theorem gam_net (h : NW n m F T C U) {g : Nat → Int} (hg : ∀ a, a < m → 0 ≤ g a ∧ g a ≤ C a) (v : Nat) : unet m F T (gam g) v = net m (nfr F) (nfr T) g v := by
  rw [unet_is]
  exact net_congr (fun a ha => gam_uf (hg a ha).1 (by have := h.2.2.2.1 a ha; have := hg a ha; omega)) v
theorem uf_bd (h : NW n m F T C U) (hτ : UOK m C τ) {a : Nat} (ha : a < m) : 0 ≤ uf τ a ∧ uf τ a ≤ C a := by
  have hC := h.2.2.2.1 a ha
  have h1 : ∀ j, j < 15 → 0 ≤ τ (15 * a + j) ∧ τ (15 * a + j) ≤ (if (j : Int) < C a then 1 else 0) * 1 := by
    intro j hj
    have := hτ (15 * a + j) (by omega)
    by_cases c : (j : Int) < C a
    · rw [if_pos c]; omega
    · rw [if_neg c]
      rcases this.1 with g | g
      · omega
      · have := of_decide_eq_true (this.2 g)
        rw [show (15 * a + j) % 15 = j by omega, show (15 * a + j) / 15 = a by omega] at this
        exact absurd this c
  refine ⟨sm_nonneg (fun j hj => (h1 j hj).1), ?_⟩
  have := sm_le (n := 15) (fun j hj => (h1 j hj).2)
  rw [sm_first (fun _ => 1) (by omega), if_pos (by omega), sm_one'] at this
  unfold uf
  omega
/-- the cheapest of as many units are the first -/
theorem first_cheap (h : NW n m F T C U) (hτ : UOK m C τ) {a : Nat} (ha : a < m) : CC (npr U) a (uf τ a) ≤ sm (fun j => τ (15 * a + j) * U (15 * a + j)) 15 := by
  have hC := h.2.2.2.1 a ha
  obtain ⟨b1, b2⟩ := uf_bd h hτ ha
  obtain ⟨k, hk⟩ : ∃ k : Nat, uf τ a = (k : Int) := ⟨(uf τ a).toNat, by omega⟩
  have e1 : CC (npr U) a (uf τ a) = sm (fun j => (if (j : Int) < (k : Int) then 1 else 0) * U (15 * a + j)) 15 := by
    rw [sm_first (fun j => U (15 * a + j)) (by omega), if_pos (by omega), hk]
    unfold CC
    exact sm_congr (fun j _ => rfl)
  obtain ⟨q, hq⟩ : ∃ q : Int, q = if k = 0 then 0 else U (15 * a + k - 1) := ⟨_, rfl⟩
  have hsrt := h.2.2.2.2.2 a ha
  have hpr : ∀ u : Nat, 1 ≤ u → npr U a u = U (15 * a + u - 1) := fun u _ => rfl
  have hle : sm (fun j => q * τ (15 * a + j) - q * (if (j : Int) < (k : Int) then 1 else 0)) 15 ≤ sm (fun j => τ (15 * a + j) * U (15 * a + j) - (if (j : Int) < (k : Int) then 1 else 0) * U (15 * a + j)) 15 := by
    refine sm_le (fun j hj => ?_)
    have hu := hτ (15 * a + j) (by omega)
    by_cases c : (j : Int) < (k : Int)
    · rw [if_pos c]
      have hjk : U (15 * a + j) ≤ q := by
        rw [hq, if_neg (by omega)]
        have := hsrt (j + 1) k (by omega) (by omega) (by omega)
        rw [hpr _ (by omega), hpr _ (by omega), show 15 * a + (j + 1) - 1 = 15 * a + j by omega] at this
        exact this
      rcases hu.1 with g | g <;> rw [g] <;> omega
    · rw [if_neg c]
      rcases hu.1 with g | g
      · rw [g]; omega
      · have hd := of_decide_eq_true (hu.2 g)
        rw [show (15 * a + j) % 15 = j by omega, show (15 * a + j) / 15 = a by omega] at hd
        have hjk : q ≤ U (15 * a + j) := by
          rw [hq]
          by_cases c0 : k = 0
          · rw [if_pos c0]
            have := u_pr h (u := 15 * a + j) (by omega) (hu.2 g)
            omega
          · rw [if_neg c0]
            have := hsrt k (j + 1) (by omega) (by omega) (by omega)
            rw [hpr _ (by omega), hpr _ (by omega), show 15 * a + (j + 1) - 1 = 15 * a + j by omega] at this
            exact this
        rw [g]; omega
  rw [sm_sub, sm_sub, sm_mul, sm_mul] at hle
  have e2 : sm (fun j => if (j : Int) < (k : Int) then (1 : Int) else 0) 15 = k := by
    have := sm_first (fun _ => 1) (x := (k : Int)) (by omega) 15
    rw [if_pos (by omega), sm_one'] at this
    rw [← (show sm (fun j => (if (j : Int) < (k : Int) then (1 : Int) else 0) * 1) 15 = sm (fun j => if (j : Int) < (k : Int) then (1 : Int) else 0) 15 from sm_congr (fun j _ => Int.mul_one _)), this]
    omega
  have e3 : sm (fun j => τ (15 * a + j)) 15 = k := hk
  rw [e2, e3] at hle
  rw [e1]
  omega
theorem arc_cheap (h : NW n m F T C U) (hτ : UOK m C τ) : cst m (npr U) (uf τ) ≤ uc m U τ := by
  unfold cst uc
  rw [sm_blk]
  exact sm_le (fun a ha => first_cheap h hτ ha)
theorem uflo (h : NW n m F T C U) {b : Nat → Int} (hτ : UOK m C τ) (hb : ∀ v, v < n → unet m F T τ v = b v) : Flo n m (nfr F) (nfr T) (fun _ => 0) C b (uf τ) := ⟨fun a ha => uf_bd h hτ ha, fun v hv => by rw [← unet_is]; exact hb v hv⟩
theorem upot_opt (h : NW n m F T C U) {b γ : Nat → Int} (hτ : UOK m C τ) (hb : ∀ v, v < n → unet m F T τ v = b v) (hγ : UOK m C γ) (hc : ∀ v, v < n → unet m F T γ v = b v) (hp : UPot m F T C U τ) : uc m U τ ≤ uc m U γ := by
  obtain ⟨p, hp⟩ := hp
  have hft : ∀ u, u < 15 * m → nfr F (u / 15) < n ∧ nfr T (u / 15) < n := fun u hu => ⟨(nw_ft h (u / 15) (by omega)).1, (nw_ft h (u / 15) (by omega)).2.1⟩
  have f1 : Flo n (15 * m) (fun u => nfr F (u / 15)) (fun u => nfr T (u / 15)) (fun _ => 0) (fun _ => 1) b τ := ⟨fun u hu => by have := (hτ u hu).1; dsimp only; omega, hb⟩
  have f2 : Flo n (15 * m) (fun u => nfr F (u / 15)) (fun u => nfr T (u / 15)) (fun _ => 0) (fun _ => 1) b γ := ⟨fun u hu => by have := (hγ u hu).1; dsimp only; omega, hc⟩
  have hz := pot_zero hft f1 f2 p
  have hle : sm (fun u => (γ u - τ u) * (p (nfr T (u / 15)) - p (nfr F (u / 15)))) (15 * m) ≤ sm (fun u => γ u * U u - τ u * U u) (15 * m) := by
    refine sm_le (fun u hu => ?_)
    have h1 := hτ u hu
    have h2 := hγ u hu
    rcases h1.1 with a | a <;> rcases h2.1 with b | b
    · rw [a, b]; omega
    · have := hp u hu (h2.2 b)
      unfold uen ust uwt at this
      rw [if_pos a, if_pos a, if_pos a] at this
      rw [a, b]; omega
    · have := hp u hu (h1.2 a)
      unfold uen ust uwt at this
      rw [if_neg (by omega), if_neg (by omega), if_neg (by omega)] at this
      rw [a, b]; omega
    · rw [a, b]; omega
  rw [hz, sm_sub] at hle
  unfold uc
  omega
theorem uc_bd (h : NW n m F T C U) (hτ : UOK m C τ) : 0 ≤ uc m U τ ∧ uc m U τ ≤ 17820 := by
  have hm := h.2.2.1
  have hb : ∀ u, u < 15 * m → 0 ≤ τ u * U u ∧ τ u * U u ≤ 99 := by
    intro u hu
    have h1 := hτ u hu
    rcases h1.1 with a | a
    · rw [a]; omega
    · have := u_pr h hu (h1.2 a)
      rw [a]; omega
  refine ⟨sm_nonneg (fun u hu => (hb u hu).1), ?_⟩
  have := sm_le (n := 15 * m) (f := fun u => τ u * U u) (g := fun _ => 99) (fun u hu => (hb u hu).2)
  rw [sm_const] at this
  unfold uc
  omega
/-- what stands at the end is cheapest -/
theorem umin (h : NW n m F T C U) {b : Nat → Int} (hτ : UOK m C τ) (hb : ∀ v, v < n → unet m F T τ v = b v) (hp : UPot m F T C U τ ∨ uc m U τ ≤ 0) : IsMin n m (nfr F) (nfr T) (npr U) (fun _ => 0) C b (uc m U τ) := by
  have hall : ∀ g, Flo n m (nfr F) (nfr T) (fun _ => 0) C b g → uc m U τ ≤ cst m (npr U) g := by
    intro g hg
    rw [← gam_uc h hg.1]
    rcases hp with hp | hp
    · exact upot_opt h hτ hb (gam_ok hg.1) (fun v hv => by rw [gam_net h hg.1]; exact hg.2 v hv) hp
    · have := uc_bd h (gam_ok (m := m) (C := C) hg.1)
      omega
  have hf := uflo h hτ hb
  refine ⟨⟨uf τ, hf, ?_⟩, hall⟩
  have := hall _ hf
  have := arc_cheap h hτ
  omega
theorem u_noflo (h : NW n m F T C U) {s t : Nat} (hs : s < n) {k A : Int} (hτ : UOK m C τ) (hb : ∀ v, v < n → unet m F T τ v = dem s t k v) {R : Nat → Prop} (h1 : R s) (h2 : ¬ R t) (hR : ∀ u, u < 15 * m → uok C u = true → R (ust F T τ u) → R (uen F T τ u)) (hk : k < A) : NoFlo n m (nfr F) (nfr T) (fun _ => 0) C (dem s t A) := by
  intro g hg
  have hft : ∀ u, u < 15 * m → nfr F (u / 15) < n ∧ nfr T (u / 15) < n := fun u hu => ⟨(nw_ft h (u / 15) (by omega)).1, (nw_ft h (u / 15) (by omega)).2.1⟩
  have hγ := gam_ok (m := m) (C := C) hg.1
  have hRd : ∀ v, Decidable (R v) := fun v => Classical.propDecidable _
  have hcut := cut_le (n := n) (m := 15 * m) (fr := fun u => nfr F (u / 15)) (to := fun u => nfr T (u / 15)) (lo := fun _ => 0) (hi := fun u => if uok C u = true then 1 else 0) (f := τ) (g := gam g) hft R hRd (fun u hu => by
      have := hγ u hu
      by_cases c : uok C u = true
      · rw [if_pos c]; omega
      · rw [if_neg c]
        rcases this.1 with a | a
        · omega
        · exact absurd (this.2 a) c)
    (fun q hq ho hr => by
      have h01 := hτ (q / 2) (by omega)
      by_cases e : q % 2 = 0
      · have hlt := (rok_e e).mp ho
        rw [rst_e e] at hr
        rw [ren_e e]
        by_cases c : uok C (q / 2) = true
        · rw [if_pos c] at hlt
          have t0 : τ (q / 2) = 0 := by omega
          have := hR (q / 2) (by omega) c
          unfold ust uen at this
          rw [if_pos t0, if_pos t0] at this
          exact this hr
        · rw [if_neg c] at hlt; omega
      · have hlt := (rok_o e).mp ho
        rw [rst_o e] at hr
        rw [ren_o e]
        have t1 : τ (q / 2) = 1 := by omega
        have := hR (q / 2) (by omega) (h01.2 t1)
        unfold ust uen at this
        rw [if_neg (by omega), if_neg (by omega)] at this
        exact this hr)
  have e : sm (fun v => if R v then net (15 * m) (fun u => nfr F (u / 15)) (fun u => nfr T (u / 15)) (gam g) v - net (15 * m) (fun u => nfr F (u / 15)) (fun u => nfr T (u / 15)) τ v else 0) n = sm (fun v => if R v then (if s = v then A - k else 0) - (if t = v then A - k else 0) else 0) n := by
    refine sm_congr (fun v hv => ?_)
    have a1 : net (15 * m) (fun u => nfr F (u / 15)) (fun u => nfr T (u / 15)) (gam g) v = dem s t A v := (gam_net h hg.1 v).trans (hg.2 v hv)
    have a2 : net (15 * m) (fun u => nfr F (u / 15)) (fun u => nfr T (u / 15)) τ v = dem s t k v := hb v hv
    rw [a1, a2]
    unfold dem
    by_cases c : R v
    · rw [if_pos c, if_pos c]
      by_cases c1 : s = v <;> by_cases c2 : t = v <;> simp only [c1, c2, if_true, if_false] <;> omega
    · rw [if_neg c, if_neg c]
  rw [e, sm_st hs R hRd h1 h2] at hcut
  omega
theorem s3_price (h : NW n m F T C U) (hτ : UOK m C τ) {N : Nat} (hN : 100 ≤ N) : pX3_priceOfTaken N (iI m) (iF C) (iF U) (iF τ) = some (iI (uc m U τ)) := by
  have hm := h.2.2.1
  have harc : ∀ (a : Nat) (x : Int), a < m → lp (un2 (pX3_priceOfTaken_l17 (iF C) (iF U) (iF τ) (iI a))) N (iI x, 1) = some (iI (x + sm (fun j => τ (15 * a + j) * U (15 * a + j)) 15), iI (((C a).toNat + 1 : Nat) : Int)) := by
    intro a x ha
    have hC := h.2.2.2.1 a ha
    have hrest : sm (fun j => τ (15 * a + j) * U (15 * a + j)) 15 = sm (fun j => τ (15 * a + j) * U (15 * a + j)) (C a).toNat := by
      have e : 15 = (C a).toNat + (15 - (C a).toNat) := by omega
      have e2 := sm_split (fun j => τ (15 * a + j) * U (15 * a + j)) (C a).toNat (15 - (C a).toNat)
      rw [← e] at e2
      rw [e2]
      have e3 : sm (fun j => (fun j => τ (15 * a + j) * U (15 * a + j)) ((C a).toNat + j)) (15 - (C a).toNat) = 0 := by
        refine (sm_congr (fun j hj => ?_)).trans (sm_zero _)
        have hu := hτ (15 * a + ((C a).toNat + j)) (by omega)
        rcases hu.1 with g | g
        · dsimp only; rw [g]; omega
        · have hd := of_decide_eq_true (hu.2 g)
          rw [show (15 * a + ((C a).toNat + j)) % 15 = (C a).toNat + j by omega, show (15 * a + ((C a).toNat + j)) / 15 = a by omega] at hd
          omega
      rw [e3]; omega
    rw [hrest]
    have e0 : (iI x, (1 : Int32)) = (iI (x + sm (fun j => τ (15 * a + j) * U (15 * a + j)) 0), iI ((0 + 1 : Nat) : Int)) := by
      show _ = (iI (x + 0), _)
      rw [Int.add_zero]; rfl
    rw [e0]
    refine lp_run (fun k : Nat => (iI (x + sm (fun j => τ (15 * a + j) * U (15 * a + j)) k), iI ((k + 1 : Nat) : Int))) _ (C a).toNat (fun k hk => ?_) ?_ (by omega)
    · show pX3_priceOfTaken_l17 (iF C) (iF U) (iF τ) (iI a) (iI (x + sm (fun j => τ (15 * a + j) * U (15 * a + j)) k)) (iI ((k + 1 : Nat) : Int)) = _
      have hu := hτ (15 * a + k) (by omega)
      have idx : (iI a * 15 + iI ((k + 1 : Nat) : Int)) - 1 = iI ((15 * a + k : Nat) : Int) := by
        rw [zl15, zl1, iI_mul, iI_add, iI_sub]; congr 1; omega
      unfold pX3_priceOfTaken_l17
      rw [rd_n (by omega) (by omega), bind_some, lt_n (by omega) (by omega) (by omega), idx, rd_n (by omega) (by omega), bind_some]
      show _ = some (Sum.inr (iI (x + (sm (fun j => τ (15 * a + j) * U (15 * a + j)) k + τ (15 * a + k) * U (15 * a + k))), _))
      rcases hu.1 with g | g
      · rw [eq0_y g, iI_s, g, Int.zero_mul, Int.add_zero]
      · rw [eq0_n (by omega) (by omega) (by omega), s_unitPrice (by omega) (by omega) (by omega) (by omega), bind_some, iI_add, iI_s, g]
        refine congrArg (fun z => some (Sum.inr (z, iI ((k + 1 + 1 : Nat) : Int)))) ?_
        show iI (_ + U (15 * a + (k + 1) - 1)) = _
        rw [show 15 * a + (k + 1) - 1 = 15 * a + k by omega, Int.one_mul, Int.add_assoc]
    · show pX3_priceOfTaken_l17 (iF C) (iF U) (iF τ) (iI a) _ (iI (((C a).toNat + 1 : Nat) : Int)) = _
      unfold pX3_priceOfTaken_l17
      rw [rd_n (by omega) (by omega), bind_some, lt_y (by omega) (by omega) (by omega)]
  unfold pX3_priceOfTaken uc
  rw [sm_blk]
  have hlp : lp (un2 (pX3_priceOfTaken_l4 N (iI m) (iF C) (iF U) (iF τ))) N (0, 0) = some (iI (sm (fun a => sm (fun j => τ (15 * a + j) * U (15 * a + j)) 15) m), iI m) := by
    have e0 : ((0 : Int32), (0 : Int32)) = (iI (sm (fun a => sm (fun j => τ (15 * a + j) * U (15 * a + j)) 15) 0), iI ((0 : Nat) : Int)) := rfl
    rw [e0]
    refine lp_run (fun a : Nat => (iI (sm (fun a => sm (fun j => τ (15 * a + j) * U (15 * a + j)) 15) a), iI (a : Int))) _ m (fun a ha => ?_) ?_ (by omega)
    · show pX3_priceOfTaken_l4 N (iI m) (iF C) (iF U) (iF τ) (iI (sm (fun a => sm (fun j => τ (15 * a + j) * U (15 * a + j)) 15) a)) (iI a) = _
      unfold pX3_priceOfTaken_l4
      rw [le_n (by omega) (by omega) (by omega), harc a _ ha, bs2, iI_s]
      rfl
    · show pX3_priceOfTaken_l4 _ _ _ _ _ _ _ = _
      unfold pX3_priceOfTaken_l4
      rw [le_y (by omega) (by omega) (by omega)]
  rw [hlp, bs2]
theorem s3_circles (h : NW n m F T C U) {b : Nat → Int} (hτ : UOK m C τ) (hb : ∀ v, v < n → unet m F T τ v = b v) {D0 B0 : Nat → Int} {N : Nat} (hN : 20000 ≤ N) :
    ∃ τ' d cb : Nat → Int, pX3_takeOutCircles N (iI n) (iI m) (iF F) (iF T) (iF C) (iF U) (iF τ) (iF D0) (iF B0) = some (iF τ', iF d, iF cb) ∧ UOK m C τ' ∧ (∀ v, v < n → unet m F T τ' v = b v) ∧ (UPot m F T C U τ' ∨ uc m U τ' ≤ 0) := by
  have hlp := lp_inv (step := un5 (pX3_takeOutCircles_l4 N (iI m) (iF C) (iF F) (iI n) (iF T) (iF U)))
    (fun k s => ∃ (fg : Int) (x : Nat) (τ' d cb : Nat → Int), s = (iI fg, iI (x : Int), iF τ', iF d, iF cb) ∧ x ≤ 17820 ∧ k = 17820 - x ∧ UOK m C τ' ∧ (∀ v, v < n → unet m F T τ' v = b v) ∧ uc m U τ' + x ≤ 17820 + (if fg = 0 then 1 else 0) ∧ (fg = 1 ∨ (fg = 0 ∧ UPot m F T C U τ')))
    (fun r => ∃ (f x : Int32) (τ' d cb : Nat → Int), r = (f, x, iF τ', iF d, iF cb) ∧ UOK m C τ' ∧ (∀ v, v < n → unet m F T τ' v = b v) ∧ (UPot m F T C U τ' ∨ uc m U τ' ≤ 0))
    (fun k s hI => by
      obtain ⟨fg, x, τ', d, cb, rfl, hx, rfl, h1, h2, h3, h4⟩ := hI
      by_cases c : x = 17820
      · left
        subst c
        refine ⟨(iI fg, iI ((17820 : Nat) : Int), iF τ', iF d, iF cb), ?_, _, _, τ', d, cb, rfl, h1, h2, ?_⟩
        · show pX3_takeOutCircles_l4 N (iI m) (iF C) (iF F) (iI n) (iF T) (iF U) (iI fg) (iI ((17820 : Nat) : Int)) (iF τ') (iF d) (iF cb) = _
          unfold pX3_takeOutCircles_l4
          rw [if_pos (show (17820 : Int32) ≤ iI ((17820 : Nat) : Int) from Int32.le_refl _)]
        · rcases h4 with g | g
          · right; rw [if_neg (by omega)] at h3; omega
          · exact Or.inl g.2
      · have hle : ∀ α : Type, ∀ y z : α, (if (17820 : Int32) ≤ iI (x : Int) then y else z) = z := fun α y z => le_n (a := 17820) (by omega) (by omega) (by omega)
        rcases h4 with g | g
        · right
          rcases s3_circle h h1 (D0 := d) (B0 := cb) (N := N) (by omega) with ⟨τ2, d2, cb2, e, f1, f2, f3⟩ | ⟨d2, cb2, e, f1⟩
          · refine ⟨(iI 1, iI ((x + 1 : Nat) : Int), iF τ2, iF d2, iF cb2), ?_, 17820 - (x + 1), by omega, 1, x + 1, τ2, d2, cb2, rfl, by omega, rfl, f1, fun v hv => by rw [f2 v]; exact h2 v hv, ?_, Or.inl rfl⟩
            · show pX3_takeOutCircles_l4 N (iI m) (iF C) (iF F) (iI n) (iF T) (iF U) (iI fg) (iI x) (iF τ') (iF d) (iF cb) = _
              unfold pX3_takeOutCircles_l4
              rw [hle, g, eq0_n (by omega) (by omega) (by omega), e, bs4, iI_s]
              rfl
            · rw [if_neg (by omega)] at h3 ⊢; omega
          · refine ⟨(iI 0, iI ((x + 1 : Nat) : Int), iF τ', iF d2, iF cb2), ?_, 17820 - (x + 1), by omega, 0, x + 1, τ', d2, cb2, rfl, by omega, rfl, h1, h2, ?_, Or.inr ⟨rfl, f1⟩⟩
            · show pX3_takeOutCircles_l4 N (iI m) (iF C) (iF F) (iI n) (iF T) (iF U) (iI fg) (iI x) (iF τ') (iF d) (iF cb) = _
              unfold pX3_takeOutCircles_l4
              rw [hle, g, eq0_n (by omega) (by omega) (by omega), e, bs4, iI_s]
              rfl
            · rw [if_neg (by omega)] at h3; rw [if_pos rfl]; omega
        · left
          refine ⟨(iI fg, iI (x : Int), iF τ', iF d, iF cb), ?_, _, _, τ', d, cb, rfl, h1, h2, Or.inl g.2⟩
          show pX3_takeOutCircles_l4 N (iI m) (iF C) (iF F) (iI n) (iF T) (iF U) (iI fg) (iI x) (iF τ') (iF d) (iF cb) = _
          unfold pX3_takeOutCircles_l4
          rw [hle, eq0_y g.1])
    N 17820 (iI 1, iI ((0 : Nat) : Int), iF τ, iF D0, iF B0) ⟨1, 0, τ, D0, B0, rfl, by omega, rfl, hτ, hb, by have := uc_bd h hτ; rw [if_neg (by omega)]; omega, Or.inl rfl⟩ (by omega)
  obtain ⟨r, hr, f, x, τ', d, cb, rfl, f1, f2, f3⟩ := hlp
  refine ⟨τ', d, cb, ?_, f1, f2, f3⟩
  unfold pX3_takeOutCircles
  have hr' : lp (un5 (pX3_takeOutCircles_l4 N (iI m) (iF C) (iF F) (iI n) (iF T) (iF U))) N ((1 : Int32), (0 : Int32), iF τ, iF D0, iF B0) = _ := hr
  rw [hr', bs5]
theorem x4_circles (h : NW n m F T C U) {T0 D0 B0 : Nat → Int} {s t : Nat} (hs : s < n) (ht : t < n) (hst : s ≠ t) {A : Nat} (hA : A ≤ 200) {N : Nat} (hN : 20000 ≤ N) :
    ∃ (c : Int) (τ d cb : Nat → Int), pX4_costByCircles N (iI s) (iI t) (iI A) (iI n) (iI m) (iF F) (iF T) (iF C) (iF U) (iF T0) (iF D0) (iF B0) = some (iI c, iF τ, iF d, iF cb) ∧
      ((0 ≤ c ∧ c ≤ 20000 ∧ IsMin n m (nfr F) (nfr T) (npr U) (fun _ => 0) C (dem s t A) c) ∨ (c = -1 ∧ NoFlo n m (nfr F) (nfr T) (fun _ => 0) C (dem s t A))) := by
  have hm := h.2.2.1
  let t0 : Nat → Int := fil (fun _ => 0) T0 180
  have hz : ∀ u, u < 15 * m → t0 u = 0 := fun u hu => fil_lt _ _ (by omega)
  have ht0 : UOK m C t0 := fun u hu => ⟨Or.inl (hz u hu), fun e => by rw [hz u hu] at e; omega⟩
  have hn0 : ∀ v, v < n → unet m F T t0 v = dem s t ((0 : Nat) : Int) v := by
    intro v hv
    have : unet m F T t0 v = 0 := net_0 _ _ hz v
    rw [this]
    unfold dem
    split <;> split <;> rfl
  have hini : lp (un2 pX3_leastPrice_l3) N (0, iF T0) = some (iI 180, iF t0) := by
    rw [show ((0 : Int32), iF T0) = (iI ((0 : Nat) : Int), iF (fil (fun _ => 0) T0 0)) by rw [fil_0]; rfl]
    refine lp_run (fun k : Nat => (iI (k : Int), iF (fil (fun _ => 0) T0 k))) _ 180 (fun k hk => ?_) ?_ (by omega)
    · show pX3_leastPrice_l3 (iI (k : Nat)) (iF (fil (fun _ => 0) T0 k)) = _
      unfold pX3_leastPrice_l3
      rw [zl180, le_n (by omega) (by omega) (by omega), zl0, wr_n (by omega) (by omega), bind_some]
      rw [show (0 : Int) = (fun _ : Nat => (0 : Int)) k from rfl, fil_s, iI_s]
    · show pX3_leastPrice_l3 (iI ((180 : Nat) : Int)) _ = _
      unfold pX3_leastPrice_l3
      rw [zl180, le_y (by omega) (by omega) (by omega)]
      rfl
  have hlp := lp_inv (step := un4 (pX3_leastPrice_l28 N (iI m) (iF C) (iF F) (iI n) (iF T) (iF U) (iI s) (iI t) (iI A)))
    (fun k q => ∃ (x : Nat) (τ d cb : Nat → Int), q = (iI (x : Int), iF τ, iF d, iF cb) ∧ x ≤ A ∧ k = A - x ∧ UOK m C τ ∧ ∀ v, v < n → unet m F T τ v = dem s t x v)
    (fun r => (∃ (τ d cb : Nat → Int), r = .inl (iI A, iF τ, iF d, iF cb) ∧ UOK m C τ ∧ ∀ v, v < n → unet m F T τ v = dem s t A v) ∨ (∃ (τ d cb : Nat → Int), r = .inr (-1, iF τ, iF d, iF cb) ∧ NoFlo n m (nfr F) (nfr T) (fun _ => 0) C (dem s t A)))
    (fun k q hI => by
      obtain ⟨x, τ, d, cb, rfl, hx, rfl, h1, h2⟩ := hI
      by_cases c : x = A
      · left
        subst c
        refine ⟨.inl (iI x, iF τ, iF d, iF cb), ?_, Or.inl ⟨τ, d, cb, rfl, h1, h2⟩⟩
        show pX3_leastPrice_l28 _ _ _ _ _ _ _ _ _ _ _ _ _ _ = _
        unfold pX3_leastPrice_l28
        rw [le_y (Int.le_refl _) (by omega) (by omega)]
      · rcases s3_takeWay h h1 (D0 := d) (B0 := cb) hs ht hst (N := N) (by omega) with ⟨τ2, d2, cb2, e, f1, f2⟩ | ⟨d2, cb2, e, R, r1, r2, r3⟩
        · right
          refine ⟨(iI ((x + 1 : Nat) : Int), iF τ2, iF d2, iF cb2), ?_, A - (x + 1), by omega, x + 1, τ2, d2, cb2, rfl, by omega, rfl, f1, fun v hv => ?_⟩
          · show pX3_leastPrice_l28 N (iI m) (iF C) (iF F) (iI n) (iF T) (iF U) (iI s) (iI t) (iI A) (iI x) (iF τ) (iF d) (iF cb) = _
            unfold pX3_leastPrice_l28
            rw [le_n (by omega) (by omega) (by omega), e, bs4, b0_t, iI_s]
          · rw [f2 v, h2 v hv]
            unfold dem
            by_cases c1 : s = v <;> by_cases c2 : t = v <;> simp only [c1, c2, if_true, if_false] <;> omega
        · left
          refine ⟨.inr (-1, iF τ, iF d2, iF cb2), ?_, Or.inr ⟨τ, d2, cb2, rfl, u_noflo h hs h1 h2 r1 r2 r3 (by omega)⟩⟩
          show pX3_leastPrice_l28 N (iI m) (iF C) (iF F) (iI n) (iF T) (iF U) (iI s) (iI t) (iI A) (iI x) (iF τ) (iF d) (iF cb) = _
          unfold pX3_leastPrice_l28
          rw [le_n (by omega) (by omega) (by omega), e, bs4, b0_f])
    N A (iI ((0 : Nat) : Int), iF t0, iF D0, iF B0) ⟨0, t0, D0, B0, rfl, by omega, rfl, ht0, hn0⟩ (by omega)
  obtain ⟨r, hr, hpost⟩ := hlp
  have hr' : lp (un4 (pX3_leastPrice_l28 N (iI m) (iF C) (iF F) (iI n) (iF T) (iF U) (iI s) (iI t) (iI A))) N ((0 : Int32), iF t0, iF D0, iF B0) = some r := hr
  rcases hpost with ⟨τ, d, cb, rfl, g1, g2⟩ | ⟨τ, d, cb, rfl, g1⟩
  · obtain ⟨τ2, d2, cb2, e, f1, f2, f3⟩ := s3_circles h g1 g2 (D0 := d) (B0 := cb) hN
    have hc := uc_bd h f1
    refine ⟨uc m U τ2, τ2, d2, cb2, ?_, Or.inl ⟨hc.1, by omega, umin h f1 f2 f3⟩⟩
    unfold pX4_costByCircles pX3_leastPrice
    rw [hini, bs2, hr']
    show bnd4 (bnd3 (pX3_takeOutCircles N (iI n) (iI m) (iF F) (iF T) (iF C) (iF U) (iF τ) (iF d) (iF cb)) _) _ = _
    rw [e, bs3, s3_price h f1 (by omega)]
    rfl
  · refine ⟨-1, τ, d, cb, ?_, Or.inr ⟨rfl, g1⟩⟩
    unfold pX4_costByCircles pX3_leastPrice
    rw [hini, bs2, hr']
    rfl
end UNF
