/-! flows: what goes out, what they cost, when they are cheapest, when there is none -/
def net (m : Nat) (fr to : Nat → Nat) (f : Nat → Int) (v : Nat) : Int := sm (fun a => (if fr a = v then f a else 0) - (if to a = v then f a else 0)) m
def CC (pr : Nat → Nat → Int) (a : Nat) (x : Int) : Int := sm (fun u => pr a (u + 1)) x.toNat
def cst (m : Nat) (pr : Nat → Nat → Int) (f : Nat → Int) : Int := sm (fun a => CC pr a (f a)) m
/-- a flow within bounds, with what goes out of each node -/
def Flo (n m : Nat) (fr to : Nat → Nat) (lo hi b f : Nat → Int) : Prop := (∀ a, a < m → lo a ≤ f a ∧ f a ≤ hi a) ∧ ∀ v, v < n → net m fr to f v = b v
theorem sm_sel (F : Nat → Int) {k n : Nat} (hk : k < n) : sm (fun v => if k = v then F v else 0) n = F k := by
  have : sm (fun v => if k = v then F v else 0) n = sm (fun v => if v = k then F k else 0) n := by
    refine sm_congr (fun i _ => ?_)
    by_cases h : k = i
    · rw [if_pos h, if_pos h.symm, h]
    · rw [if_neg h, if_neg (fun e => h e.symm)]
  rw [this, sm_one, if_pos hk]
theorem net_pi {n m : Nat} {fr to : Nat → Nat} (hft : ∀ a, a < m → fr a < n ∧ to a < n) (f p : Nat → Int) : sm (fun v => p v * net m fr to f v) n = sm (fun a => f a * (p (fr a) - p (to a))) m := by
  have h1 : sm (fun v => p v * net m fr to f v) n = sm (fun v => sm (fun a => p v * ((if fr a = v then f a else 0) - (if to a = v then f a else 0))) m) n := by
    refine sm_congr (fun v _ => ?_)
    rw [sm_mul]; rfl
  rw [h1, sm_swap]
  refine sm_congr (fun a ha => ?_)
  obtain ⟨a1, a2⟩ := hft a ha
  have h2 : sm (fun v => p v * ((if fr a = v then f a else 0) - (if to a = v then f a else 0))) n = sm (fun v => (if fr a = v then p v * f a else 0) - (if to a = v then p v * f a else 0)) n := by
    refine sm_congr (fun v _ => ?_)
    by_cases h3 : fr a = v <;> by_cases h4 : to a = v <;> simp [h3, h4, Int.mul_sub, Int.mul_neg]
  rw [h2, sm_sub, sm_sel (fun v => p v * f a) a1, sm_sel (fun v => p v * f a) a2, Int.mul_sub, Int.mul_comm (f a), Int.mul_comm (f a)]
theorem net_sub (m : Nat) (fr to : Nat → Nat) (f g : Nat → Int) (v : Nat) : net m fr to (fun a => g a - f a) v = net m fr to g v - net m fr to f v := by
  unfold net
  rw [← sm_sub]
  refine sm_congr (fun a _ => ?_)
  by_cases h3 : fr a = v <;> by_cases h4 : to a = v <;> simp [h3, h4] <;> omega
/-- two flows with the same ends differ by nothing that a potential sees -/
theorem pot_zero {n m : Nat} {fr to : Nat → Nat} (hft : ∀ a, a < m → fr a < n ∧ to a < n) {lo hi lo' hi' b f g : Nat → Int} (hf : Flo n m fr to lo hi b f) (hg : Flo n m fr to lo' hi' b g) (p : Nat → Int) : sm (fun a => (g a - f a) * (p (to a) - p (fr a))) m = 0 := by
  have h1 := net_pi hft (fun a => g a - f a) p
  have h2 : sm (fun v => p v * net m fr to (fun a => g a - f a) v) n = 0 := by
    rw [show (0 : Int) = sm (fun _ => 0) n from (sm_zero n).symm]
    refine sm_congr (fun v hv => ?_)
    rw [net_sub, hf.2 v hv, hg.2 v hv, Int.sub_self, Int.mul_zero]
  rw [h2] at h1
  have h3 : sm (fun a => (g a - f a) * (p (to a) - p (fr a))) m = sm (fun a => (-1) * ((g a - f a) * (p (fr a) - p (to a)))) m := by
    refine sm_congr (fun a _ => ?_)
    rw [Int.neg_mul, Int.one_mul, ← Int.mul_neg]
    congr 1
    omega
  rw [h3, sm_mul, ← h1, Int.mul_zero]
theorem cc_up (pr : Nat → Nat → Int) (a : Nat) (q : Int) (x : Nat) : ∀ d : Nat, (∀ u, x < u → u ≤ x + d → q ≤ pr a u) → q * d ≤ sm (fun u => pr a (u + 1)) (x + d) - sm (fun u => pr a (u + 1)) x := by
  intro d
  induction d with
  | zero => intro _; simp
  | succ d ih =>
    intro h
    have h1 := ih (fun u h1 h2 => h u h1 (by omega))
    have h2 := h (x + d + 1) (by omega) (by omega)
    have h3 : sm (fun u => pr a (u + 1)) (x + (d + 1)) = sm (fun u => pr a (u + 1)) (x + d) + pr a (x + d + 1) := rfl
    rw [h3, show ((d + 1 : Nat) : Int) = (d : Int) + 1 from rfl, Int.mul_add]
    omega
theorem cc_dn (pr : Nat → Nat → Int) (a : Nat) (q : Int) (x : Nat) : ∀ d : Nat, (∀ u, x < u → u ≤ x + d → pr a u ≤ q) → sm (fun u => pr a (u + 1)) (x + d) - sm (fun u => pr a (u + 1)) x ≤ q * d := by
  intro d
  induction d with
  | zero => intro _; simp
  | succ d ih =>
    intro h
    have h1 := ih (fun u h1 h2 => h u h1 (by omega))
    have h2 := h (x + d + 1) (by omega) (by omega)
    have h3 : sm (fun u => pr a (u + 1)) (x + (d + 1)) = sm (fun u => pr a (u + 1)) (x + d) + pr a (x + d + 1) := rfl
    rw [h3, show ((d + 1 : Nat) : Int) = (d : Int) + 1 from rfl, Int.mul_add]
    omega
/-- the prices of the units of an arc don't fall, up to its capacity -/
def srt (m : Nat) (cap : Nat → Int) (pr : Nat → Nat → Int) : Prop := ∀ a, a < m → ∀ u v : Nat, 1 ≤ u → u ≤ v → (v : Int) ≤ cap a → pr a u ≤ pr a v
/-- the price of one arc against a slope that fits at x -/
theorem cc_slope {m : Nat} {cap : Nat → Int} {pr : Nat → Nat → Int} (hs : srt m cap pr) {a : Nat} (ha : a < m) {q x y : Int} (hx : 0 ≤ x) (hy : 0 ≤ y) (hxc : x ≤ cap a) (hyc : y ≤ cap a) (h1 : x < y → q ≤ pr a (x.toNat + 1)) (h2 : y < x → pr a x.toNat ≤ q) : (y - x) * q ≤ CC pr a y - CC pr a x := by
  unfold CC
  rcases Int.lt_trichotomy x y with h | h | h
  · have h3 := cc_up pr a q x.toNat (y - x).toNat (fun u g1 g2 => Int.le_trans (h1 h) (hs a ha _ _ (by omega) (by omega) (by omega)))
    rw [show x.toNat + (y - x).toNat = y.toNat by omega, show (((y - x).toNat : Nat) : Int) = y - x by omega, Int.mul_comm] at h3
    exact h3
  · subst h; simp
  · have h3 := cc_dn pr a q y.toNat (x - y).toNat (fun u g1 g2 => Int.le_trans (hs a ha _ _ (by omega) (by omega) (by omega)) (h2 h))
    rw [show y.toNat + (x - y).toNat = x.toNat by omega, show (((x - y).toNat : Nat) : Int) = x - y by omega] at h3
    have h4 : (y - x) * q = -(q * (x - y)) := by rw [← Int.mul_neg, Int.mul_comm]; congr 1; omega
    rw [h4]
    omega
/-- the residual steps of a flow: 2a along arc a, 2a + 1 against it -/
def rst (fr to : Nat → Nat) (t : Nat) : Nat := if t % 2 = 0 then fr (t / 2) else to (t / 2)
def ren (fr to : Nat → Nat) (t : Nat) : Nat := if t % 2 = 0 then to (t / 2) else fr (t / 2)
def rwt (pr : Nat → Nat → Int) (f : Nat → Int) (t : Nat) : Int := if t % 2 = 0 then pr (t / 2) ((f (t / 2)).toNat + 1) else -pr (t / 2) (f (t / 2)).toNat
def rok (lo hi f : Nat → Int) (t : Nat) : Bool := if t % 2 = 0 then decide (f (t / 2) < hi (t / 2)) else decide (lo (t / 2) < f (t / 2))
/-- a potential that the residual steps respect -/
def Pot (m : Nat) (fr to : Nat → Nat) (pr : Nat → Nat → Int) (lo hi f p : Nat → Int) : Prop := ∀ t, t < 2 * m → rok lo hi f t = true → p (ren fr to t) ≤ p (rst fr to t) + rwt pr f t
theorem pot_fwd {m : Nat} {fr to : Nat → Nat} {pr : Nat → Nat → Int} {lo hi f p : Nat → Int} (h : Pot m fr to pr lo hi f p) {a : Nat} (ha : a < m) (hf : f a < hi a) : p (to a) ≤ p (fr a) + pr a ((f a).toNat + 1) := by
  have := h (2 * a) (by omega) (by unfold rok; rw [if_pos (by omega), show 2 * a / 2 = a by omega]; exact decide_eq_true hf)
  unfold ren rst rwt at this
  rw [if_pos (by omega), if_pos (by omega), if_pos (by omega), show 2 * a / 2 = a by omega] at this
  exact this
theorem pot_bwd {m : Nat} {fr to : Nat → Nat} {pr : Nat → Nat → Int} {lo hi f p : Nat → Int} (h : Pot m fr to pr lo hi f p) {a : Nat} (ha : a < m) (hf : lo a < f a) : p (fr a) ≤ p (to a) - pr a (f a).toNat := by
  have := h (2 * a + 1) (by omega) (by unfold rok; rw [if_neg (by omega), show (2 * a + 1) / 2 = a by omega]; exact decide_eq_true hf)
  unfold ren rst rwt at this
  rw [if_neg (by omega), if_neg (by omega), if_neg (by omega), show (2 * a + 1) / 2 = a by omega] at this
  omega
theorem pot_of {m : Nat} {fr to : Nat → Nat} {pr : Nat → Nat → Int} {lo hi f p : Nat → Int} (h1 : ∀ a, a < m → f a < hi a → p (to a) ≤ p (fr a) + pr a ((f a).toNat + 1)) (h2 : ∀ a, a < m → lo a < f a → p (fr a) ≤ p (to a) - pr a (f a).toNat) : Pot m fr to pr lo hi f p := by
  intro t ht hok
  unfold rok at hok
  unfold ren rst rwt
  by_cases h : t % 2 = 0
  · rw [if_pos h] at hok ⊢
    rw [if_pos h, if_pos h]
    exact h1 _ (by omega) (of_decide_eq_true hok)
  · rw [if_neg h] at hok ⊢
    rw [if_neg h, if_neg h]
    have := h2 (t / 2) (by omega) (of_decide_eq_true hok)
    omega
section Flows
variable {n m : Nat} {fr to : Nat → Nat} {pr : Nat → Nat → Int} {cap lo hi b f g p : Nat → Int}
/-- a flow with a potential is cheapest -/
theorem opt_of_pot (hft : ∀ a, a < m → fr a < n ∧ to a < n) (hs : srt m cap pr) (hlo : ∀ a, a < m → 0 ≤ lo a) (hhi : ∀ a, a < m → hi a ≤ cap a) (hf : Flo n m fr to lo hi b f) (hg : Flo n m fr to lo hi b g) (hp : Pot m fr to pr lo hi f p) : cst m pr f ≤ cst m pr g := by
  have h0 := pot_zero hft hf hg p
  have h1 : sm (fun a => (g a - f a) * (p (to a) - p (fr a))) m ≤ sm (fun a => CC pr a (g a) - CC pr a (f a)) m := by
    refine sm_le (fun a ha => ?_)
    obtain ⟨f1, f2⟩ := hf.1 a ha
    obtain ⟨g1, g2⟩ := hg.1 a ha
    have := hlo a ha
    have := hhi a ha
    refine cc_slope hs ha (by omega) (by omega) (by omega) (by omega) (fun h => ?_) (fun h => ?_)
    · have := pot_fwd hp ha (by omega); omega
    · have := pot_bwd hp ha (by omega); omega
  rw [h0, sm_sub] at h1
  unfold cst
  omega
/-- a closed set of nodes: nothing more can leave it -/
theorem cut_le (hft : ∀ a, a < m → fr a < n ∧ to a < n) (R : Nat → Prop) (hR : ∀ v, Decidable (R v)) (hg : ∀ a, a < m → lo a ≤ g a ∧ g a ≤ hi a) (hc : ∀ t, t < 2 * m → rok lo hi f t = true → R (rst fr to t) → R (ren fr to t)) : sm (fun v => if R v then net m fr to g v - net m fr to f v else 0) n ≤ 0 := by
  have h1 := net_pi hft (fun a => g a - f a) (fun v => if R v then 1 else 0)
  have h2 : sm (fun v => (if R v then (1 : Int) else 0) * net m fr to (fun a => g a - f a) v) n = sm (fun v => if R v then net m fr to g v - net m fr to f v else 0) n := by
    refine sm_congr (fun v _ => ?_)
    rw [net_sub]
    by_cases h : R v
    · rw [if_pos h, if_pos h, Int.one_mul]
    · rw [if_neg h, if_neg h, Int.zero_mul]
  rw [← h2, h1]
  have h3 : sm (fun a => (g a - f a) * ((if R (fr a) then (1 : Int) else 0) - (if R (to a) then 1 else 0))) m ≤ sm (fun _ => 0) m := by
    refine sm_le (fun a ha => ?_)
    obtain ⟨g1, g2⟩ := hg a ha
    by_cases r1 : R (fr a) <;> by_cases r2 : R (to a)
    · rw [if_pos r1, if_pos r2]; simp
    · rw [if_pos r1, if_neg r2]
      have h4 : ¬ f a < hi a := by
        intro h5
        have := hc (2 * a) (by omega) (by unfold rok; rw [if_pos (by omega), show 2 * a / 2 = a by omega]; exact decide_eq_true h5)
        unfold rst ren at this
        rw [if_pos (by omega), if_pos (by omega), show 2 * a / 2 = a by omega] at this
        exact r2 (this r1)
      omega
    · rw [if_neg r1, if_pos r2]
      have h4 : ¬ lo a < f a := by
        intro h5
        have := hc (2 * a + 1) (by omega) (by unfold rok; rw [if_neg (by omega), show (2 * a + 1) / 2 = a by omega]; exact decide_eq_true h5)
        unfold rst ren at this
        rw [if_neg (by omega), if_neg (by omega), show (2 * a + 1) / 2 = a by omega] at this
        exact r1 (this r2)
      omega
    · rw [if_neg r1, if_neg r2]; simp
  rw [sm_zero] at h3
  exact h3
end Flows
