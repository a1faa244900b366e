/-! numbers: Int32 out of Int, arrays out of Int-valued functions, sums, pigeons -/
def iI (z : Int) : Int32 := Int32.ofInt z
def iF (F : Nat → Int) : Nat → Int32 := fun i => iI (F i)
def up (F : Nat → Int) (k : Nat) (x : Int) : Nat → Int := fun j => if j = k then x else F j
theorem up_eq (F : Nat → Int) (k : Nat) (x : Int) : up F k x k = x := if_pos rfl
theorem up_ne (F : Nat → Int) {k j : Nat} (x : Int) (h : j ≠ k) : up F k x j = F j := if_neg h
theorem iI_toInt {z : Int} (h1 : -2147483648 ≤ z) (h2 : z < 2147483648) : (iI z).toInt = z := by
  unfold iI
  rw [Int32.toInt_ofInt]
  have : Int32.size = 4294967296 := rfl
  rw [this, Int.bmod_def]
  split <;> omega
theorem iI_add (a b : Int) : iI a + iI b = iI (a + b) := (Int32.ofInt_add a b).symm
theorem iI_sub (a b : Int) : iI a - iI b = iI (a - b) := (Int32.ofInt_sub a b).symm
theorem iI_mul (a b : Int) : iI a * iI b = iI (a * b) := (Int32.ofInt_mul a b).symm
theorem iI_neg (a : Int) : -iI a = iI (-a) := (Int32.ofInt_neg a).symm
theorem iI_lt {a b : Int} (h1 : -2147483648 ≤ a) (h2 : a < 2147483648) (h3 : -2147483648 ≤ b) (h4 : b < 2147483648) : iI a < iI b ↔ a < b := by
  rw [Int32.lt_iff_toInt_lt, iI_toInt h1 h2, iI_toInt h3 h4]
theorem iI_le {a b : Int} (h1 : -2147483648 ≤ a) (h2 : a < 2147483648) (h3 : -2147483648 ≤ b) (h4 : b < 2147483648) : iI a ≤ iI b ↔ a ≤ b := by
  rw [Int32.le_iff_toInt_le, iI_toInt h1 h2, iI_toInt h3 h4]
theorem iI_eq {a b : Int} (h1 : -2147483648 ≤ a) (h2 : a < 2147483648) (h3 : -2147483648 ≤ b) (h4 : b < 2147483648) : iI a = iI b ↔ a = b := by
  rw [← Int32.toInt_inj, iI_toInt h1 h2, iI_toInt h3 h4]
theorem iI_self (x : Int32) : iI x.toInt = x := Int32.ofInt_toInt x
theorem iF_self (f : Nat → Int32) : iF (fun i => (f i).toInt) = f := funext fun i => iI_self (f i)
theorem iI_nat {k : Nat} (h : k < 2147483648) : (iI (k : Int)).toNatClampNeg = k := by
  rw [Int32.toNatClampNeg, iI_toInt (by omega) (by omega)]
  rfl
theorem iI_tn {z : Int} (h1 : 0 ≤ z) (h2 : z < 2147483648) : (iI z).toNatClampNeg = z.toNat := by
  rw [Int32.toNatClampNeg, iI_toInt (by omega) (by omega)]
theorem zl0 : (0 : Int32) = iI 0 := rfl
theorem rd_in {n : Nat} {F : Nat → Int} {z : Int} (h1 : 0 ≤ z) (h2 : z < n) (hn : n < 2147483648) : rd n (iF F) (iI z) = some (iI (F z.toNat)) := by
  unfold rd
  have h3 : ¬ (iI z < 0 ∨ n ≤ (iI z).toNatClampNeg) := by
    rw [iI_tn h1 (by omega), zl0, iI_lt (by omega) (by omega) (by omega) (by omega)]
    omega
  rw [if_neg h3, iI_tn h1 (by omega)]
  rfl
theorem wr_in {n : Nat} {F : Nat → Int} {z x : Int} (h1 : 0 ≤ z) (h2 : z < n) (hn : n < 2147483648) : wr n (iF F) (iI z) (iI x) = some (iF (up F z.toNat x)) := by
  unfold wr
  have h3 : ¬ (iI z < 0 ∨ n ≤ (iI z).toNatClampNeg) := by
    rw [iI_tn h1 (by omega), zl0, iI_lt (by omega) (by omega) (by omega) (by omega)]
    omega
  rw [if_neg h3, iI_tn h1 (by omega)]
  refine congrArg some (funext fun j => ?_)
  unfold upd iF up
  by_cases hj : j = z.toNat
  · rw [if_pos hj, if_pos hj]
  · rw [if_neg hj, if_neg hj]
theorem rd_n {n : Nat} {F : Nat → Int} {k : Nat} (h2 : k < n) (hn : n < 2147483648) : rd n (iF F) (iI k) = some (iI (F k)) := by
  have := rd_in (n := n) (F := F) (z := (k : Int)) (by omega) (by omega) hn
  rw [this]; rfl
theorem wr_n {n : Nat} {F : Nat → Int} {k : Nat} {x : Int} (h2 : k < n) (hn : n < 2147483648) : wr n (iF F) (iI k) (iI x) = some (iF (up F k x)) := by
  have := wr_in (n := n) (F := F) (z := (k : Int)) (x := x) (by omega) (by omega) hn
  rw [this]; rfl
theorem bI (b : Bool) : b2i b = iI (if b then 1 else 0) := by cases b <;> rfl
theorem b2i0 (b : Bool) : (b2i b = 0) ↔ b = false := by cases b <;> decide
/-- a loop whose states are known: from place 0 to the place where it ends -/
theorem lp_run {S R : Type} {step : S → Option (R ⊕ S)} (st : Nat → S) (r : R) (m : Nat) (h1 : ∀ k, k < m → step (st k) = some (.inr (st (k + 1)))) (h2 : step (st m) = some (.inl r)) {N : Nat} (hN : m < N) : lp step N (st 0) = some r := by
  have key : ∀ d k, k + d = m → ∀ N, d < N → lp step N (st k) = some r := by
    intro d
    induction d with
    | zero =>
      intro k hk N hN
      cases N with
      | zero => omega
      | succ N =>
        show (step (st k)).bind _ = some r
        have : k = m := by omega
        rw [this, h2]; rfl
    | succ d ih =>
      intro k hk N hN
      cases N with
      | zero => omega
      | succ N =>
        show (step (st k)).bind _ = some r
        rw [h1 k (by omega)]
        exact ih (k + 1) (by omega) N (by omega)
  exact key m 0 (by omega) N hN
theorem bind_some {α β : Type} (a : α) (f : α → Option β) : (some a).bind f = f a := rfl
/-- sums over the first n -/
def sm (f : Nat → Int) : Nat → Int
  | 0 => 0
  | n + 1 => sm f n + f n
theorem sm_congr {f g : Nat → Int} : ∀ {n : Nat}, (∀ i, i < n → f i = g i) → sm f n = sm g n := by
  intro n
  induction n with
  | zero => intro _; rfl
  | succ n ih => intro h; show sm f n + f n = sm g n + g n; rw [ih (fun i hi => h i (by omega)), h n (by omega)]
theorem sm_add (f g : Nat → Int) : ∀ n : Nat, sm (fun i => f i + g i) n = sm f n + sm g n := by
  intro n
  induction n with
  | zero => rfl
  | succ n ih => show sm _ n + (f n + g n) = _; rw [ih]; show _ = (sm f n + f n) + (sm g n + g n); omega
theorem sm_sub (f g : Nat → Int) : ∀ n : Nat, sm (fun i => f i - g i) n = sm f n - sm g n := by
  intro n
  induction n with
  | zero => rfl
  | succ n ih => show sm _ n + (f n - g n) = _; rw [ih]; show _ = (sm f n + f n) - (sm g n + g n); omega
theorem sm_mul (c : Int) (f : Nat → Int) : ∀ n : Nat, sm (fun i => c * f i) n = c * sm f n := by
  intro n
  induction n with
  | zero => show (0 : Int) = c * 0; rw [Int.mul_zero]
  | succ n ih => show sm _ n + c * f n = c * (sm f n + f n); rw [ih, Int.mul_add]
theorem sm_le {f g : Nat → Int} : ∀ {n : Nat}, (∀ i, i < n → f i ≤ g i) → sm f n ≤ sm g n := by
  intro n
  induction n with
  | zero => intro _; exact Int.le_refl _
  | succ n ih => intro h; have h1 := ih (fun i hi => h i (by omega)); have h2 := h n (by omega); show sm f n + f n ≤ sm g n + g n; omega
theorem sm_zero : ∀ n : Nat, sm (fun _ => 0) n = 0 := by
  intro n
  induction n with
  | zero => rfl
  | succ n ih => show sm _ n + 0 = 0; rw [ih]; rfl
theorem sm_nonneg {f : Nat → Int} {n : Nat} (h : ∀ i, i < n → 0 ≤ f i) : 0 ≤ sm f n := by
  have := sm_le (f := fun _ => 0) (g := f) (n := n) h
  rw [sm_zero] at this; exact this
/-- one term alone -/
theorem sm_one (k : Nat) (x : Int) : ∀ n : Nat, sm (fun i => if i = k then x else 0) n = if k < n then x else 0 := by
  intro n
  induction n with
  | zero => rfl
  | succ n ih =>
    show sm _ n + (if n = k then x else 0) = _
    rw [ih]
    by_cases h1 : k < n
    · rw [if_pos h1, if_neg (by omega), if_pos (by omega)]; omega
    · by_cases h2 : n = k
      · rw [if_neg h1, if_pos h2, if_pos (by omega)]; omega
      · rw [if_neg h1, if_neg h2, if_neg (by omega)]; omega
/-- the order of two sums -/
theorem sm_swap (f : Nat → Nat → Int) (m : Nat) : ∀ n : Nat, sm (fun i => sm (fun j => f i j) m) n = sm (fun j => sm (fun i => f i j) n) m := by
  intro n
  induction n with
  | zero => show 0 = sm (fun _ => 0) m; rw [sm_zero]
  | succ n ih => show sm _ n + _ = sm (fun j => sm (fun i => f i j) n + f n j) m; rw [ih, sm_add]
theorem sm_pos {f : Nat → Int} : ∀ {n : Nat}, (∀ i, i < n → 0 ≤ f i) → ∀ k, k < n → f k ≤ sm f n := by
  intro n
  induction n with
  | zero => intro _ k hk; omega
  | succ n ih =>
    intro h k hk
    show f k ≤ sm f n + f n
    by_cases h1 : k < n
    · have := ih (fun i hi => h i (by omega)) k h1; have := h n (by omega); omega
    · have h2 : k = n := by omega
      subst h2
      have := sm_nonneg (f := f) (n := k) (fun i hi => h i (by omega)); omega
/-- pigeons -/
theorem pigeon : ∀ (n : Nat) (x : Nat → Nat), (∀ i, i ≤ n → x i < n) → ∃ i j, i < j ∧ j ≤ n ∧ x i = x j := by
  intro n
  induction n with
  | zero => intro x h; exact absurd (h 0 (Nat.le_refl 0)) (by omega)
  | succ n ih =>
    intro x h
    -- either the last pigeon shares its hole, or it is put aside and its hole filled by the highest one
    by_cases hs : ∃ i, i < n + 1 ∧ x i = x (n + 1)
    · obtain ⟨i, h1, h2⟩ := hs
      exact ⟨i, n + 1, h1, Nat.le_refl _, h2⟩
    · have hne : ∀ i, i < n + 1 → x i ≠ x (n + 1) := fun i hi he => hs ⟨i, hi, he⟩
      obtain ⟨i, j, h1, h2, h3⟩ := ih (fun i => if x i = n then x (n + 1) else x i) (by
        intro i hi
        show (if x i = n then x (n + 1) else x i) < n
        have h1 := h i (by omega)
        have h2 := h (n + 1) (Nat.le_refl _)
        have h3 := hne i (by omega)
        by_cases h4 : x i = n
        · rw [if_pos h4]; omega
        · rw [if_neg h4]; omega)
      refine ⟨i, j, h1, by omega, ?_⟩
      have h3 : (if x i = n then x (n + 1) else x i) = (if x j = n then x (n + 1) else x j) := h3
      have h4 := hne i (by omega)
      have h5 := hne j (by omega)
      by_cases h6 : x i = n
      · by_cases h7 : x j = n
        · omega
        · rw [if_pos h6, if_neg h7] at h3; omega
      · by_cases h7 : x j = n
        · rw [if_neg h6, if_pos h7] at h3; omega
        · rw [if_neg h6, if_neg h7] at h3; exact h3
