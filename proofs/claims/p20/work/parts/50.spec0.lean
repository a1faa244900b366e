/-! the network, and what the pictures of its reading methods answer -/
theorem zl1 : (1 : Int32) = iI 1 := rfl
theorem zl2 : (2 : Int32) = iI 2 := rfl
theorem zl3 : (3 : Int32) = iI 3 := rfl
theorem zl5 : (5 : Int32) = iI 5 := rfl
theorem zl8 : (8 : Int32) = iI 8 := rfl
theorem zl12 : (12 : Int32) = iI 12 := rfl
theorem zl15 : (15 : Int32) = iI 15 := rfl
theorem zl16 : (16 : Int32) = iI 16 := rfl
theorem zl20 : (20 : Int32) = iI 20 := rfl
theorem zl99 : (99 : Int32) = iI 99 := rfl
theorem zl100 : (100 : Int32) = iI 100 := rfl
theorem zl180 : (180 : Int32) = iI 180 := rfl
theorem zlm : (-1 : Int32) = iI (-1) := rfl
theorem zlF : (1000000 : Int32) = iI 1000000 := rfl
theorem iI_s (k : Nat) : iI (k : Int) + 1 = iI ((k + 1 : Nat) : Int) := by rw [zl1, iI_add]; rfl
theorem bs2 {A B R : Type} (a0 : A) (a1 : B) (f : A → B → Option R) : bnd2 (some (a0, a1)) f = f a0 a1 := rfl
theorem bs3 {A B C R : Type} (a0 : A) (a1 : B) (a2 : C) (f : A → B → C → Option R) : bnd3 (some (a0, a1, a2)) f = f a0 a1 a2 := rfl
theorem bs4 {A B C D R : Type} (a0 : A) (a1 : B) (a2 : C) (a3 : D) (f : A → B → C → D → Option R) : bnd4 (some (a0, a1, a2, a3)) f = f a0 a1 a2 a3 := rfl
theorem bs5 {A B C D E R : Type} (a0 : A) (a1 : B) (a2 : C) (a3 : D) (a4 : E) (f : A → B → C → D → E → Option R) : bnd5 (some (a0, a1, a2, a3, a4)) f = f a0 a1 a2 a3 a4 := rfl
theorem bs6 {A B C D E F R : Type} (a0 : A) (a1 : B) (a2 : C) (a3 : D) (a4 : E) (a5 : F) (f : A → B → C → D → E → F → Option R) : bnd6 (some (a0, a1, a2, a3, a4, a5)) f = f a0 a1 a2 a3 a4 a5 := rfl
theorem bs7 {A B C D E F G R : Type} (a0 : A) (a1 : B) (a2 : C) (a3 : D) (a4 : E) (a5 : F) (a6 : G) (f : A → B → C → D → E → F → G → Option R) : bnd7 (some (a0, a1, a2, a3, a4, a5, a6)) f = f a0 a1 a2 a3 a4 a5 a6 := rfl
theorem bs8 {A B C D E F G I R : Type} (a0 : A) (a1 : B) (a2 : C) (a3 : D) (a4 : E) (a5 : F) (a6 : G) (a7 : I) (f : A → B → C → D → E → F → G → I → Option R) : bnd8 (some (a0, a1, a2, a3, a4, a5, a6, a7)) f = f a0 a1 a2 a3 a4 a5 a6 a7 := rfl
theorem bs9 {A B C D E F G I J R : Type} (a0 : A) (a1 : B) (a2 : C) (a3 : D) (a4 : E) (a5 : F) (a6 : G) (a7 : I) (a8 : J) (f : A → B → C → D → E → F → G → I → J → Option R) : bnd9 (some (a0, a1, a2, a3, a4, a5, a6, a7, a8)) f = f a0 a1 a2 a3 a4 a5 a6 a7 a8 := rfl
theorem bs10 {A B C D E F G I J K R : Type} (a0 : A) (a1 : B) (a2 : C) (a3 : D) (a4 : E) (a5 : F) (a6 : G) (a7 : I) (a8 : J) (a9 : K) (f : A → B → C → D → E → F → G → I → J → K → Option R) : bnd10 (some (a0, a1, a2, a3, a4, a5, a6, a7, a8, a9)) f = f a0 a1 a2 a3 a4 a5 a6 a7 a8 a9 := rfl
/-- comparisons decided -/
theorem le_y {a b : Int} {α : Type} {x y : α} (h : a ≤ b) (h1 : -2147483648 ≤ a) (h4 : b < 2147483648) : (if iI a ≤ iI b then x else y) = x := if_pos ((iI_le h1 (by omega) (by omega) h4).mpr h)
theorem le_n {a b : Int} {α : Type} {x y : α} (h : b < a) (h1 : -2147483648 ≤ b) (h4 : a < 2147483648) : (if iI a ≤ iI b then x else y) = y := if_neg (fun g => by have := (iI_le (by omega) h4 h1 (by omega)).mp g; omega)
theorem lt_y {a b : Int} {α : Type} {x y : α} (h : a < b) (h1 : -2147483648 ≤ a) (h4 : b < 2147483648) : (if iI a < iI b then x else y) = x := if_pos ((iI_lt h1 (by omega) (by omega) h4).mpr h)
theorem lt_n {a b : Int} {α : Type} {x y : α} (h : b ≤ a) (h1 : -2147483648 ≤ b) (h4 : a < 2147483648) : (if iI a < iI b then x else y) = y := if_neg (fun g => by have := (iI_lt (by omega) h4 h1 (by omega)).mp g; omega)
theorem eq_y {a b : Int} {α : Type} {x y : α} (h : a = b) : (if iI a = iI b then x else y) = x := if_pos (congrArg iI h)
theorem eq_n {a b : Int} {α : Type} {x y : α} (h : a ≠ b) (h1 : -2147483648 ≤ a) (h2 : a < 2147483648) (h3 : -2147483648 ≤ b) (h4 : b < 2147483648) : (if iI a = iI b then x else y) = y := if_neg (fun g => h ((iI_eq h1 h2 h3 h4).mp g))
theorem le0_n {a : Int} {α : Type} {x y : α} (h : 0 < a) (h4 : a < 2147483648) : (if iI a ≤ 0 then x else y) = y := le_n h (by omega) h4
theorem le0_y {a : Int} {α : Type} {x y : α} (h : a ≤ 0) (h4 : -2147483648 ≤ a) : (if iI a ≤ 0 then x else y) = x := le_y h h4 (by omega)
theorem eq0_y {a : Int} {α : Type} {x y : α} (h : a = 0) : (if iI a = 0 then x else y) = x := eq_y h
theorem eq0_n {a : Int} {α : Type} {x y : α} (h : a ≠ 0) (h1 : -2147483648 ≤ a) (h2 : a < 2147483648) : (if iI a = 0 then x else y) = y := eq_n h h1 h2 (by omega) (by omega)
theorem b0_t {α : Type} {x y : α} : (if b2i true = 0 then x else y) = y := if_neg (by decide)
theorem b0_f {α : Type} {x y : α} : (if b2i false = 0 then x else y) = x := if_pos (by decide)
theorem b0_d {α : Type} {x y : α} (p : Prop) [Decidable p] : (if b2i (decide p) = 0 then x else y) = if p then y else x := by
  by_cases h : p
  · rw [decide_eq_true h, b0_t, if_pos h]
  · rw [decide_eq_false h, b0_f, if_neg h]
abbrev nfr (F : Nat → Int) (a : Nat) : Nat := (F a).toNat
abbrev npr (U : Nat → Int) (a u : Nat) : Int := U (15 * a + u - 1)
/-- a network: its nodes and arcs, from where to where, capacities, the units' prices -/
def NW (n m : Nat) (F T C U : Nat → Int) : Prop :=
  2 ≤ n ∧ n ≤ 8 ∧ m ≤ 12 ∧ (∀ a, a < m → 0 ≤ F a ∧ F a < n ∧ 0 ≤ T a ∧ T a < n ∧ F a ≠ T a ∧ 1 ≤ C a ∧ C a ≤ 15) ∧
  (∀ a, a < m → ∀ u : Nat, 1 ≤ u → (u : Int) ≤ C a → 0 ≤ npr U a u ∧ npr U a u ≤ 99) ∧ srt m C (npr U)
theorem s_goesAlong {t : Nat} (h : t < 24) : pX2_goesAlong (iI t) = some (decide (t % 2 = 0)) := by
  have : ∀ t : Fin 24, pX2_goesAlong (iI t.val) = some (decide (t.val % 2 = 0)) := by decide +kernel
  exact this ⟨t, h⟩
theorem s_arcOf {t : Nat} (h : t < 24) : pX2_arcOf (iI t) = some (iI ((t / 2 : Nat) : Int)) := by
  have : ∀ t : Fin 24, pX2_arcOf (iI t.val) = some (iI ((t.val / 2 : Nat) : Int)) := by decide +kernel
  exact this ⟨t, h⟩
theorem s_steps (m : Nat) : pX2_steps (iI m) = some (iI ((2 * m : Nat) : Int)) := by
  unfold pX2_steps
  rw [zl2, iI_mul]; rfl
theorem s_start {F T : Nat → Int} {t : Nat} (h : t < 24) (h1 : 0 ≤ F (t / 2)) (h2 : 0 ≤ T (t / 2)) : pX2_start (iF F) (iF T) (iI t) = some (iI (rst (nfr F) (nfr T) t : Nat)) := by
  unfold pX2_start
  rw [s_goesAlong h, bind_some, b0_d, s_arcOf h, bind_some, bind_some, rd_n (by omega) (by omega), rd_n (by omega) (by omega), bind_some, bind_some]
  by_cases h9 : t % 2 = 0
  · rw [if_pos h9, rst_e h9, Int.toNat_of_nonneg h1]
  · rw [if_neg h9, rst_o h9, Int.toNat_of_nonneg h2]
theorem s_end {F T : Nat → Int} {t : Nat} (h : t < 24) (h1 : 0 ≤ F (t / 2)) (h2 : 0 ≤ T (t / 2)) : pX2_end (iF F) (iF T) (iI t) = some (iI (ren (nfr F) (nfr T) t : Nat)) := by
  unfold pX2_end
  rw [s_goesAlong h, bind_some, b0_d, s_arcOf h, bind_some, bind_some, rd_n (by omega) (by omega), rd_n (by omega) (by omega), bind_some, bind_some]
  by_cases h9 : t % 2 = 0
  · rw [if_pos h9, ren_e h9, Int.toNat_of_nonneg h2]
  · rw [if_neg h9, ren_o h9, Int.toNat_of_nonneg h1]
theorem s_unitPrice {C U : Nat → Int} {a u : Nat} (ha : a < 12) (h1 : 1 ≤ u) (h2 : (u : Int) ≤ C a) (h3 : C a ≤ 15) : pX2_unitPrice (iF C) (iF U) (iI a) (iI u) = some (iI (npr U a u)) := by
  unfold pX2_unitPrice
  rw [zl1, lt_n (by omega) (by omega) (by omega), rd_n (by omega) (by omega), bind_some, le_y h2 (by omega) (by omega), zl15, iI_mul, iI_add, iI_sub, rd_in (by omega) (by omega) (by omega), bind_some]
  rw [show ((a : Int) * 15 + u - 1).toNat = 15 * a + u - 1 by omega]
section X0
variable {n m : Nat} {F T C U O L H : Nat → Int}
/-- amounts within bounds within capacities -/
def WF (m : Nat) (C L H O : Nat → Int) : Prop := ∀ a, a < m → 0 ≤ L a ∧ L a ≤ O a ∧ O a ≤ H a ∧ H a ≤ C a
theorem s_roomOf {t : Nat} (ht : t < 24) : pX0_roomOf (iF O) (iF L) (iF H) (iI t) = some (iI (if t % 2 = 0 then H (t / 2) - O (t / 2) else O (t / 2) - L (t / 2))) := by
  unfold pX0_roomOf
  rw [s_arcOf ht, bind_some, s_goesAlong ht, bind_some, b0_d]
  rw [rd_n (by omega) (by omega), rd_n (by omega) (by omega), rd_n (by omega) (by omega)]
  simp only [bind_some]
  rw [iI_sub, iI_sub]
  split <;> rfl
theorem nw_ft (h : NW n m F T C U) : ∀ a, a < m → nfr F a < n ∧ nfr T a < n ∧ nfr F a ≠ nfr T a := by
  intro a ha
  obtain ⟨-, -, -, h1, -⟩ := h
  have := h1 a ha
  unfold nfr
  omega
theorem nw_st (h : NW n m F T C U) (ok : Nat → Bool) : ∀ t, t < 2 * m → ok t = true → rst (nfr F) (nfr T) t < n ∧ ren (nfr F) (nfr T) t < n ∧ rst (nfr F) (nfr T) t ≠ ren (nfr F) (nfr T) t := by
  intro t ht _
  have h1 := nw_ft h (t / 2) (by omega)
  by_cases h9 : t % 2 = 0
  · rw [rst_e h9, ren_e h9]; exact ⟨h1.1, h1.2.1, h1.2.2⟩
  · rw [rst_o h9, ren_o h9]; exact ⟨h1.2.1, h1.1, fun e => h1.2.2 e.symm⟩
theorem nw_w (h : NW n m F T C U) (hw : WF m C L H O) : ∀ t, t < 2 * m → rok L H O t = true → -99 ≤ rwt (npr U) O t ∧ rwt (npr U) O t ≤ 99 := by
  intro t ht hok
  obtain ⟨-, -, -, -, h2, -⟩ := h
  have h3 := hw (t / 2) (by omega)
  by_cases h9 : t % 2 = 0
  · rw [rwt_e h9]
    have h4 := (rok_e h9).mp hok
    have := h2 (t / 2) (by omega) ((O (t / 2)).toNat + 1) (by omega) (by omega)
    omega
  · rw [rwt_o h9]
    have h4 := (rok_o h9).mp hok
    have := h2 (t / 2) (by omega) (O (t / 2)).toNat (by omega) (by omega)
    omega
theorem s_priceOf (h : NW n m F T C U) (hw : WF m C L H O) {t : Nat} (ht : t < 2 * m) (hok : rok L H O t = true) : pX0_priceOf (iF C) (iF U) (iF O) (iI t) = some (iI (rwt (npr U) O t)) := by
  obtain ⟨-, -, hm, h1, h2, -⟩ := h
  have h3 := hw (t / 2) (by omega)
  have h5 := h1 (t / 2) (by omega)
  unfold pX0_priceOf
  rw [s_arcOf (by omega), bind_some, s_goesAlong (by omega), bind_some, b0_d, rd_n (by omega) (by omega), bind_some, bind_some]
  by_cases h9 : t % 2 = 0
  · rw [if_pos h9, rwt_e h9]
    have h4 := (rok_e h9).mp hok
    rw [zl1, iI_add, show O (t / 2) + 1 = (((O (t / 2)).toNat + 1 : Nat) : Int) by omega, s_unitPrice (by omega) (by omega) (by omega) (by omega), bind_some]
  · rw [if_neg h9, rwt_o h9]
    have h4 := (rok_o h9).mp hok
    rw [show O (t / 2) = (((O (t / 2)).toNat : Nat) : Int) by omega, s_unitPrice (by omega) (by omega) (by omega) (by omega), bind_some, iI_neg]
    rfl
theorem rok_room {t : Nat} : rok L H O t = decide (0 < (if t % 2 = 0 then H (t / 2) - O (t / 2) else O (t / 2) - L (t / 2))) := by
  unfold rok
  by_cases h9 : t % 2 = 0
  · rw [if_pos h9, if_pos h9]; apply decide_eq_decide.mpr; omega
  · rw [if_neg h9, if_neg h9]; apply decide_eq_decide.mpr; omega
/-- one step of the class's rounds -/
theorem s_shorten (h : NW n m F T C U) (hw : WF m C L H O) {d cb : Nat → Int} {ch : Int} (hd : ∀ v, v < n → -1000000000 ≤ d v ∧ d v ≤ 1000000) {t : Nat} (ht : t < 2 * m) :
    pX0_shorten (iF F) (iF T) (iF C) (iF U) (iF O) (iF L) (iF H) (iF d) (iF cb) (iI t) =
    some (decide (rok L H O t = true ∧ d (rst (nfr F) (nfr T) t) < 1000000 ∧ d (rst (nfr F) (nfr T) t) + rwt (npr U) O t < d (ren (nfr F) (nfr T) t)),
      iF (rlx (rst (nfr F) (nfr T)) (ren (nfr F) (nfr T)) (rwt (npr U) O) (rok L H O) (d, cb, ch) t).1, iF (rlx (rst (nfr F) (nfr T)) (ren (nfr F) (nfr T)) (rwt (npr U) O) (rok L H O) (d, cb, ch) t).2.1) := by
  have hm : m ≤ 12 := h.2.2.1
  have hn : n ≤ 8 := h.2.1
  have h1 := h.2.2.2.1 (t / 2) (by omega)
  have h3 := hw (t / 2) (by omega)
  have hs := nw_st h (fun _ => true) t ht rfl
  have d1 := hd _ hs.1
  have d2 := hd _ hs.2.1
  unfold pX0_shorten rlx
  dsimp only
  rw [s_start (by omega) (by omega) (by omega), bind_some, s_end (by omega) (by omega) (by omega), bind_some, rd_n (by omega) (by omega), bind_some, zlF]
  by_cases c1 : d (rst (nfr F) (nfr T) t) < 1000000
  · rw [le_n c1 (by omega) (by omega), s_roomOf (by omega), bind_some, zl0]
    by_cases c2 : 0 < (if t % 2 = 0 then H (t / 2) - O (t / 2) else O (t / 2) - L (t / 2))
    · have hok : rok L H O t = true := by rw [rok_room]; exact decide_eq_true c2
      have c3 := nw_w h hw t ht hok
      have hcap : (if t % 2 = 0 then H (t / 2) - O (t / 2) else O (t / 2) - L (t / 2)) ≤ 15 := by split <;> omega
      rw [le_n c2 (by omega) (by omega), bind_some, s_priceOf h hw ht hok, bind_some, rd_n (by omega) (by omega), bind_some, iI_add]
      by_cases c4 : d (rst (nfr F) (nfr T) t) + rwt (npr U) O t < d (ren (nfr F) (nfr T) t)
      · rw [lt_y c4 (by omega) (by omega), bind_some, bind_some, iI_add, wr_n (by omega) (by omega), bind_some, wr_n (by omega) (by omega), bind_some, if_pos ⟨hok, c1, c4⟩, decide_eq_true ⟨hok, c1, c4⟩]
      · rw [lt_n (by omega) (by omega) (by omega), if_neg (fun q => c4 q.2.2), decide_eq_false (fun q => c4 q.2.2)]
    · have hok : ¬ rok L H O t = true := by rw [rok_room]; exact fun q => c2 (of_decide_eq_true q)
      have hcap : -15 ≤ (if t % 2 = 0 then H (t / 2) - O (t / 2) else O (t / 2) - L (t / 2)) := by split <;> omega
      rw [le_y (by omega) (by omega) (by omega), if_neg (fun q => hok q.1), decide_eq_false (fun q => hok q.1)]
  · rw [le_y (by omega) (by omega) (by omega), if_neg (fun q => c1 q.2.1), decide_eq_false (fun q => c1 q.2.1)]
/-- the class's rounds come to rest, with ways to the nodes -/
theorem s_measure (h : NW n m F T C U) (hw : WF m C L H O) (hp : ∃ p, Pot m (nfr F) (nfr T) (npr U) L H O p) {d0 cb0 : Nat → Int} (hd0 : ∀ v, v < n → d0 v = 0 ∨ d0 v = 1000000) (hcb : ∀ v, v < n → cb0 v = -1) {N : Nat} (hN : 100 ≤ N) :
    ∃ d cb : Nat → Int, pX0_measure N (iI n) (iI m) (iF F) (iF T) (iF C) (iF U) (iF O) (iF L) (iF H) (iF d0) (iF cb0) = some (iF d, iF cb) ∧
      BT (2 * m) n (rst (nfr F) (nfr T)) (ren (nfr F) (nfr T)) (rwt (npr U) O) (rok L H O) d0 d cb ∧ ∀ v, v < n → d v = 1000000 ∨ (-20000 ≤ d v ∧ d v ≤ 20000) := by
  have hn : 2 ≤ n ∧ n ≤ 8 := ⟨h.1, h.2.1⟩
  have hm : m ≤ 12 := h.2.2.1
  have hst := nw_st h (rok L H O)
  have hwt := nw_w h hw
  obtain ⟨p, hp⟩ := hp
  let X : Nat → BX := rns (2 * m) (rst (nfr F) (nfr T)) (ren (nfr F) (nfr T)) (rwt (npr U) O) (rok L H O) (d0, cb0, -1)
  have hB : ∀ k, BI (2 * m) n (rst (nfr F) (nfr T)) (ren (nfr F) (nfr T)) (rwt (npr U) O) (rok L H O) d0 k (2 * m) (X k) := bi_rns hst (bi_init d0 cb0 (-1) hcb)
  have hb0 : bb n 0 ((d0, cb0, -1) : BX).1 := by
    intro v hv
    rcases hd0 v hv with g | g
    · right; dsimp only; omega
    · left; exact g
  have hbb : ∀ k : Nat, bb n (k * (2 * m : Nat)) (X k).1 := bb_rns hst hwt hb0
  have hend : (X n).2.2 = -1 := bi_end hst hp (by omega) (bi_init d0 cb0 (-1) hcb)
  obtain ⟨K', k1, k2, k3⟩ := least_of (P := fun k => (X (k + 1)).2.2 = -1) n ⟨n - 1, by omega, by show (X (n - 1 + 1)).2.2 = -1; rw [show n - 1 + 1 = n by omega]; exact hend⟩
  -- one round
  have hround : ∀ k, k < n → lp (un4 (pX0_measure_l23 (iF H) (iF L) (iF O) (iI m) (iF C) (iF F) (iF T) (iF U))) N (0, 0, iF (X k).1, iF (X k).2.1) = some (iI (if (X (k + 1)).2.2 = -1 then 0 else 1), iI (2 * m : Nat), iF (X (k + 1)).1, iF (X (k + 1)).2.1) := by
    intro k hk
    let Y : Nat → BX := rnk (rst (nfr F) (nfr T)) (ren (nfr F) (nfr T)) (rwt (npr U) O) (rok L H O) ((X k).1, (X k).2.1, -1)
    have hYb : ∀ j, j ≤ 2 * m → bb n (k * (2 * m : Nat) + j) (Y j).1 := bb_rnk hst hwt (x := ((X k).1, (X k).2.1, -1)) (Int.mul_nonneg (by omega) (by omega)) (hbb k)
    have hkm : (k : Int) * (2 * m : Nat) ≤ 168 := by
      have := Int.mul_le_mul (show (k : Int) ≤ 7 by omega) (show ((2 * m : Nat) : Int) ≤ 24 by omega) (by omega) (by omega)
      omega
    have hkm0 : 0 ≤ (k : Int) * (2 * m : Nat) := Int.mul_nonneg (by omega) (by omega)
    refine lp_run (fun j => (iI (if (Y j).2.2 = -1 then 0 else 1), iI (j : Nat), iF (Y j).1, iF (Y j).2.1)) _ (2 * m) (fun j hj => ?_) ?_ (by omega)
    · show pX0_measure_l23 (iF H) (iF L) (iF O) (iI m) (iF C) (iF F) (iF T) (iF U) (iI (if (Y j).2.2 = -1 then 0 else 1)) (iI (j : Nat)) (iF (Y j).1) (iF (Y j).2.1) = _
      unfold pX0_measure_l23
      rw [s_steps, bind_some, le_n (by omega) (by omega) (by omega)]
      rw [s_shorten (ch := (Y j).2.2) h hw (fun v hv => by have := hYb j (by omega) v hv; omega) hj]
      show some (Sum.inr (_, _, _, _)) = some (Sum.inr (_, _, _, _))
      have e1 : Y (j + 1) = rlx (rst (nfr F) (nfr T)) (ren (nfr F) (nfr T)) (rwt (npr U) O) (rok L H O) (Y j) j := rfl
      have e2 : Y j = ((Y j).1, (Y j).2.1, (Y j).2.2) := rfl
      rw [iI_s, e1]
      congr 3
      unfold rlx
      by_cases c : rok L H O j = true ∧ (Y j).1 (rst (nfr F) (nfr T) j) < 1000000 ∧ (Y j).1 (rst (nfr F) (nfr T) j) + rwt (npr U) O j < (Y j).1 (ren (nfr F) (nfr T) j)
      · rw [if_pos c, decide_eq_true c]
        dsimp only
        rw [if_neg (show ¬ ((ren (nfr F) (nfr T) j : Nat) : Int) = -1 by omega)]
        by_cases c2 : (Y j).2.2 = -1
        · rw [if_pos c2]; decide
        · rw [if_neg c2]; decide
      · rw [if_neg c, decide_eq_false c]
        by_cases c2 : (Y j).2.2 = -1
        · rw [if_pos c2]; show iI 0 ||| b2i false = iI 0; decide
        · rw [if_neg c2]; show iI 1 ||| b2i false = iI 1; decide
    · show pX0_measure_l23 _ _ _ _ _ _ _ _ _ _ _ _ = _
      unfold pX0_measure_l23
      rw [s_steps, bind_some, le_y (by omega) (by omega) (by omega)]
      rfl
  refine ⟨(X (K' + 1)).1, (X (K' + 1)).2.1, ?_, bi_done hst hp (by omega) (hB (K' + 1)) k2, fun v hv => ?_⟩
  · unfold pX0_measure
    have hlp : lp (un4 (pX0_measure_l4 N (iF H) (iF L) (iF O) (iI m) (iF C) (iF F) (iI n) (iF T) (iF U))) N (1, 0, iF d0, iF cb0) = some (iI 0, iI ((K' + 1 : Nat) : Int), iF (X (K' + 1)).1, iF (X (K' + 1)).2.1) := by
      refine lp_run (fun k => (iI (if k = 0 then 1 else if (X k).2.2 = -1 then 0 else 1), iI (k : Nat), iF (X k).1, iF (X k).2.1)) _ (K' + 1) (fun k hk => ?_) ?_ (by omega)
      · show pX0_measure_l4 _ _ _ _ _ _ _ _ _ _ _ _ _ _ = _
        unfold pX0_measure_l4
        have e : (if k = 0 then (1 : Int) else if (X k).2.2 = -1 then 0 else 1) = 1 := by
          by_cases c : k = 0
          · rw [if_pos c]
          · rw [if_neg c, if_neg]
            have := k3 (k - 1) (by omega)
            rw [show k - 1 + 1 = k by omega] at this
            exact this
        rw [le_n (by omega) (by omega) (by omega), e, zl0, eq_n (by omega) (by omega) (by omega) (by omega) (by omega)]
        rw [show (iI 0 : Int32) = 0 from rfl, hround k (by omega)]
        show some (Sum.inr (_, _, _, _)) = some (Sum.inr (_, _, _, _))
        rw [iI_s, if_neg (show ¬ k + 1 = 0 by omega)]
      · show pX0_measure_l4 _ _ _ _ _ _ _ _ _ _ _ _ _ _ = _
        unfold pX0_measure_l4
        rw [if_neg (show ¬ K' + 1 = 0 by omega), if_pos k2]
        by_cases c : n ≤ K' + 1
        · rw [le_y (by omega) (by omega) (by omega)]
        · rw [le_n (by omega) (by omega) (by omega), zl0, eq_y rfl]
    rw [hlp]; rfl
  · have := hbb (K' + 1) v hv
    have hkm : ((K' + 1 : Nat) : Int) * (2 * m : Nat) ≤ 192 := by
      have := Int.mul_le_mul (show ((K' + 1 : Nat) : Int) ≤ 8 by omega) (show ((2 * m : Nat) : Int) ≤ 24 by omega) (by omega) (by omega)
      omega
    omega
end X0
