/-! rows of my own: units and circles: flips along a way -/
section UNT
variable {n m : Nat} {F T C U τ : Nat → Int} {cb : Nat → Int} {v : Nat}
def ust (F T τ : Nat → Int) (u : Nat) : Nat := if τ u = 0 then nfr F (u / 15) else nfr T (u / 15)
def uen (F T τ : Nat → Int) (u : Nat) : Nat := if τ u = 0 then nfr T (u / 15) else nfr F (u / 15)
def uok (C : Nat → Int) (u : Nat) : Bool := decide (((u % 15 : Nat) : Int) < C (u / 15))
def uwt (U τ : Nat → Int) (u : Nat) : Int := if τ u = 0 then U u else -U u
def UOK (m : Nat) (C τ : Nat → Int) : Prop := ∀ u, u < 15 * m → (τ u = 0 ∨ τ u = 1) ∧ (τ u = 1 → uok C u = true)
def unet (m : Nat) (F T τ : Nat → Int) (w : Nat) : Int := net (15 * m) (fun u => nfr F (u / 15)) (fun u => nfr T (u / 15)) τ w
def uc (m : Nat) (U τ : Nat → Int) : Int := sm (fun u => τ u * U u) (15 * m)
theorem u_st (h : NW n m F T C U) (τ : Nat → Int) : ∀ u, u < 15 * m → uok C u = true → ust F T τ u < n ∧ uen F T τ u < n ∧ ust F T τ u ≠ uen F T τ u := by
  intro u hu _
  have := nw_ft h (u / 15) (by omega)
  unfold ust uen
  by_cases c : τ u = 0
  · rw [if_pos c, if_pos c]; exact this
  · rw [if_neg c, if_neg c]; exact ⟨this.2.1, this.1, fun e => this.2.2 e.symm⟩
theorem u_pr (h : NW n m F T C U) {u : Nat} (hu : u < 15 * m) (ho : uok C u = true) : 0 ≤ U u ∧ U u ≤ 99 := by
  have hc := of_decide_eq_true ho
  have := h.2.2.2.2.1 (u / 15) (by omega) (u % 15 + 1) (by omega) (by omega)
  have e : npr U (u / 15) (u % 15 + 1) = U u := by show U (15 * (u / 15) + (u % 15 + 1) - 1) = U u; congr 1; omega
  rw [e] at this
  exact this
theorem sm_up (f U : Nat → Int) (k : Nat) (y : Int) : ∀ n : Nat, sm (fun u => up f k y u * U u) n = sm (fun u => f u * U u) n + (if k < n then (y - f k) * U k else 0) := by
  intro n
  induction n with
  | zero => rw [if_neg (by omega)]; rfl
  | succ n ih =>
    show sm (fun u => up f k y u * U u) n + up f k y n * U n = sm (fun u => f u * U u) n + f n * U n + _
    rw [ih]
    by_cases c : n = k
    · subst c
      rw [up_eq, if_neg (by omega), if_pos (by omega), Int.sub_mul]; omega
    · rw [up_ne _ _ c]
      by_cases c2 : k < n
      · rw [if_pos c2, if_pos (by omega)]; omega
      · rw [if_neg c2, if_neg (by omega)]; omega
def fl (τ : Nat → Int) (st : Nat → Nat) (cb : Nat → Int) (v : Nat) : Nat → (Nat → Int)
  | 0 => τ
  | i + 1 => up (fl τ st cb v i) (cb (agn st cb v i)).toNat (1 - τ (cb (agn st cb v i)).toNat)
/-- a way back: K steps, each from a new node -/
def Way (m : Nat) (F T C τ cb : Nat → Int) (v K : Nat) : Prop :=
  (∀ i, i < K → ∃ u : Nat, u < 15 * m ∧ uok C u = true ∧ cb (agn (ust F T τ) cb v i) = (u : Int) ∧ uen F T τ u = agn (ust F T τ) cb v i) ∧ ∀ i j, i < j → j < K → agn (ust F T τ) cb v i ≠ agn (ust F T τ) cb v j
theorem fl_inv (hτ : UOK m C τ) {K : Nat} (hW : Way m F T C τ cb v K) : ∀ i, i ≤ K → UOK m C (fl τ (ust F T τ) cb v i) ∧ (∀ w, unet m F T (fl τ (ust F T τ) cb v i) w = unet m F T τ w + (if agn (ust F T τ) cb v i = w then 1 else 0) - (if v = w then 1 else 0)) ∧
    uc m U (fl τ (ust F T τ) cb v i) = uc m U τ + sm (fun j => uwt U τ (cb (agn (ust F T τ) cb v j)).toNat) i ∧ ∀ j, i ≤ j → j < K → fl τ (ust F T τ) cb v i (cb (agn (ust F T τ) cb v j)).toNat = τ (cb (agn (ust F T τ) cb v j)).toNat := by
  intro i
  induction i with
  | zero =>
    intro _
    refine ⟨hτ, fun w => ?_, ?_, fun j _ _ => rfl⟩
    · show unet m F T τ w = unet m F T τ w + (if v = w then 1 else 0) - (if v = w then 1 else 0); omega
    · show uc m U τ = uc m U τ + 0; omega
  | succ i ih =>
    intro hi
    obtain ⟨h1, h2, h3, h4⟩ := ih (by omega)
    obtain ⟨u, u1, u2, u3, u4⟩ := hW.1 i (by omega)
    have e1 : (cb (agn (ust F T τ) cb v i)).toNat = u := by rw [u3]; rfl
    have hfu := h4 i (Nat.le_refl _) (by omega)
    rw [e1] at hfu
    have hx : agn (ust F T τ) cb v (i + 1) = ust F T τ u := by
      show ust F T τ (cb (agn (ust F T τ) cb v i)).toNat = _
      rw [e1]
    have hf : fl τ (ust F T τ) cb v (i + 1) = up (fl τ (ust F T τ) cb v i) u (1 - τ u) := by
      show up _ _ _ = _
      rw [e1]
    have hu01 := hτ u u1
    refine ⟨?_, fun w => ?_, ?_, fun j hj hjK => ?_⟩
    · rw [hf]
      intro q hq
      by_cases c : q = u
      · subst c
        rw [up_eq]
        refine ⟨by omega, fun _ => u2⟩
      · rw [up_ne _ _ c]; exact h1 q hq
    · rw [hf, hx, show (1 - τ u) = fl τ (ust F T τ) cb v i u + (1 - 2 * τ u) by rw [hfu]; omega]
      unfold unet at h2 ⊢
      rw [net_up (m := 15 * m) (fr := fun u => nfr F (u / 15)) (to := fun u => nfr T (u / 15)) u1 _ _ w, h2 w, ← u4]
      rcases hu01.1 with c | c
      · rw [show ust F T τ u = nfr F (u / 15) from if_pos c, show uen F T τ u = nfr T (u / 15) from if_pos c, c]; omega
      · rw [show ust F T τ u = nfr T (u / 15) from if_neg (by omega), show uen F T τ u = nfr F (u / 15) from if_neg (by omega), c]
        have k1 : (if nfr F (u / 15) = w then (1 - 2 * 1 : Int) else 0) = -(if nfr F (u / 15) = w then (1 : Int) else 0) := by split <;> rfl
        have k2 : (if nfr T (u / 15) = w then (1 - 2 * 1 : Int) else 0) = -(if nfr T (u / 15) = w then (1 : Int) else 0) := by split <;> rfl
        rw [k1, k2]
        omega
    · rw [hf]
      unfold uc at h3 ⊢
      rw [sm_up, h3, if_pos u1, hfu]
      show _ = _ + (sm _ i + uwt U τ (cb (agn (ust F T τ) cb v i)).toNat)
      rw [e1]
      unfold uwt
      rcases hu01.1 with c | c
      · rw [if_pos c, c]; omega
      · rw [if_neg (by omega), c]; omega
    · rw [hf]
      obtain ⟨q, q1, q2, q3, q4⟩ := hW.1 j hjK
      have e2 : (cb (agn (ust F T τ) cb v j)).toNat = q := by rw [q3]; rfl
      have := h4 j (by omega) hjK
      rw [e2] at this ⊢
      rw [up_ne _ _ (fun e => by
        rw [e] at q4
        exact hW.2 i j (by omega) hjK (u4.symm.trans q4))]
      exact this
theorem way_lt (h : NW n m F T C U) {K : Nat} (hv : v < n) (hW : Way m F T C τ cb v K) : ∀ i, i ≤ K → agn (ust F T τ) cb v i < n := by
  intro i hi
  cases i with
  | zero => exact hv
  | succ i =>
    obtain ⟨u, u1, u2, u3, u4⟩ := hW.1 i (by omega)
    show ust F T τ (cb (agn (ust F T τ) cb v i)).toNat < n
    rw [u3]
    exact (u_st h τ u u1 u2).1
theorem idiv15 {u : Nat} (hu : u < 180) : iI u / 15 = iI ((u / 15 : Nat) : Int) := by
  rw [zl15]
  apply Int32.toInt_inj.mp
  rw [Int32.toInt_div, iI_toInt (by omega) (by omega), iI_toInt (by omega) (by omega), iI_toInt (by omega) (by omega), Int.tdiv_eq_ediv_of_nonneg (by omega), show ((u : Int)) / 15 = ((u / 15 : Nat) : Int) by omega]
  exact Int.bmod_eq_of_le (by omega) (by omega)
theorem s3_before (h : NW n m F T C U) {τ' : Nat → Int} (hτ : UOK m C τ) {x u : Nat} (hx : x < n) (hu : u < 15 * m) (hc : cb x = (u : Int)) (he : τ' u = τ u) : pX3_nodeBefore (iF F) (iF T) (iF τ') (iF cb) (iI x) = some (iI (ust F T τ u : Nat)) := by
  have hn := h.2.1
  have hm := h.2.2.1
  have hC := h.2.2.2.1 (u / 15) (by omega)
  have h01 := hτ u hu
  unfold pX3_nodeBefore
  rw [rd_n (by omega) (by omega), bind_some, hc, zlm, eq_n (by omega) (by omega) (by omega) (by omega) (by omega), rd_n (by omega) (by omega), bind_some, he, idiv15 (by omega)]
  unfold ust
  rcases h01.1 with c | c
  · rw [eq0_y c, rd_n (by omega) (by omega), bind_some, if_pos c]
    congr 2
    show F (u / 15) = ((F (u / 15)).toNat : Int)
    omega
  · rw [eq0_n (by omega) (by omega) (by omega), rd_n (by omega) (by omega), bind_some, if_neg (by omega)]
    congr 2
    show T (u / 15) = ((T (u / 15)).toNat : Int)
    omega
theorem s3_turn (h : NW n m F T C U) (hτ : UOK m C τ) {K : Nat} (hv : v < n) (hW : Way m F T C τ cb v K) {z : Nat} (hz : z < n) (hK : agn (ust F T τ) cb v K = z) : ∀ (r i cnt M : Nat), i + r = K → (∀ j, i ≤ j → j < K → agn (ust F T τ) cb v j ≠ z) → cnt + r < n → r < M →
    lp (un3 (pX3_turnBack_l5 (iF F) (iI n) (iF T) (iI z) (iF cb))) M (iI (agn (ust F T τ) cb v i : Nat), iI cnt, iF (fl τ (ust F T τ) cb v i)) = some (.inl (iI z, iI ((cnt + r : Nat) : Int), iF (fl τ (ust F T τ) cb v K))) := by
  have hn := h.2.1
  have hm := h.2.2.1
  intro r
  induction r with
  | zero =>
    intro i cnt M hi hne hc hM
    obtain ⟨M, rfl⟩ : ∃ q, M = q + 1 := ⟨M - 1, by omega⟩
    have : i = K := by omega
    subst this
    apply lp_l
    rw [hK]
    show pX3_turnBack_l5 _ _ _ _ _ _ _ _ = _
    unfold pX3_turnBack_l5
    rw [le_n (by omega) (by omega) (by omega), if_pos rfl]
    rfl
  | succ r ih =>
    intro i cnt M hi hne hc hM
    obtain ⟨M, rfl⟩ : ∃ q, M = q + 1 := ⟨M - 1, by omega⟩
    obtain ⟨u, u1, u2, u3, u4⟩ := hW.1 i (by omega)
    have e1 : (cb (agn (ust F T τ) cb v i)).toNat = u := by rw [u3]; rfl
    have hxi := way_lt h hv hW i (by omega)
    have hx1 := way_lt h hv hW (i + 1) (by omega)
    have hx : agn (ust F T τ) cb v (i + 1) = ust F T τ u := by
      show ust F T τ (cb (agn (ust F T τ) cb v i)).toNat = _
      rw [e1]
    have hfu := (fl_inv (U := U) hτ hW i (by omega)).2.2.2 i (Nat.le_refl _) (by omega)
    rw [e1] at hfu
    have h01 := hτ u u1
    have e : un3 (pX3_turnBack_l5 (iF F) (iI n) (iF T) (iI z) (iF cb)) (iI (agn (ust F T τ) cb v i : Nat), iI cnt, iF (fl τ (ust F T τ) cb v i)) = some (.inr (iI (agn (ust F T τ) cb v (i + 1) : Nat), iI ((cnt + 1 : Nat) : Int), iF (fl τ (ust F T τ) cb v (i + 1)))) := by
      show pX3_turnBack_l5 (iF F) (iI n) (iF T) (iI z) (iF cb) (iI (agn (ust F T τ) cb v i : Nat)) (iI cnt) (iF (fl τ (ust F T τ) cb v i)) = _
      have hne' := hne i (Nat.le_refl _) (by omega)
      unfold pX3_turnBack_l5
      rw [le_n (by omega) (by omega) (by omega), eq_n (by omega) (by omega) (by omega) (by omega) (by omega), rd_n (by omega) (by omega), bind_some, s3_before h hτ hxi u1 u3 hfu, bind_some, zlm, eq_n (by omega) (by omega) (by omega) (by omega) (by omega), u3, rd_n (by omega) (by omega), bind_some, hfu]
      have hf : fl τ (ust F T τ) cb v (i + 1) = up (fl τ (ust F T τ) cb v i) u (1 - τ u) := by
        show up _ _ _ = _
        rw [e1]
      rw [hx, hf]
      rcases h01.1 with c | c
      · rw [eq0_y c, zl1, wr_n (by omega) (by omega), bind_some, ← zl1, iI_s, c]; rfl
      · rw [eq0_n (by omega) (by omega) (by omega), zl0, wr_n (by omega) (by omega), bind_some, iI_s, c]; rfl
    rw [lp_r e, ih (i + 1) (cnt + 1) M (by omega) (fun j h1 h2 => hne j (by omega) h2) (by omega) (by omega), show cnt + 1 + r = cnt + (r + 1) by omega]
end UNT
