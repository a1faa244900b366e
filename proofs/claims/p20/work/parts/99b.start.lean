/-! rows of my own: a start of that script (over names of the printed witness: for a whole round alone) -/
def st2 : State := start1.aboutOf (List.replicate 40 (Value.int 16777218)).toArray
set_option maxRecDepth 16384 in
theorem st2_all : List.all (Cond.code x code maxLocals ret :: tables_1) (fun c => vx_ot c || c.before start1.args0 st2) = true := by decide +kernel
theorem st2_words : ∀ c ∈ (Cond.code x code maxLocals ret :: tables_1), c.before start1.args0 st2 = true := by
  intro c hc
  have g := List.all_eq_true.mp st2_all c hc
  simp only [Bool.or_eq_true] at g
  rcases g with g | g
  · exact vx_ot_at (s := start1.about) (U := st2) (State.WarmedH.refl start1.about) rfl g (start1.words c hc)
  · exact g
set_option maxRecDepth 16384 in
theorem st2_ints : st2.IntsAt 0 (List.replicate 40 16777218) := by
  have hs := flat_of_before _ (show (Cond.and given_1 narrow_1).before start1.args0 st2 = true by decide +kernel)
  have hq := flat_of_before _ (show rest_1_c.before start1.args0 st2 = true by decide +kernel)
  have harr : (Cond.arrayOf (.arg 0) .int).before start1.args0 st2 = true := hs _ (by decide +kernel)
  have hlen : (Cond.isInt (.length (.arg 0))).before start1.args0 st2 = true := hq _ (by decide +kernel)
  have hall : (Cond.all (.arg 0) (.isInt (.elem (.arg 0) (.index 0)))).before start1.args0 st2 = true := hq _ (by decide +kernel)
  obtain ⟨b, xs, hb, hI⟩ := State.ints_of_pre rfl harr hlen hall
  have hb0 : b = 0 := by
    have h9 : (some (Value.ref 0) : Option Value) = some (.ref b) := hb
    cases h9
    rfl
  subst hb0
  obtain ⟨scr, h1, h2, h3, h4⟩ := hI
  obtain ⟨hc, -, -, -⟩ := State.arrayAt?_spec h1
  have e : scr = { cls := 15, slots := (List.replicate 40 (Value.int 16777218)).toArray, vm := .none } := (Option.some.inj (hc.symm.trans rfl : some scr = some _))
  have e2 : xs.map Value.int = (List.replicate 40 (16777218 : Int32)).map Value.int := by
    rw [← h2, e]
    rfl
  have e3 : xs = List.replicate 40 16777218 := List.map_inj_right (fun a b h => by cases h; rfl) |>.mp e2
  rw [← e3]
  exact ⟨scr, h1, h2, h3, h4⟩
set_option maxRecDepth 16384 in
/-- THE STATEMENT IS FALSE: its two halves can't both hold -/
theorem no_vc : ¬ (Claimed_1_1 ∧ Claimed_1_2) :=
  no_vc_at launch0 rfl lists_1 start1.p0 start1.e0 (launch0.admits_env _ _ _) fairChoices_fair.cas fairChoices_fair.clock st2 ⟨0, 0⟩ 0 Lib.HandBits.below0 rfl (by decide +kernel) (by decide +kernel)
    ((Spec.applies_iff rfl).mpr ⟨rfl, rfl, rfl, by decide +kernel, by decide +kernel, by decide +kernel, launch0.hasRoom_least _ room_1 (by decide +kernel) (by decide +kernel) (by decide +kernel) (by decide +kernel) (by decide +kernel) (by decide +kernel), atoms_intro st2_words⟩)
    (launch0.hasRoom_least _ rB (by decide +kernel) (by decide +kernel) (by decide +kernel) (by decide +kernel) (by decide +kernel) (by decide +kernel))
    ⟨trivial, (show rest_1_c.before start1.args0 st2 = true by decide +kernel), (show (Cond.and given_1 narrow_1).before start1.args0 st2 = true by decide +kernel)⟩ st2_ints
