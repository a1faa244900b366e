/-! rows of my own: the two claims can't both hold, at a start whose script is forty times 16777218 -/
theorem y_same {tb : Tables} {e : Env} {s : State} {below : List Frame} {n1 n2 : Nat} {o1 o2 : Outcome} (w1 : ∀ k, k < n1 → Within (stepsAlone tb e k s) below) (e1 : Ended (stepsAlone tb e n1 s) below o1) (w2 : ∀ k, k < n2 → Within (stepsAlone tb e k s) below) (e2 : Ended (stepsAlone tb e n2 s) below o2) : n1 = n2 ∧ o1 = o2 := by
  have h : n1 = n2 := by
    rcases Nat.lt_trichotomy n1 n2 with h | h | h
    · exact absurd (w2 n1 h) e1.not_within
    · exact h
    · exact absurd (w1 n2 h) e2.not_within
  subst h
  exact ⟨rfl, e1.outcome_unique e2⟩
theorem y_rep : ∀ k : Nat, k < 40 → (List.replicate 40 (16777218 : Int32)).getD k 0 = 16777218 := by decide +kernel
theorem no_vc_at (l : Launch) (hflags : l.flags = flags0) (hLs : Lists l classFile x code maxLocals ret tables_1 room_1) (p : Program) (e : Env) (ha : l.admits e) (hc : FairCas e.choices) (hk : FairClock e.choices) (s : State) (m : MethodId) (b : Addr) (below : List Frame)
    (hf : s.frames = .invoking m #[.ref b] :: below) (hfit : argsFit s.vm m #[.ref b] = true) (hheap : heapFits s = true) (happ : (headSpec (Jvm.Cond.code x code maxLocals ret :: tables_1) room_1).applies x e.platform s = true) (hroom : s.hasRoom e.platform rB = true)
    (hpre : Calls_1 p.tables e #[.ref b] s ∧ rest_1 p.tables e #[.ref b] s ∧ Pre_1 p.tables e #[.ref b] s) (hI : s.IntsAt b (List.replicate 40 16777218)) : ¬ (Claimed_1_1 ∧ Claimed_1_2) := by
  rintro ⟨h1, h2⟩
  obtain ⟨n1, o1, w1, r1, e1, q1⟩ := h1 l hflags hLs trivial p e ha hc hk s m #[.ref b] below hf hfit hheap happ hpre
  obtain ⟨n2, o2, w2, r2, e2, q2⟩ := h2 l hflags hLs trivial p e ha hc hk s m #[.ref b] below hf hfit hheap happ hpre
  obtain ⟨g1, g2, g3, g4, g5, g6, -, g8⟩ := (Spec.applies_iff hf).mp happ
  have happB : (headSpec (Jvm.Cond.code x code maxLocals ret :: tables_1) rB).applies x e.platform s = true := (Spec.applies_iff hf).mpr ⟨g1, g2, g3, g4, g5, g6, hroom, g8⟩
  obtain ⟨scr, harrAt, hlist, hof, hsmall⟩ := hI
  obtain ⟨hcb, hkn, -, -⟩ := State.arrayAt?_spec harrAt
  have hsz : scr.slots.size = 40 := by
    rw [← Array.length_toList, hlist, List.length_map, List.length_replicate]
  have hval : ∀ j : Nat, j < 40 → scr.slots[j]? = some (.int ((List.replicate 40 (16777218 : Int32)).getD j 0)) := fun j hj => by
    rw [y_rep j hj, ← Array.getElem?_toList, hlist, List.map_replicate, List.getElem?_replicate, if_pos hj]
  have hbl : b < s.heap.size := (Array.getElem?_eq_some_iff.mp hcb).1
  have hX : va_X b 40 (fun j => (List.replicate 40 (16777218 : Int32)).getD j 0) s s.heap := ⟨scr, hcb, hof, hkn, hsz, hval⟩
  have hP : va_Pc [.ref b] (PreB b 40 (fun j => (List.replicate 40 (16777218 : Int32)).getD j 0) s.heap.size) #[.ref b] s := ⟨rfl, rfl, hX, hbl, hpre.2.2⟩
  obtain ⟨n3, o3, w3, r3, e3, q3, -⟩ := c_law l hflags b 40 (fun j => (List.replicate 40 (16777218 : Int32)).getD j 0) s.heap.size (Nat.le_refl 40) (by decide) y_rep p e ha hc hk s m #[.ref b] below hf ((Spec.applies_iff_loose hf).mp happB).1 hP trivial
  obtain ⟨-, q1⟩ := q1
  obtain ⟨q2, -⟩ := q2
  obtain ⟨hn2, ho2⟩ := y_same w1 e1 w2 e2
  obtain ⟨hn3, ho3⟩ := y_same w1 e1 w3 e3
  subst hn2 ho2 hn3 ho3
  rcases q3 with q3 | q3
  · have g : limb_1_2.after #[.ref b] s o1 (stepsAlone p.tables e n1 s) = true := q2
    rw [q3] at g
    have g := Cond.after_iff.mp g
    rw [show limb_1_2 = Cond.eq .result (.int 1) from rfl, Cond.eq_ints (x := 0) (y := 1) rfl rfl] at g
    exact absurd g (by decide)
  · obtain ⟨-, -, -, -, hle, -⟩ := q1
    have hle : (stepsAlone p.tables e n1 s).heap.size ≤ s.heap.size + 150 := hle
    omega
