def pX2_arcOf (p0 : Int32) : Option (Int32) :=
  some (p0 >>> (1 &&& 31))
def pX2_goesAlong (p0 : Int32) : Option (Bool) :=
  if (p0 &&& 1) = 0 then
    some true
  else
    some false
def pX2_steps (nA : Int32) : Option (Int32) :=
  some (2 * nA)
def pX2_unitPrice (nC : Nat → Int32) (nU : Nat → Int32) (p0 : Int32) (p1 : Int32) : Option (Int32) :=
  if p1 < 1 then
    some 1000000
  else
    (rd 12 nC p0).bind fun t1 =>
    if p1 ≤ t1 then
      (rd 180 nU (((p0 * 15) + p1) - 1)).bind fun t2 =>
      some t2
    else
      some 1000000
def pX2_lastPrice (nC : Nat → Int32) (nU : Nat → Int32) (p0 : Int32) : Option (Int32) :=
  (rd 12 nC p0).bind fun t1 =>
  (pX2_unitPrice nC nU p0 t1).bind fun r2 =>
  some r2
def pX2_start (nF : Nat → Int32) (nT : Nat → Int32) (p0 : Int32) : Option (Int32) :=
  (pX2_goesAlong p0).bind fun b1 =>
  if (b2i b1) = 0 then
    (pX2_arcOf p0).bind fun r2 =>
    (rd 12 nT r2).bind fun t3 =>
    some t3
  else
    (pX2_arcOf p0).bind fun r4 =>
    (rd 12 nF r4).bind fun t5 =>
    some t5
def pX2_end (nF : Nat → Int32) (nT : Nat → Int32) (p0 : Int32) : Option (Int32) :=
  (pX2_goesAlong p0).bind fun b1 =>
  if (b2i b1) = 0 then
    (pX2_arcOf p0).bind fun r2 =>
    (rd 12 nF r2).bind fun t3 =>
    some t3
  else
    (pX2_arcOf p0).bind fun r4 =>
    (rd 12 nT r4).bind fun t5 =>
    some t5
def pX2_addPiece_l3 (p0 : Int32) (p1 : Int32) (p2 : Int32) (x4_1 : Int32) (nC_2 : Nat → Int32) (nU_3 : Nat → Int32) : Option ((Int32 × (Nat → Int32) × (Nat → Int32)) ⊕ (Int32 × (Nat → Int32) × (Nat → Int32))) :=
  if p1 ≤ x4_1 then
    some (.inl ((x4_1, nC_2, nU_3)))
  else
    (rd 12 nC_2 p0).bind fun t4 =>
    if 15 ≤ t4 then
      some (.inl ((x4_1, nC_2, nU_3)))
    else
      (rd 12 nC_2 p0).bind fun t5 =>
      (wr 180 nU_3 ((p0 * 15) + t5) p2).bind fun nU_6 =>
      (rd 12 nC_2 p0).bind fun t7 =>
      (wr 12 nC_2 p0 (t7 + 1)).bind fun nC_8 =>
      some (.inr ((x4_1 + 1, nC_8, nU_6)))
def pX2_addPiece (N : Nat) (nP : Nat → Int32) (nC : Nat → Int32) (nU : Nat → Int32) (p0 : Int32) (p1 : Int32) (p2 : Int32) : Option ((Nat → Int32) × (Nat → Int32) × (Nat → Int32)) :=
  bnd3 (lp (un3 (pX2_addPiece_l3 p0 p1 p2)) N ((0, nC, nU))) fun x4_9 nC_10 nU_11 =>
  (rd 12 nP p0).bind fun t12 =>
  (wr 12 nP p0 (t12 + 1)).bind fun nP_13 =>
  some ((nP_13, nC_10, nU_11))
def pX2_addArc (N : Nat) (nA : Int32) (nF : Nat → Int32) (nT : Nat → Int32) (nP : Nat → Int32) (nC : Nat → Int32) (nU : Nat → Int32) (p0 : Int32) (p1 : Int32) (p2 : Int32) (p3 : Int32) : Option (Int32 × Int32 × (Nat → Int32) × (Nat → Int32) × (Nat → Int32) × (Nat → Int32) × (Nat → Int32)) :=
  if nA < 12 then
    (wr 12 nF nA p0).bind fun nF_1 =>
    (wr 12 nT nA p1).bind fun nT_2 =>
    bnd3 (pX2_addPiece N nP nC nU nA p2 p3) fun nP_3 nC_4 nU_5 =>
    some ((nA, nA + 1, nF_1, nT_2, nP_3, nC_4, nU_5))
  else
    some (((-1), nA, nF, nT, nP, nC, nU))
