def pX1_nextPrice (nC : Nat → Int32) (nU : Nat → Int32) (dT : Nat → Int32) (p0 : Int32) : Option (Int32) :=
  (rd 12 dT p0).bind fun t1 =>
  (pX2_unitPrice nC nU p0 (t1 + 1)).bind fun r2 =>
  some r2
def pX1_weightBy (nT : Nat → Int32) (nC : Nat → Int32) (nU : Nat → Int32) (dT : Nat → Int32) (dW : Nat → Int32) (p0 : Int32) : Option (Int32) :=
  (rd 12 dT p0).bind fun t1 =>
  (rd 12 nC p0).bind fun t2 =>
  if t2 ≤ t1 then
    some 1000000
  else
    (rd 12 nT p0).bind fun t3 =>
    (rd 8 dW t3).bind fun t4 =>
    if t4 < 1000000 then
      (pX1_nextPrice nC nU dT p0).bind fun r5 =>
      (rd 12 nT p0).bind fun t6 =>
      (rd 8 dW t6).bind fun t7 =>
      some (((r5 * 16) + 1) + t7)
    else
      some 1000000
def pX1_bestArcFrom_l2 (dT : Nat → Int32) (dW : Nat → Int32) (nA : Int32) (nC : Nat → Int32) (nF : Nat → Int32) (nT : Nat → Int32) (nU : Nat → Int32) (p0 : Int32) (x2_1 : Int32) : Option ((Int32 ⊕ (Int32)) ⊕ Int32) :=
  if nA ≤ x2_1 then
    some (.inl (.inl x2_1))
  else
    (rd 12 nF x2_1).bind fun t2 =>
    if t2 = p0 then
      (pX1_weightBy nT nC nU dT dW x2_1).bind fun r3 =>
      (rd 8 dW p0).bind fun t4 =>
      if r3 = t4 then
        some (.inl (.inr x2_1))
      else
        some (.inr (x2_1 + 1))
    else
      some (.inr (x2_1 + 1))
def pX1_bestArcFrom (N : Nat) (nA : Int32) (nF : Nat → Int32) (nT : Nat → Int32) (nC : Nat → Int32) (nU : Nat → Int32) (dT : Nat → Int32) (dW : Nat → Int32) (p0 : Int32) : Option (Int32) :=
  (lp (pX1_bestArcFrom_l2 dT dW nA nC nF nT nU p0) N 0).bind (sel (fun x2_5 =>
    some ((-1))))
def pX1_weighWaysTo_l2 (nN : Int32) (p0 : Int32) (x2_1 : Int32) (dW_2 : Nat → Int32) : Option ((Int32 × (Nat → Int32)) ⊕ (Int32 × (Nat → Int32))) :=
  if nN ≤ x2_1 then
    some (.inl ((x2_1, dW_2)))
  else
    if x2_1 = p0 then
      (wr 8 dW_2 x2_1 0).bind fun dW_4 =>
      some (.inr ((x2_1 + 1, dW_4)))
    else
      (wr 8 dW_2 x2_1 1000000).bind fun dW_3 =>
      some (.inr ((x2_1 + 1, dW_3)))
def pX1_weighWaysTo_l60 (dT : Nat → Int32) (nA : Int32) (nC : Nat → Int32) (nF : Nat → Int32) (nT : Nat → Int32) (nU : Nat → Int32) (x2_10 : Int32) (x4_11 : Int32) (dW_12 : Nat → Int32) : Option ((Int32 × Int32 × (Nat → Int32)) ⊕ (Int32 × Int32 × (Nat → Int32))) :=
  if nA ≤ x4_11 then
    some (.inl ((x2_10, x4_11, dW_12)))
  else
    (pX1_weightBy nT nC nU dT dW_12 x4_11).bind fun r13 =>
    (rd 12 nF x4_11).bind fun t14 =>
    (rd 8 dW_12 t14).bind fun t15 =>
    if t15 ≤ r13 then
      some (.inr ((x2_10, x4_11 + 1, dW_12)))
    else
      (rd 12 nF x4_11).bind fun t16 =>
      (wr 8 dW_12 t16 r13).bind fun dW_17 =>
      some (.inr ((1, x4_11 + 1, dW_17)))
def pX1_weighWaysTo_l40 (N : Nat) (dT : Nat → Int32) (nA : Int32) (nC : Nat → Int32) (nF : Nat → Int32) (nN : Int32) (nT : Nat → Int32) (nU : Nat → Int32) (x2_7 : Int32) (x3_8 : Int32) (dW_9 : Nat → Int32) : Option ((Int32 × Int32 × (Nat → Int32)) ⊕ (Int32 × Int32 × (Nat → Int32))) :=
  if nN ≤ x3_8 then
    some (.inl ((x2_7, x3_8, dW_9)))
  else
    if x2_7 = 0 then
      some (.inl ((x2_7, x3_8, dW_9)))
    else
      bnd3 (lp (un3 (pX1_weighWaysTo_l60 dT nA nC nF nT nU)) N ((0, 0, dW_9))) fun x2_18 x4_19 dW_20 =>
      some (.inr ((x2_18, x3_8 + 1, dW_20)))
def pX1_weighWaysTo (N : Nat) (nN : Int32) (nA : Int32) (nF : Nat → Int32) (nT : Nat → Int32) (nC : Nat → Int32) (nU : Nat → Int32) (dT : Nat → Int32) (dW : Nat → Int32) (p0 : Int32) : Option ((Nat → Int32)) :=
  bnd2 (lp (un2 (pX1_weighWaysTo_l2 nN p0)) N ((0, dW))) fun x2_5 dW_6 =>
  bnd3 (lp (un3 (pX1_weighWaysTo_l40 N dT nA nC nF nN nT nU)) N ((1, 0, dW_6))) fun x2_21 x3_22 dW_23 =>
  some dW_23
def pX1_drive_l8 (N : Nat) (dW : Nat → Int32) (nA : Int32) (nC : Nat → Int32) (nF : Nat → Int32) (nN : Int32) (nT : Nat → Int32) (nU : Nat → Int32) (p1 : Int32) (x3_1 : Int32) (x4_2 : Int32) (x5_3 : Int32) (dT_4 : Nat → Int32) : Option (((Int32 × Int32 × Int32 × (Nat → Int32)) ⊕ (Int32 × (Nat → Int32))) ⊕ (Int32 × Int32 × Int32 × (Nat → Int32))) :=
  if nN ≤ x5_3 then
    some (.inl (.inl ((x3_1, x4_2, x5_3, dT_4))))
  else
    if x4_2 = p1 then
      some (.inl (.inl ((x3_1, x4_2, x5_3, dT_4))))
    else
      (pX1_bestArcFrom N nA nF nT nC nU dT_4 dW x4_2).bind fun r5 =>
      if r5 = ((-1)) then
        some (.inl (.inr ((x3_1, dT_4))))
      else
        (pX1_nextPrice nC nU dT_4 r5).bind fun r6 =>
        (rd 12 nT r5).bind fun t7 =>
        (rd 12 dT_4 r5).bind fun t8 =>
        (wr 12 dT_4 r5 (t8 + 1)).bind fun dT_9 =>
        some (.inr ((x3_1 + r6, t7, x5_3 + 1, dT_9)))
def pX1_drive (N : Nat) (nN : Int32) (nA : Int32) (nF : Nat → Int32) (nT : Nat → Int32) (nC : Nat → Int32) (nU : Nat → Int32) (dT : Nat → Int32) (dW : Nat → Int32) (p0 : Int32) (p1 : Int32) : Option (Int32 × (Nat → Int32)) :=
  (lp (un4 (pX1_drive_l8 N dW nA nC nF nN nT nU p1)) N ((0, p0, 0, dT))).bind (sel (un4 fun x3_10 x4_11 x5_12 dT_13 =>
    some ((x3_10, dT_13))))
def pX1_comeOneByOne_l3 (nA : Int32) (x4_1 : Int32) (dT_2 : Nat → Int32) : Option ((Int32 × (Nat → Int32)) ⊕ (Int32 × (Nat → Int32))) :=
  if nA ≤ x4_1 then
    some (.inl ((x4_1, dT_2)))
  else
    (wr 12 dT_2 x4_1 0).bind fun dT_3 =>
    some (.inr ((x4_1 + 1, dT_3)))
def pX1_comeOneByOne_l47 (N : Nat) (nA : Int32) (nC : Nat → Int32) (nF : Nat → Int32) (nN : Int32) (nT : Nat → Int32) (nU : Nat → Int32) (p0 : Int32) (p1 : Int32) (p2 : Int32) (x4_6 : Int32) (dFo_7 : Int32) (dPa_8 : Int32) (dLa_9 : Int32) (dT_10 : Nat → Int32) (dW_11 : Nat → Int32) : Option (((Int32 × Int32 × Int32 × Int32 × (Nat → Int32) × (Nat → Int32)) ⊕ (Int32 × Int32 × Int32 × (Nat → Int32) × (Nat → Int32))) ⊕ (Int32 × Int32 × Int32 × Int32 × (Nat → Int32) × (Nat → Int32))) :=
  if p2 ≤ x4_6 then
    some (.inl (.inl ((x4_6, dFo_7, dPa_8, dLa_9, dT_10, dW_11))))
  else
    (pX1_weighWaysTo N nN nA nF nT nC nU dT_10 dW_11 p1).bind fun dW_12 =>
    (rd 8 dW_12 p0).bind fun t13 =>
    if t13 < 1000000 then
      bnd2 (pX1_drive N nN nA nF nT nC nU dT_10 dW_12 p0 p1) fun r14 dT_15 =>
      some (.inr ((x4_6 + 1, dFo_7 + 1, dPa_8 + r14, r14, dT_15, dW_12)))
    else
      some (.inl (.inr ((dFo_7, dPa_8, dLa_9, dT_10, dW_12))))
def pX1_comeOneByOne (N : Nat) (nN : Int32) (nA : Int32) (nF : Nat → Int32) (nT : Nat → Int32) (nC : Nat → Int32) (nU : Nat → Int32) (dT : Nat → Int32) (dW : Nat → Int32) (p0 : Int32) (p1 : Int32) (p2 : Int32) : Option (Int32 × Int32 × Int32 × (Nat → Int32) × (Nat → Int32)) :=
  bnd2 (lp (un2 (pX1_comeOneByOne_l3 nA)) N ((0, dT))) fun x4_4 dT_5 =>
  (lp (un6 (pX1_comeOneByOne_l47 N nA nC nF nN nT nU p0 p1 p2)) N ((0, 0, 0, (-1), dT_5, dW))).bind (sel (un6 fun x4_16 dFo_17 dPa_18 dLa_19 dT_20 dW_21 =>
    some ((dFo_17, dPa_18, dLa_19, dT_20, dW_21))))
