def pX0_roomOf (cO : Nat → Int32) (cL : Nat → Int32) (cH : Nat → Int32) (p0 : Int32) : Option (Int32) :=
  (pX2_arcOf p0).bind fun r1 =>
  (pX2_goesAlong p0).bind fun b2 =>
  if (b2i b2) = 0 then
    (rd 12 cO r1).bind fun t3 =>
    (rd 12 cL r1).bind fun t4 =>
    some (t3 - t4)
  else
    (rd 12 cH r1).bind fun t5 =>
    (rd 12 cO r1).bind fun t6 =>
    some (t5 - t6)
def pX0_priceOf (nC : Nat → Int32) (nU : Nat → Int32) (cO : Nat → Int32) (p0 : Int32) : Option (Int32) :=
  (pX2_arcOf p0).bind fun r1 =>
  (pX2_goesAlong p0).bind fun b2 =>
  if (b2i b2) = 0 then
    (rd 12 cO r1).bind fun t3 =>
    (pX2_unitPrice nC nU r1 t3).bind fun r4 =>
    some (-r4)
  else
    (rd 12 cO r1).bind fun t5 =>
    (pX2_unitPrice nC nU r1 (t5 + 1)).bind fun r6 =>
    some r6
def pX0_shorten (nF : Nat → Int32) (nT : Nat → Int32) (nC : Nat → Int32) (nU : Nat → Int32) (cO : Nat → Int32) (cL : Nat → Int32) (cH : Nat → Int32) (cD : Nat → Int32) (cB : Nat → Int32) (p0 : Int32) : Option (Bool × (Nat → Int32) × (Nat → Int32)) :=
  (pX2_start nF nT p0).bind fun r1 =>
  (pX2_end nF nT p0).bind fun r2 =>
  (rd 8 cD r1).bind fun t3 =>
  if 1000000 ≤ t3 then
    some ((false, cD, cB))
  else
    (pX0_roomOf cO cL cH p0).bind fun r4 =>
    if r4 ≤ 0 then
      some ((false, cD, cB))
    else
      (rd 8 cD r1).bind fun t5 =>
      (pX0_priceOf nC nU cO p0).bind fun r6 =>
      (rd 8 cD r2).bind fun t7 =>
      if (t5 + r6) < t7 then
        (rd 8 cD r1).bind fun t8 =>
        (pX0_priceOf nC nU cO p0).bind fun r9 =>
        (wr 8 cD r2 (t8 + r9)).bind fun cD_10 =>
        (wr 8 cB r2 p0).bind fun cB_11 =>
        some ((true, cD_10, cB_11))
      else
        some ((false, cD, cB))
def pX0_widen (nF : Nat → Int32) (nT : Nat → Int32) (cO : Nat → Int32) (cL : Nat → Int32) (cH : Nat → Int32) (cB : Nat → Int32) (p0 : Int32) (p1 : Int32) : Option (Bool × (Nat → Int32)) :=
  (pX2_start nF nT p1).bind fun r1 =>
  (pX2_end nF nT p1).bind fun r2 =>
  if r1 = p0 then
    if r2 = p0 then
      some ((false, cB))
    else
      (rd 8 cB r2).bind fun t3 =>
      if t3 = ((-1)) then
        (pX0_roomOf cO cL cH p1).bind fun r4 =>
        if 0 < r4 then
          (wr 8 cB r2 p1).bind fun cB_5 =>
          some ((true, cB_5))
        else
          some ((false, cB))
      else
        some ((false, cB))
  else
    (rd 8 cB r1).bind fun t6 =>
    if t6 = ((-1)) then
      some ((false, cB))
    else
      if r2 = p0 then
        some ((false, cB))
      else
        (rd 8 cB r2).bind fun t7 =>
        if t7 = ((-1)) then
          (pX0_roomOf cO cL cH p1).bind fun r8 =>
          if 0 < r8 then
            (wr 8 cB r2 p1).bind fun cB_9 =>
            some ((true, cB_9))
          else
            some ((false, cB))
        else
          some ((false, cB))
def pX0_measure_l23 (cH : Nat → Int32) (cL : Nat → Int32) (cO : Nat → Int32) (nA : Int32) (nC : Nat → Int32) (nF : Nat → Int32) (nT : Nat → Int32) (nU : Nat → Int32) (x1_5 : Int32) (x3_6 : Int32) (cD_7 : Nat → Int32) (cB_8 : Nat → Int32) : Option ((Int32 × Int32 × (Nat → Int32) × (Nat → Int32)) ⊕ (Int32 × Int32 × (Nat → Int32) × (Nat → Int32))) :=
  (pX2_steps nA).bind fun r9 =>
  if r9 ≤ x3_6 then
    some (.inl ((x1_5, x3_6, cD_7, cB_8)))
  else
    bnd3 (pX0_shorten nF nT nC nU cO cL cH cD_7 cB_8 x3_6) fun b10 cD_11 cB_12 =>
    some (.inr ((x1_5 ||| (b2i b10), x3_6 + 1, cD_11, cB_12)))
def pX0_measure_l4 (N : Nat) (cH : Nat → Int32) (cL : Nat → Int32) (cO : Nat → Int32) (nA : Int32) (nC : Nat → Int32) (nF : Nat → Int32) (nN : Int32) (nT : Nat → Int32) (nU : Nat → Int32) (x1_1 : Int32) (x2_2 : Int32) (cD_3 : Nat → Int32) (cB_4 : Nat → Int32) : Option ((Int32 × Int32 × (Nat → Int32) × (Nat → Int32)) ⊕ (Int32 × Int32 × (Nat → Int32) × (Nat → Int32))) :=
  if nN ≤ x2_2 then
    some (.inl ((x1_1, x2_2, cD_3, cB_4)))
  else
    if x1_1 = 0 then
      some (.inl ((x1_1, x2_2, cD_3, cB_4)))
    else
      bnd4 (lp (un4 (pX0_measure_l23 cH cL cO nA nC nF nT nU)) N ((0, 0, cD_3, cB_4))) fun x1_13 x3_14 cD_15 cB_16 =>
      some (.inr ((x1_13, x2_2 + 1, cD_15, cB_16)))
def pX0_measure (N : Nat) (nN : Int32) (nA : Int32) (nF : Nat → Int32) (nT : Nat → Int32) (nC : Nat → Int32) (nU : Nat → Int32) (cO : Nat → Int32) (cL : Nat → Int32) (cH : Nat → Int32) (cD : Nat → Int32) (cB : Nat → Int32) : Option ((Nat → Int32) × (Nat → Int32)) :=
  bnd4 (lp (un4 (pX0_measure_l4 N cH cL cO nA nC nF nN nT nU)) N ((1, 0, cD, cB))) fun x1_17 x2_18 cD_19 cB_20 =>
  some ((cD_19, cB_20))
def pX0_measureFrom_l2 (nN : Int32) (p0 : Int32) (x2_1 : Int32) (cD_2 : Nat → Int32) (cB_3 : Nat → Int32) : Option ((Int32 × (Nat → Int32) × (Nat → Int32)) ⊕ (Int32 × (Nat → Int32) × (Nat → Int32))) :=
  if nN ≤ x2_1 then
    some (.inl ((x2_1, cD_2, cB_3)))
  else
    if x2_1 = p0 then
      (wr 8 cD_2 x2_1 0).bind fun cD_6 =>
      (wr 8 cB_3 x2_1 ((-1))).bind fun cB_7 =>
      some (.inr ((x2_1 + 1, cD_6, cB_7)))
    else
      (wr 8 cD_2 x2_1 1000000).bind fun cD_4 =>
      (wr 8 cB_3 x2_1 ((-1))).bind fun cB_5 =>
      some (.inr ((x2_1 + 1, cD_4, cB_5)))
def pX0_measureFrom (N : Nat) (nN : Int32) (nA : Int32) (nF : Nat → Int32) (nT : Nat → Int32) (nC : Nat → Int32) (nU : Nat → Int32) (cO : Nat → Int32) (cL : Nat → Int32) (cH : Nat → Int32) (cD : Nat → Int32) (cB : Nat → Int32) (p0 : Int32) : Option ((Nat → Int32) × (Nat → Int32)) :=
  bnd3 (lp (un3 (pX0_measureFrom_l2 nN p0)) N ((0, cD, cB))) fun x2_8 cD_9 cB_10 =>
  bnd2 (pX0_measure N nN nA nF nT nC nU cO cL cH cD_9 cB_10) fun cD_11 cB_12 =>
  some ((cD_11, cB_12))
def pX0_measureFromAll_l2 (nN : Int32) (x1_1 : Int32) (cD_2 : Nat → Int32) (cB_3 : Nat → Int32) : Option ((Int32 × (Nat → Int32) × (Nat → Int32)) ⊕ (Int32 × (Nat → Int32) × (Nat → Int32))) :=
  if nN ≤ x1_1 then
    some (.inl ((x1_1, cD_2, cB_3)))
  else
    (wr 8 cD_2 x1_1 0).bind fun cD_4 =>
    (wr 8 cB_3 x1_1 ((-1))).bind fun cB_5 =>
    some (.inr ((x1_1 + 1, cD_4, cB_5)))
def pX0_measureFromAll (N : Nat) (nN : Int32) (nA : Int32) (nF : Nat → Int32) (nT : Nat → Int32) (nC : Nat → Int32) (nU : Nat → Int32) (cO : Nat → Int32) (cL : Nat → Int32) (cH : Nat → Int32) (cD : Nat → Int32) (cB : Nat → Int32) : Option ((Nat → Int32) × (Nat → Int32)) :=
  bnd3 (lp (un3 (pX0_measureFromAll_l2 nN)) N ((0, cD, cB))) fun x1_6 cD_7 cB_8 =>
  bnd2 (pX0_measure N nN nA nF nT nC nU cO cL cH cD_7 cB_8) fun cD_9 cB_10 =>
  some ((cD_9, cB_10))
def pX0_spreadFrom_l2 (nN : Int32) (x2_1 : Int32) (cB_2 : Nat → Int32) : Option ((Int32 × (Nat → Int32)) ⊕ (Int32 × (Nat → Int32))) :=
  if nN ≤ x2_1 then
    some (.inl ((x2_1, cB_2)))
  else
    (wr 8 cB_2 x2_1 ((-1))).bind fun cB_3 =>
    some (.inr ((x2_1 + 1, cB_3)))
def pX0_spreadFrom_l50 (cH : Nat → Int32) (cL : Nat → Int32) (cO : Nat → Int32) (nA : Int32) (nF : Nat → Int32) (nT : Nat → Int32) (p0 : Int32) (x2_9 : Int32) (x4_10 : Int32) (cB_11 : Nat → Int32) : Option ((Int32 × Int32 × (Nat → Int32)) ⊕ (Int32 × Int32 × (Nat → Int32))) :=
  (pX2_steps nA).bind fun r12 =>
  if r12 ≤ x4_10 then
    some (.inl ((x2_9, x4_10, cB_11)))
  else
    bnd2 (pX0_widen nF nT cO cL cH cB_11 p0 x4_10) fun b13 cB_14 =>
    some (.inr ((x2_9 ||| (b2i b13), x4_10 + 1, cB_14)))
def pX0_spreadFrom_l30 (N : Nat) (cH : Nat → Int32) (cL : Nat → Int32) (cO : Nat → Int32) (nA : Int32) (nF : Nat → Int32) (nN : Int32) (nT : Nat → Int32) (p0 : Int32) (x2_6 : Int32) (x3_7 : Int32) (cB_8 : Nat → Int32) : Option ((Int32 × Int32 × (Nat → Int32)) ⊕ (Int32 × Int32 × (Nat → Int32))) :=
  if nN ≤ x3_7 then
    some (.inl ((x2_6, x3_7, cB_8)))
  else
    if x2_6 = 0 then
      some (.inl ((x2_6, x3_7, cB_8)))
    else
      bnd3 (lp (un3 (pX0_spreadFrom_l50 cH cL cO nA nF nT p0)) N ((0, 0, cB_8))) fun x2_15 x4_16 cB_17 =>
      some (.inr ((x2_15, x3_7 + 1, cB_17)))
def pX0_spreadFrom (N : Nat) (nN : Int32) (nA : Int32) (nF : Nat → Int32) (nT : Nat → Int32) (cO : Nat → Int32) (cL : Nat → Int32) (cH : Nat → Int32) (cB : Nat → Int32) (p0 : Int32) : Option ((Nat → Int32)) :=
  bnd2 (lp (un2 (pX0_spreadFrom_l2 nN)) N ((0, cB))) fun x2_4 cB_5 =>
  bnd3 (lp (un3 (pX0_spreadFrom_l30 N cH cL cO nA nF nN nT p0)) N ((1, 0, cB_5))) fun x2_18 x3_19 cB_20 =>
  some cB_20
def pX0_roomOnWay_l9 (cB : Nat → Int32) (cH : Nat → Int32) (cL : Nat → Int32) (cO : Nat → Int32) (nF : Nat → Int32) (nN : Int32) (nT : Nat → Int32) (p0 : Int32) (x3_1 : Int32) (x4_2 : Int32) (x5_3 : Int32) : Option (((Int32 × Int32 × Int32) ⊕ (Int32)) ⊕ (Int32 × Int32 × Int32)) :=
  if nN ≤ x5_3 then
    some (.inl (.inl ((x3_1, x4_2, x5_3))))
  else
    if x4_2 = p0 then
      some (.inl (.inl ((x3_1, x4_2, x5_3))))
    else
      (rd 8 cB x4_2).bind fun t4 =>
      if t4 = ((-1)) then
        some (.inl (.inr 0))
      else
        (pX0_roomOf cO cL cH t4).bind fun r5 =>
        (pX2_start nF nT t4).bind fun r6 =>
        some (.inr ((imin x3_1 r5, r6, x5_3 + 1)))
def pX0_roomOnWay (N : Nat) (nN : Int32) (nF : Nat → Int32) (nT : Nat → Int32) (cO : Nat → Int32) (cL : Nat → Int32) (cH : Nat → Int32) (cB : Nat → Int32) (p0 : Int32) (p1 : Int32) : Option (Int32) :=
  (lp (un3 (pX0_roomOnWay_l9 cB cH cL cO nF nN nT p0)) N ((1000000, p1, 0))).bind (sel (un3 fun x3_7 x4_8 x5_9 =>
    if x4_8 = p0 then
      some x3_7
    else
      some 0))
def pX0_sendOnWay_l18 (cB : Nat → Int32) (nF : Nat → Int32) (nN : Int32) (nT : Nat → Int32) (p0 : Int32) (p2 : Int32) (r1 : Int32) (x5_2 : Int32) (x6_3 : Int32) (cO_4 : Nat → Int32) : Option ((Int32 × Int32 × (Nat → Int32)) ⊕ (Int32 × Int32 × (Nat → Int32))) :=
  if nN ≤ x6_3 then
    some (.inl ((x5_2, x6_3, cO_4)))
  else
    if x5_2 = p0 then
      some (.inl ((x5_2, x6_3, cO_4)))
    else
      if (imin p2 r1) ≤ 0 then
        some (.inl ((x5_2, x6_3, cO_4)))
      else
        (rd 8 cB x5_2).bind fun t5 =>
        (pX2_arcOf t5).bind fun r6 =>
        (rd 12 cO_4 r6).bind fun t7 =>
        (pX2_goesAlong t5).bind fun b8 =>
        if (b2i b8) = 0 then
          (wr 12 cO_4 r6 (t7 + (-(imin p2 r1)))).bind fun cO_9 =>
          (pX2_start nF nT t5).bind fun r10 =>
          some (.inr ((r10, x6_3 + 1, cO_9)))
        else
          (wr 12 cO_4 r6 (t7 + (imin p2 r1))).bind fun cO_11 =>
          (pX2_start nF nT t5).bind fun r12 =>
          some (.inr ((r12, x6_3 + 1, cO_11)))
def pX0_sendOnWay (N : Nat) (nN : Int32) (nF : Nat → Int32) (nT : Nat → Int32) (cO : Nat → Int32) (cL : Nat → Int32) (cH : Nat → Int32) (cB : Nat → Int32) (p0 : Int32) (p1 : Int32) (p2 : Int32) : Option (Int32 × (Nat → Int32)) :=
  (pX0_roomOnWay N nN nF nT cO cL cH cB p0 p1).bind fun r1 =>
  bnd3 (lp (un3 (pX0_sendOnWay_l18 cB nF nN nT p0 p2 r1)) N ((p1, 0, cO))) fun x5_13 x6_14 cO_15 =>
  some ((imin p2 r1, cO_15))
def pX0_send_l6 (N : Nat) (cH : Nat → Int32) (cL : Nat → Int32) (nA : Int32) (nF : Nat → Int32) (nN : Int32) (nT : Nat → Int32) (p0 : Int32) (p1 : Int32) (p2 : Int32) (x4_1 : Int32) (x5_2 : Int32) (cO_3 : Nat → Int32) (cB_4 : Nat → Int32) : Option (((Int32 × Int32 × (Nat → Int32) × (Nat → Int32)) ⊕ (Int32 × (Nat → Int32) × (Nat → Int32))) ⊕ (Int32 × Int32 × (Nat → Int32) × (Nat → Int32))) :=
  if p2 ≤ x5_2 then
    some (.inl (.inl ((x4_1, x5_2, cO_3, cB_4))))
  else
    if p2 ≤ x4_1 then
      some (.inl (.inl ((x4_1, x5_2, cO_3, cB_4))))
    else
      (pX0_spreadFrom N nN nA nF nT cO_3 cL cH cB_4 p0).bind fun cB_5 =>
      bnd2 (pX0_sendOnWay N nN nF nT cO_3 cL cH cB_5 p0 p1 (p2 - x4_1)) fun r6 cO_7 =>
      if r6 = 0 then
        some (.inl (.inr ((x4_1, cO_7, cB_5))))
      else
        some (.inr ((x4_1 + r6, x5_2 + 1, cO_7, cB_5)))
def pX0_send (N : Nat) (nN : Int32) (nA : Int32) (nF : Nat → Int32) (nT : Nat → Int32) (cO : Nat → Int32) (cL : Nat → Int32) (cH : Nat → Int32) (cB : Nat → Int32) (p0 : Int32) (p1 : Int32) (p2 : Int32) : Option (Int32 × (Nat → Int32) × (Nat → Int32)) :=
  (lp (un4 (pX0_send_l6 N cH cL nA nF nN nT p0 p1 p2)) N ((0, 0, cO, cB))).bind (sel (un4 fun x4_8 x5_9 cO_10 cB_11 =>
    some ((x4_8, cO_10, cB_11))))
def pX0_empty_l2 (nA : Int32) (nC : Nat → Int32) (x1_1 : Int32) (cO_2 : Nat → Int32) (cL_3 : Nat → Int32) (cH_4 : Nat → Int32) : Option ((Int32 × (Nat → Int32) × (Nat → Int32) × (Nat → Int32)) ⊕ (Int32 × (Nat → Int32) × (Nat → Int32) × (Nat → Int32))) :=
  if nA ≤ x1_1 then
    some (.inl ((x1_1, cO_2, cL_3, cH_4)))
  else
    (wr 12 cO_2 x1_1 0).bind fun cO_5 =>
    (wr 12 cL_3 x1_1 0).bind fun cL_6 =>
    (rd 12 nC x1_1).bind fun t7 =>
    (wr 12 cH_4 x1_1 t7).bind fun cH_8 =>
    some (.inr ((x1_1 + 1, cO_5, cL_6, cH_8)))
def pX0_empty (N : Nat) (nA : Int32) (nC : Nat → Int32) (cO : Nat → Int32) (cL : Nat → Int32) (cH : Nat → Int32) : Option ((Nat → Int32) × (Nat → Int32) × (Nat → Int32)) :=
  bnd4 (lp (un4 (pX0_empty_l2 nA nC)) N ((0, cO, cL, cH))) fun x1_9 cO_10 cL_11 cH_12 =>
  some ((cO_10, cL_11, cH_12))
def pX0_hold (cO : Nat → Int32) (cL : Nat → Int32) (cH : Nat → Int32) (p0 : Int32) : Option ((Nat → Int32) × (Nat → Int32)) :=
  (rd 12 cO p0).bind fun t1 =>
  (wr 12 cL p0 t1).bind fun cL_2 =>
  (rd 12 cO p0).bind fun t3 =>
  (wr 12 cH p0 t3).bind fun cH_4 =>
  some ((cL_2, cH_4))
def pX0_lower (N : Nat) (nN : Int32) (nA : Int32) (nF : Nat → Int32) (nT : Nat → Int32) (cO : Nat → Int32) (cL : Nat → Int32) (cH : Nat → Int32) (cB : Nat → Int32) (p0 : Int32) : Option (Int32 × (Nat → Int32) × (Nat → Int32) × (Nat → Int32) × (Nat → Int32)) :=
  (rd 12 cO p0).bind fun t1 =>
  (rd 12 cL p0).bind fun t2 =>
  bnd2 (pX0_hold cO cL cH p0) fun cL_3 cH_4 =>
  (rd 12 cO p0).bind fun t5 =>
  (rd 12 nF p0).bind fun t6 =>
  (rd 12 nT p0).bind fun t7 =>
  bnd3 (pX0_send N nN nA nF nT cO cL_3 cH_4 cB t6 t7 (t1 - t2)) fun r8 cO_9 cB_10 =>
  (wr 12 cO_9 p0 (t5 - r8)).bind fun cO_11 =>
  bnd2 (pX0_hold cO_11 cL_3 cH_4 p0) fun cL_12 cH_13 =>
  (rd 12 cO_11 p0).bind fun t14 =>
  some ((t14, cO_11, cL_12, cH_13, cB_10))
def pX0_raise (N : Nat) (nN : Int32) (nA : Int32) (nF : Nat → Int32) (nT : Nat → Int32) (cO : Nat → Int32) (cL : Nat → Int32) (cH : Nat → Int32) (cB : Nat → Int32) (p0 : Int32) : Option (Int32 × (Nat → Int32) × (Nat → Int32) × (Nat → Int32) × (Nat → Int32)) :=
  (rd 12 cH p0).bind fun t1 =>
  (rd 12 cO p0).bind fun t2 =>
  bnd2 (pX0_hold cO cL cH p0) fun cL_3 cH_4 =>
  (rd 12 cO p0).bind fun t5 =>
  (rd 12 nT p0).bind fun t6 =>
  (rd 12 nF p0).bind fun t7 =>
  bnd3 (pX0_send N nN nA nF nT cO cL_3 cH_4 cB t6 t7 (t1 - t2)) fun r8 cO_9 cB_10 =>
  (wr 12 cO_9 p0 (t5 + r8)).bind fun cO_11 =>
  bnd2 (pX0_hold cO_11 cL_3 cH_4 p0) fun cL_12 cH_13 =>
  (rd 12 cO_11 p0).bind fun t14 =>
  some ((t14, cO_11, cL_12, cH_13, cB_10))
def pX0_keepToCheapest_l63 (nC : Nat → Int32) (nU : Nat → Int32) (t7 : Int32) (t9 : Int32) (x1_3 : Int32) (x3_12 : Int32) (cL_13 : Nat → Int32) (cH_14 : Nat → Int32) : Option ((Int32 × (Nat → Int32) × (Nat → Int32)) ⊕ (Int32 × (Nat → Int32) × (Nat → Int32))) :=
  (rd 12 nC x1_3).bind fun t15 =>
  if t15 < x3_12 then
    some (.inl ((x3_12, cL_13, cH_14)))
  else
    (pX2_unitPrice nC nU x1_3 x3_12).bind fun r16 =>
    (rd 12 cL_13 x1_3).bind fun t17 =>
    if (t7 - t9) ≤ r16 then
      (wr 12 cL_13 x1_3 (t17 + 0)).bind fun cL_18 =>
      (rd 12 cH_14 x1_3).bind fun t19 =>
      if (t7 - t9) < r16 then
        (wr 12 cH_14 x1_3 (t19 + 0)).bind fun cH_20 =>
        some (.inr ((x3_12 + 1, cL_18, cH_20)))
      else
        (wr 12 cH_14 x1_3 (t19 + 1)).bind fun cH_21 =>
        some (.inr ((x3_12 + 1, cL_18, cH_21)))
    else
      (wr 12 cL_13 x1_3 (t17 + 1)).bind fun cL_22 =>
      (rd 12 cH_14 x1_3).bind fun t23 =>
      if (t7 - t9) < r16 then
        (wr 12 cH_14 x1_3 (t23 + 0)).bind fun cH_24 =>
        some (.inr ((x3_12 + 1, cL_22, cH_24)))
      else
        (wr 12 cH_14 x1_3 (t23 + 1)).bind fun cH_25 =>
        some (.inr ((x3_12 + 1, cL_22, cH_25)))
def pX0_keepToCheapest_l6 (N : Nat) (cD_1 : Nat → Int32) (nA : Int32) (nC : Nat → Int32) (nF : Nat → Int32) (nT : Nat → Int32) (nU : Nat → Int32) (x1_3 : Int32) (cL_4 : Nat → Int32) (cH_5 : Nat → Int32) : Option ((Int32 × (Nat → Int32) × (Nat → Int32)) ⊕ (Int32 × (Nat → Int32) × (Nat → Int32))) :=
  if nA ≤ x1_3 then
    some (.inl ((x1_3, cL_4, cH_5)))
  else
    (rd 12 nT x1_3).bind fun t6 =>
    (rd 8 cD_1 t6).bind fun t7 =>
    (rd 12 nF x1_3).bind fun t8 =>
    (rd 8 cD_1 t8).bind fun t9 =>
    (wr 12 cL_4 x1_3 0).bind fun cL_10 =>
    (wr 12 cH_5 x1_3 0).bind fun cH_11 =>
    bnd3 (lp (un3 (pX0_keepToCheapest_l63 nC nU t7 t9 x1_3)) N ((1, cL_10, cH_11))) fun x3_26 cL_27 cH_28 =>
    some (.inr ((x1_3 + 1, cL_27, cH_28)))
def pX0_keepToCheapest (N : Nat) (nN : Int32) (nA : Int32) (nF : Nat → Int32) (nT : Nat → Int32) (nC : Nat → Int32) (nU : Nat → Int32) (cO : Nat → Int32) (cL : Nat → Int32) (cH : Nat → Int32) (cD : Nat → Int32) (cB : Nat → Int32) : Option ((Nat → Int32) × (Nat → Int32) × (Nat → Int32) × (Nat → Int32)) :=
  bnd2 (pX0_measureFromAll N nN nA nF nT nC nU cO cL cH cD cB) fun cD_1 cB_2 =>
  bnd3 (lp (un3 (pX0_keepToCheapest_l6 N cD_1 nA nC nF nT nU)) N ((0, cL, cH))) fun x1_29 cL_30 cH_31 =>
  some ((cL_30, cH_31, cD_1, cB_2))
def pX0_priceOfUnitMore (N : Nat) (nN : Int32) (nA : Int32) (nF : Nat → Int32) (nT : Nat → Int32) (nC : Nat → Int32) (nU : Nat → Int32) (cO : Nat → Int32) (cL : Nat → Int32) (cH : Nat → Int32) (cD : Nat → Int32) (cB : Nat → Int32) (p0 : Int32) (p1 : Int32) : Option (Int32 × (Nat → Int32) × (Nat → Int32)) :=
  bnd2 (pX0_measureFrom N nN nA nF nT nC nU cO cL cH cD cB p0) fun cD_1 cB_2 =>
  (rd 8 cD_1 p1).bind fun t3 =>
  if 1000000 ≤ t3 then
    some (((-1), cD_1, cB_2))
  else
    (rd 8 cD_1 p1).bind fun t4 =>
    some ((t4, cD_1, cB_2))
def pX0_totalPrice_l17 (cO : Nat → Int32) (nC : Nat → Int32) (nU : Nat → Int32) (x2_2 : Int32) (x1_3 : Int32) (x3_4 : Int32) : Option ((Int32 × Int32) ⊕ (Int32 × Int32)) :=
  (rd 12 cO x2_2).bind fun t5 =>
  if t5 < x3_4 then
    some (.inl ((x1_3, x3_4)))
  else
    (pX2_unitPrice nC nU x2_2 x3_4).bind fun r6 =>
    some (.inr ((x1_3 + r6, x3_4 + 1)))
def pX0_totalPrice_l4 (N : Nat) (cO : Nat → Int32) (nA : Int32) (nC : Nat → Int32) (nU : Nat → Int32) (x1_1 : Int32) (x2_2 : Int32) : Option ((Int32 × Int32) ⊕ (Int32 × Int32)) :=
  if nA ≤ x2_2 then
    some (.inl ((x1_1, x2_2)))
  else
    bnd2 (lp (un2 (pX0_totalPrice_l17 cO nC nU x2_2)) N ((x1_1, 1))) fun x1_7 x3_8 =>
    some (.inr ((x1_7, x2_2 + 1)))
def pX0_totalPrice (N : Nat) (nA : Int32) (nC : Nat → Int32) (nU : Nat → Int32) (cO : Nat → Int32) : Option (Int32) :=
  bnd2 (lp (un2 (pX0_totalPrice_l4 N cO nA nC nU)) N ((0, 0))) fun x1_9 x2_10 =>
  some x1_9
def pX0_greatestAmount (N : Nat) (nN : Int32) (nA : Int32) (nF : Nat → Int32) (nT : Nat → Int32) (nC : Nat → Int32) (cO : Nat → Int32) (cL : Nat → Int32) (cH : Nat → Int32) (cB : Nat → Int32) (p0 : Int32) (p1 : Int32) : Option (Int32 × (Nat → Int32) × (Nat → Int32) × (Nat → Int32) × (Nat → Int32)) :=
  bnd3 (pX0_empty N nA nC cO cL cH) fun cO_1 cL_2 cH_3 =>
  bnd3 (pX0_send N nN nA nF nT cO_1 cL_2 cH_3 cB p0 p1 180) fun r4 cO_5 cB_6 =>
  some ((r4, cO_5, cL_2, cH_3, cB_6))
def pX0_meet_l7 (N : Nat) (cH_3 : Nat → Int32) (cL_2 : Nat → Int32) (nA : Int32) (nC : Nat → Int32) (nF : Nat → Int32) (nN : Int32) (nT : Nat → Int32) (nU : Nat → Int32) (p0 : Int32) (p1 : Int32) (p2 : Int32) (x4_4 : Int32) (cO_5 : Nat → Int32) (cD_6 : Nat → Int32) (cB_7 : Nat → Int32) : Option (((Int32 × (Nat → Int32) × (Nat → Int32) × (Nat → Int32)) ⊕ (Bool × (Nat → Int32) × (Nat → Int32) × (Nat → Int32) × (Nat → Int32) × (Nat → Int32))) ⊕ (Int32 × (Nat → Int32) × (Nat → Int32) × (Nat → Int32))) :=
  if p2 ≤ x4_4 then
    some (.inl (.inl ((x4_4, cO_5, cD_6, cB_7))))
  else
    bnd2 (pX0_measureFrom N nN nA nF nT nC nU cO_5 cL_2 cH_3 cD_6 cB_7 p0) fun cD_8 cB_9 =>
    bnd2 (pX0_sendOnWay N nN nF nT cO_5 cL_2 cH_3 cB_9 p0 p1 1) fun r10 cO_11 =>
    if r10 = 0 then
      some (.inl (.inr ((false, cO_11, cL_2, cH_3, cD_8, cB_9))))
    else
      some (.inr ((x4_4 + 1, cO_11, cD_8, cB_9)))
def pX0_meet (N : Nat) (nN : Int32) (nA : Int32) (nF : Nat → Int32) (nT : Nat → Int32) (nC : Nat → Int32) (nU : Nat → Int32) (cO : Nat → Int32) (cL : Nat → Int32) (cH : Nat → Int32) (cD : Nat → Int32) (cB : Nat → Int32) (p0 : Int32) (p1 : Int32) (p2 : Int32) : Option (Bool × (Nat → Int32) × (Nat → Int32) × (Nat → Int32) × (Nat → Int32) × (Nat → Int32)) :=
  bnd3 (pX0_empty N nA nC cO cL cH) fun cO_1 cL_2 cH_3 =>
  (lp (un4 (pX0_meet_l7 N cH_3 cL_2 nA nC nF nN nT nU p0 p1 p2)) N ((0, cO_1, cD, cB))).bind (sel (un4 fun x4_12 cO_13 cD_14 cB_15 =>
    some ((true, cO_13, cL_2, cH_3, cD_14, cB_15))))
