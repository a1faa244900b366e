def pX4_isNoWidth (p0 : Int32) : Option (Bool) :=
  if p0 < 1 then
    some true
  else
    if p0 ≤ 5 then
      some false
    else
      some true
def pX4_refuseOtherThanNode (nN : Int32) (p0 : Int32) : Option (Nat ⊕ (Unit)) :=
  if p0 < 0 then
    some (.inl 1)
  else
    if p0 < nN then
      rgt (
        some (()))
    else
      some (.inl 1)
def pX4_refuseOtherThanArc (nA : Int32) (p0 : Int32) : Option (Nat ⊕ (Unit)) :=
  if p0 < 0 then
    some (.inl 1)
  else
    if p0 < nA then
      rgt (
        some (()))
    else
      some (.inl 1)
def pX4_nodes (nN : Int32) : Option (Int32) :=
  some nN
def pX4_arcs (nA : Int32) : Option (Int32) :=
  some nA
def pX4_most (N : Nat) (xS : Int32) (xT : Int32) (nN : Int32) (nA : Int32) (nF : Nat → Int32) (nT : Nat → Int32) (nC : Nat → Int32) (cO : Nat → Int32) (cL : Nat → Int32) (cH : Nat → Int32) (cB : Nat → Int32) : Option (Int32 × (Nat → Int32) × (Nat → Int32) × (Nat → Int32) × (Nat → Int32)) :=
  bnd5 (pX0_greatestAmount N nN nA nF nT nC cO cL cH cB xS xT) fun r1 cO_2 cL_3 cH_4 cB_5 =>
  some ((r1, cO_2, cL_3, cH_4, cB_5))
def pX4_cost (N : Nat) (xS : Int32) (xT : Int32) (xA : Int32) (nN : Int32) (nA : Int32) (nF : Nat → Int32) (nT : Nat → Int32) (nC : Nat → Int32) (nU : Nat → Int32) (cO : Nat → Int32) (cL : Nat → Int32) (cH : Nat → Int32) (cD : Nat → Int32) (cB : Nat → Int32) : Option (Int32 × (Nat → Int32) × (Nat → Int32) × (Nat → Int32) × (Nat → Int32) × (Nat → Int32)) :=
  bnd6 (pX0_meet N nN nA nF nT nC nU cO cL cH cD cB xS xT xA) fun b1 cO_2 cL_3 cH_4 cD_5 cB_6 =>
  if (b2i b1) = 0 then
    some (((-1), cO_2, cL_3, cH_4, cD_5, cB_6))
  else
    (pX0_totalPrice N nA nC nU cO_2).bind fun r7 =>
    some ((r7, cO_2, cL_3, cH_4, cD_5, cB_6))
def pX4_costByCircles (N : Nat) (xS : Int32) (xT : Int32) (xA : Int32) (nN : Int32) (nA : Int32) (nF : Nat → Int32) (nT : Nat → Int32) (nC : Nat → Int32) (nU : Nat → Int32) (uT : Nat → Int32) (uD : Nat → Int32) (uB : Nat → Int32) : Option (Int32 × (Nat → Int32) × (Nat → Int32) × (Nat → Int32)) :=
  bnd4 (pX3_leastPrice N nN nA nF nT nC nU uT uD uB xS xT xA) fun r1 uT_2 uD_3 uB_4 =>
  some ((r1, uT_2, uD_3, uB_4))
def pX4_driven (N : Nat) (xS : Int32) (xT : Int32) (xA : Int32) (nN : Int32) (nA : Int32) (nF : Nat → Int32) (nT : Nat → Int32) (nC : Nat → Int32) (nU : Nat → Int32) (dT : Nat → Int32) (dW : Nat → Int32) : Option (Int32 × Int32 × Int32 × Int32 × (Nat → Int32) × (Nat → Int32)) :=
  bnd5 (pX1_comeOneByOne N nN nA nF nT nC nU dT dW xS xT xA) fun dFo_1 dPa_2 dLa_3 dT_4 dW_5 =>
  if xA ≤ dFo_1 then
    some ((dPa_2, dFo_1, dPa_2, dLa_3, dT_4, dW_5))
  else
    some (((-1), dFo_1, dPa_2, dLa_3, dT_4, dW_5))
def pX4_lastPaid (N : Nat) (xS : Int32) (xT : Int32) (xA : Int32) (nN : Int32) (nA : Int32) (nF : Nat → Int32) (nT : Nat → Int32) (nC : Nat → Int32) (nU : Nat → Int32) (dT : Nat → Int32) (dW : Nat → Int32) : Option (Int32 × Int32 × Int32 × Int32 × (Nat → Int32) × (Nat → Int32)) :=
  bnd5 (pX1_comeOneByOne N nN nA nF nT nC nU dT dW xS xT xA) fun dFo_1 dPa_2 dLa_3 dT_4 dW_5 =>
  some ((dLa_3, dFo_1, dPa_2, dLa_3, dT_4, dW_5))
def pX4_arc (N : Nat) (nN : Int32) (nA : Int32) (nF : Nat → Int32) (nT : Nat → Int32) (nP : Nat → Int32) (nC : Nat → Int32) (nU : Nat → Int32) (p0 : Int32) (p1 : Int32) (p2 : Int32) (p3 : Int32) : Option (Nat ⊕ (Int32 × Int32 × (Nat → Int32) × (Nat → Int32) × (Nat → Int32) × (Nat → Int32) × (Nat → Int32))) :=
  bndx (pX4_refuseOtherThanNode nN p0) fun _ =>
  bndx (pX4_refuseOtherThanNode nN p1) fun _ =>
  if p0 = p1 then
    some (.inl 2)
  else
    (pX4_isNoWidth p2).bind fun b1 =>
    if (b2i b1) = 0 then
      if p3 < 0 then
        some (.inl 2)
      else
        if p3 ≤ 99 then
          if nA < 12 then
            rgt (
              bnd7 (pX2_addArc N nA nF nT nP nC nU p0 p1 p2 p3) fun r2 nA_3 nF_4 nT_5 nP_6 nC_7 nU_8 =>
              some ((r2, nA_3, nF_4, nT_5, nP_6, nC_7, nU_8)))
          else
            some (.inl 3)
        else
          some (.inl 2)
    else
      some (.inl 2)
def pX4_piece (N : Nat) (nA : Int32) (nP : Nat → Int32) (nC : Nat → Int32) (nU : Nat → Int32) (p0 : Int32) (p1 : Int32) (p2 : Int32) : Option (Nat ⊕ (Int32 × (Nat → Int32) × (Nat → Int32) × (Nat → Int32))) :=
  bndx (pX4_refuseOtherThanArc nA p0) fun _ =>
  (pX4_isNoWidth p1).bind fun b1 =>
  if (b2i b1) = 0 then
    (pX2_lastPrice nC nU p0).bind fun r2 =>
    if p2 < r2 then
      some (.inl 2)
    else
      if p2 ≤ 99 then
        (rd 12 nP p0).bind fun t3 =>
        if t3 < 3 then
          rgt (
            bnd3 (pX2_addPiece N nP nC nU p0 p1 p2) fun nP_4 nC_5 nU_6 =>
            (rd 12 nC_5 p0).bind fun t7 =>
            some ((t7, nP_4, nC_5, nU_6)))
        else
          some (.inl 3)
      else
        some (.inl 2)
  else
    some (.inl 2)
def pX4_demand (nN : Int32) (p0 : Int32) (p1 : Int32) (p2 : Int32) : Option (Nat ⊕ (Int32 × Int32 × Int32)) :=
  bndx (pX4_refuseOtherThanNode nN p0) fun _ =>
  bndx (pX4_refuseOtherThanNode nN p1) fun _ =>
  if p0 = p1 then
    some (.inl 2)
  else
    if p2 < 0 then
      some (.inl 2)
    else
      if p2 ≤ 20 then
        rgt (
          some ((p0, p1, p2)))
      else
        some (.inl 2)
def pX4_capacity (nA : Int32) (nC : Nat → Int32) (p0 : Int32) : Option (Nat ⊕ (Int32)) :=
  bndx (pX4_refuseOtherThanArc nA p0) fun _ =>
  rgt (
    (rd 12 nC p0).bind fun t1 =>
    some t1)
def pX4_price (nA : Int32) (nC : Nat → Int32) (nU : Nat → Int32) (p0 : Int32) (p1 : Int32) : Option (Nat ⊕ (Int32)) :=
  bndx (pX4_refuseOtherThanArc nA p0) fun _ =>
  if p1 < 1 then
    some (.inl 1)
  else
    (rd 12 nC p0).bind fun t1 =>
    if p1 ≤ t1 then
      rgt (
        (pX2_unitPrice nC nU p0 p1).bind fun r2 =>
        some r2)
    else
      some (.inl 1)
def pX4_more (N : Nat) (xS : Int32) (xT : Int32) (xA : Int32) (nN : Int32) (nA : Int32) (nF : Nat → Int32) (nT : Nat → Int32) (nC : Nat → Int32) (nU : Nat → Int32) (cO : Nat → Int32) (cL : Nat → Int32) (cH : Nat → Int32) (cD : Nat → Int32) (cB : Nat → Int32) (p0 : Int32) : Option (Nat ⊕ (Int32 × (Nat → Int32) × (Nat → Int32) × (Nat → Int32) × (Nat → Int32) × (Nat → Int32))) :=
  bndx (pX4_refuseOtherThanNode nN p0) fun _ =>
  rgt (
    bnd6 (pX0_meet N nN nA nF nT nC nU cO cL cH cD cB xS xT xA) fun b1 cO_2 cL_3 cH_4 cD_5 cB_6 =>
    if (b2i b1) = 0 then
      some (((-1), cO_2, cL_3, cH_4, cD_5, cB_6))
    else
      bnd3 (pX0_priceOfUnitMore N nN nA nF nT nC nU cO_2 cL_3 cH_4 cD_5 cB_6 xS p0) fun r7 cD_8 cB_9 =>
      some ((r7, cO_2, cL_3, cH_4, cD_8, cB_9)))
def pX4_flow_l38 (N : Nat) (nA : Int32) (nF : Nat → Int32) (nN : Int32) (nT : Nat → Int32) (p0 : Int32) (x2_11 : Int32) (cO_12 : Nat → Int32) (cL_13 : Nat → Int32) (cH_14 : Nat → Int32) (cB_15 : Nat → Int32) : Option ((Int32 × (Nat → Int32) × (Nat → Int32) × (Nat → Int32) × (Nat → Int32)) ⊕ (Int32 × (Nat → Int32) × (Nat → Int32) × (Nat → Int32) × (Nat → Int32))) :=
  if p0 ≤ x2_11 then
    some (.inl ((x2_11, cO_12, cL_13, cH_14, cB_15)))
  else
    bnd5 (pX0_lower N nN nA nF nT cO_12 cL_13 cH_14 cB_15 x2_11) fun r16 cO_17 cL_18 cH_19 cB_20 =>
    some (.inr ((x2_11 + 1, cO_17, cL_18, cH_19, cB_20)))
def pX4_flow (N : Nat) (xS : Int32) (xT : Int32) (xA : Int32) (nN : Int32) (nA : Int32) (nF : Nat → Int32) (nT : Nat → Int32) (nC : Nat → Int32) (nU : Nat → Int32) (cO : Nat → Int32) (cL : Nat → Int32) (cH : Nat → Int32) (cD : Nat → Int32) (cB : Nat → Int32) (p0 : Int32) : Option (Nat ⊕ (Int32 × (Nat → Int32) × (Nat → Int32) × (Nat → Int32) × (Nat → Int32) × (Nat → Int32))) :=
  bndx (pX4_refuseOtherThanArc nA p0) fun _ =>
  rgt (
    bnd6 (pX0_meet N nN nA nF nT nC nU cO cL cH cD cB xS xT xA) fun b1 cO_2 cL_3 cH_4 cD_5 cB_6 =>
    if (b2i b1) = 0 then
      some (((-1), cO_2, cL_3, cH_4, cD_5, cB_6))
    else
      bnd4 (pX0_keepToCheapest N nN nA nF nT nC nU cO_2 cL_3 cH_4 cD_5 cB_6) fun cL_7 cH_8 cD_9 cB_10 =>
      bnd5 (lp (un5 (pX4_flow_l38 N nA nF nN nT p0)) N ((0, cO_2, cL_7, cH_8, cB_10))) fun x2_21 cO_22 cL_23 cH_24 cB_25 =>
      bnd5 (pX0_lower N nN nA nF nT cO_22 cL_23 cH_24 cB_25 p0) fun r26 cO_27 cL_28 cH_29 cB_30 =>
      some ((r26, cO_27, cL_28, cH_29, cD_9, cB_30)))
def pX4_leastOn (N : Nat) (xS : Int32) (xT : Int32) (xA : Int32) (nN : Int32) (nA : Int32) (nF : Nat → Int32) (nT : Nat → Int32) (nC : Nat → Int32) (nU : Nat → Int32) (cO : Nat → Int32) (cL : Nat → Int32) (cH : Nat → Int32) (cD : Nat → Int32) (cB : Nat → Int32) (p0 : Int32) : Option (Nat ⊕ (Int32 × (Nat → Int32) × (Nat → Int32) × (Nat → Int32) × (Nat → Int32) × (Nat → Int32))) :=
  bndx (pX4_refuseOtherThanArc nA p0) fun _ =>
  rgt (
    bnd6 (pX0_meet N nN nA nF nT nC nU cO cL cH cD cB xS xT xA) fun b1 cO_2 cL_3 cH_4 cD_5 cB_6 =>
    if (b2i b1) = 0 then
      some (((-1), cO_2, cL_3, cH_4, cD_5, cB_6))
    else
      bnd4 (pX0_keepToCheapest N nN nA nF nT nC nU cO_2 cL_3 cH_4 cD_5 cB_6) fun cL_7 cH_8 cD_9 cB_10 =>
      bnd5 (pX0_lower N nN nA nF nT cO_2 cL_7 cH_8 cB_10 p0) fun r11 cO_12 cL_13 cH_14 cB_15 =>
      some ((r11, cO_12, cL_13, cH_14, cD_9, cB_15)))
def pX4_mostOn (N : Nat) (xS : Int32) (xT : Int32) (xA : Int32) (nN : Int32) (nA : Int32) (nF : Nat → Int32) (nT : Nat → Int32) (nC : Nat → Int32) (nU : Nat → Int32) (cO : Nat → Int32) (cL : Nat → Int32) (cH : Nat → Int32) (cD : Nat → Int32) (cB : Nat → Int32) (p0 : Int32) : Option (Nat ⊕ (Int32 × (Nat → Int32) × (Nat → Int32) × (Nat → Int32) × (Nat → Int32) × (Nat → Int32))) :=
  bndx (pX4_refuseOtherThanArc nA p0) fun _ =>
  rgt (
    bnd6 (pX0_meet N nN nA nF nT nC nU cO cL cH cD cB xS xT xA) fun b1 cO_2 cL_3 cH_4 cD_5 cB_6 =>
    if (b2i b1) = 0 then
      some (((-1), cO_2, cL_3, cH_4, cD_5, cB_6))
    else
      bnd4 (pX0_keepToCheapest N nN nA nF nT nC nU cO_2 cL_3 cH_4 cD_5 cB_6) fun cL_7 cH_8 cD_9 cB_10 =>
      bnd5 (pX0_raise N nN nA nF nT cO_2 cL_7 cH_8 cB_10 p0) fun r11 cO_12 cL_13 cH_14 cB_15 =>
      some ((r11, cO_12, cL_13, cH_14, cD_9, cB_15)))
def pX4_drivenOn (N : Nat) (xS : Int32) (xT : Int32) (xA : Int32) (nN : Int32) (nA : Int32) (nF : Nat → Int32) (nT : Nat → Int32) (nC : Nat → Int32) (nU : Nat → Int32) (dT : Nat → Int32) (dW : Nat → Int32) (p0 : Int32) : Option (Nat ⊕ (Int32 × Int32 × Int32 × Int32 × (Nat → Int32) × (Nat → Int32))) :=
  bndx (pX4_refuseOtherThanArc nA p0) fun _ =>
  rgt (
    bnd5 (pX1_comeOneByOne N nN nA nF nT nC nU dT dW xS xT xA) fun dFo_1 dPa_2 dLa_3 dT_4 dW_5 =>
    (rd 12 dT_4 p0).bind fun t6 =>
    some ((t6, dFo_1, dPa_2, dLa_3, dT_4, dW_5)))
