def pX3_nodeBefore (nF : Nat → Int32) (nT : Nat → Int32) (uT : Nat → Int32) (uB : Nat → Int32) (p0 : Int32) : Option (Int32) :=
  (rd 8 uB p0).bind fun t1 =>
  if t1 = ((-1)) then
    some ((-1))
  else
    (rd 180 uT t1).bind fun t2 =>
    if t2 = 0 then
      (rd 12 nF (t1 / 15)).bind fun t3 =>
      some t3
    else
      (rd 12 nT (t1 / 15)).bind fun t4 =>
      some t4
def pX3_priceOfTaken_l17 (nC : Nat → Int32) (nU : Nat → Int32) (uT : Nat → Int32) (x2_2 : Int32) (x1_3 : Int32) (x3_4 : Int32) : Option ((Int32 × Int32) ⊕ (Int32 × Int32)) :=
  (rd 12 nC x2_2).bind fun t5 =>
  if t5 < x3_4 then
    some (.inl ((x1_3, x3_4)))
  else
    (rd 180 uT (((x2_2 * 15) + x3_4) - 1)).bind fun t6 =>
    if t6 = 0 then
      some (.inr ((x1_3, x3_4 + 1)))
    else
      (pX2_unitPrice nC nU x2_2 x3_4).bind fun r7 =>
      some (.inr ((x1_3 + r7, x3_4 + 1)))
def pX3_priceOfTaken_l4 (N : Nat) (nA : Int32) (nC : Nat → Int32) (nU : Nat → Int32) (uT : Nat → Int32) (x1_1 : Int32) (x2_2 : Int32) : Option ((Int32 × Int32) ⊕ (Int32 × Int32)) :=
  if nA ≤ x2_2 then
    some (.inl ((x1_1, x2_2)))
  else
    bnd2 (lp (un2 (pX3_priceOfTaken_l17 nC nU uT x2_2)) N ((x1_1, 1))) fun x1_8 x3_9 =>
    some (.inr ((x1_8, x2_2 + 1)))
def pX3_priceOfTaken (N : Nat) (nA : Int32) (nC : Nat → Int32) (nU : Nat → Int32) (uT : Nat → Int32) : Option (Int32) :=
  bnd2 (lp (un2 (pX3_priceOfTaken_l4 N nA nC nU uT)) N ((0, 0))) fun x1_10 x2_11 =>
  some x1_10
def pX3_shortenAll_l18 (nC : Nat → Int32) (nF : Nat → Int32) (nT : Nat → Int32) (nU : Nat → Int32) (p0 : Int32) (uT : Nat → Int32) (x3_2 : Int32) (x2_5 : Int32) (x4_6 : Int32) (uD_7 : Nat → Int32) (uB_8 : Nat → Int32) : Option ((Int32 × Int32 × (Nat → Int32) × (Nat → Int32)) ⊕ (Int32 × Int32 × (Nat → Int32) × (Nat → Int32))) :=
  (rd 12 nC x3_2).bind fun t9 =>
  if t9 < x4_6 then
    some (.inl ((x2_5, x4_6, uD_7, uB_8)))
  else
    (rd 180 uT (((x3_2 * 15) + x4_6) - 1)).bind fun t10 =>
    if t10 = 0 then
      (rd 12 nF x3_2).bind fun t11 =>
      (rd 180 uT (((x3_2 * 15) + x4_6) - 1)).bind fun t12 =>
      if t12 = 0 then
        (rd 12 nT x3_2).bind fun t13 =>
        if p0 = 0 then
          (rd 8 uD_7 t11).bind fun t14 =>
          (rd 180 uT (((x3_2 * 15) + x4_6) - 1)).bind fun t15 =>
          if t15 = 0 then
            (rd 8 uD_7 t11).bind fun t16 =>
            if 1000000 ≤ t16 then
              some (.inr ((x2_5, x4_6 + 1, uD_7, uB_8)))
            else
              (rd 8 uD_7 t13).bind fun t17 =>
              if t17 ≤ (t14 + 0) then
                some (.inr ((x2_5, x4_6 + 1, uD_7, uB_8)))
              else
                (wr 8 uD_7 t13 (t14 + 0)).bind fun uD_18 =>
                (wr 8 uB_8 t13 (((x3_2 * 15) + x4_6) - 1)).bind fun uB_19 =>
                some (.inr ((t13, x4_6 + 1, uD_18, uB_19)))
          else
            (rd 8 uD_7 t11).bind fun t20 =>
            if 1000000 ≤ t20 then
              some (.inr ((x2_5, x4_6 + 1, uD_7, uB_8)))
            else
              (rd 8 uD_7 t13).bind fun t21 =>
              if t21 ≤ (t14 + (-0)) then
                some (.inr ((x2_5, x4_6 + 1, uD_7, uB_8)))
              else
                (wr 8 uD_7 t13 (t14 + (-0))).bind fun uD_22 =>
                (wr 8 uB_8 t13 (((x3_2 * 15) + x4_6) - 1)).bind fun uB_23 =>
                some (.inr ((t13, x4_6 + 1, uD_22, uB_23)))
        else
          (pX2_unitPrice nC nU x3_2 x4_6).bind fun r24 =>
          (rd 8 uD_7 t11).bind fun t25 =>
          (rd 180 uT (((x3_2 * 15) + x4_6) - 1)).bind fun t26 =>
          if t26 = 0 then
            (rd 8 uD_7 t11).bind fun t27 =>
            if 1000000 ≤ t27 then
              some (.inr ((x2_5, x4_6 + 1, uD_7, uB_8)))
            else
              (rd 8 uD_7 t13).bind fun t28 =>
              if t28 ≤ (t25 + r24) then
                some (.inr ((x2_5, x4_6 + 1, uD_7, uB_8)))
              else
                (wr 8 uD_7 t13 (t25 + r24)).bind fun uD_29 =>
                (wr 8 uB_8 t13 (((x3_2 * 15) + x4_6) - 1)).bind fun uB_30 =>
                some (.inr ((t13, x4_6 + 1, uD_29, uB_30)))
          else
            (rd 8 uD_7 t11).bind fun t31 =>
            if 1000000 ≤ t31 then
              some (.inr ((x2_5, x4_6 + 1, uD_7, uB_8)))
            else
              (rd 8 uD_7 t13).bind fun t32 =>
              if t32 ≤ (t25 + (-r24)) then
                some (.inr ((x2_5, x4_6 + 1, uD_7, uB_8)))
              else
                (wr 8 uD_7 t13 (t25 + (-r24))).bind fun uD_33 =>
                (wr 8 uB_8 t13 (((x3_2 * 15) + x4_6) - 1)).bind fun uB_34 =>
                some (.inr ((t13, x4_6 + 1, uD_33, uB_34)))
      else
        (rd 12 nF x3_2).bind fun t35 =>
        if p0 = 0 then
          (rd 8 uD_7 t11).bind fun t36 =>
          (rd 180 uT (((x3_2 * 15) + x4_6) - 1)).bind fun t37 =>
          if t37 = 0 then
            (rd 8 uD_7 t11).bind fun t38 =>
            if 1000000 ≤ t38 then
              some (.inr ((x2_5, x4_6 + 1, uD_7, uB_8)))
            else
              (rd 8 uD_7 t35).bind fun t39 =>
              if t39 ≤ (t36 + 0) then
                some (.inr ((x2_5, x4_6 + 1, uD_7, uB_8)))
              else
                (wr 8 uD_7 t35 (t36 + 0)).bind fun uD_40 =>
                (wr 8 uB_8 t35 (((x3_2 * 15) + x4_6) - 1)).bind fun uB_41 =>
                some (.inr ((t35, x4_6 + 1, uD_40, uB_41)))
          else
            (rd 8 uD_7 t11).bind fun t42 =>
            if 1000000 ≤ t42 then
              some (.inr ((x2_5, x4_6 + 1, uD_7, uB_8)))
            else
              (rd 8 uD_7 t35).bind fun t43 =>
              if t43 ≤ (t36 + (-0)) then
                some (.inr ((x2_5, x4_6 + 1, uD_7, uB_8)))
              else
                (wr 8 uD_7 t35 (t36 + (-0))).bind fun uD_44 =>
                (wr 8 uB_8 t35 (((x3_2 * 15) + x4_6) - 1)).bind fun uB_45 =>
                some (.inr ((t35, x4_6 + 1, uD_44, uB_45)))
        else
          (pX2_unitPrice nC nU x3_2 x4_6).bind fun r46 =>
          (rd 8 uD_7 t11).bind fun t47 =>
          (rd 180 uT (((x3_2 * 15) + x4_6) - 1)).bind fun t48 =>
          if t48 = 0 then
            (rd 8 uD_7 t11).bind fun t49 =>
            if 1000000 ≤ t49 then
              some (.inr ((x2_5, x4_6 + 1, uD_7, uB_8)))
            else
              (rd 8 uD_7 t35).bind fun t50 =>
              if t50 ≤ (t47 + r46) then
                some (.inr ((x2_5, x4_6 + 1, uD_7, uB_8)))
              else
                (wr 8 uD_7 t35 (t47 + r46)).bind fun uD_51 =>
                (wr 8 uB_8 t35 (((x3_2 * 15) + x4_6) - 1)).bind fun uB_52 =>
                some (.inr ((t35, x4_6 + 1, uD_51, uB_52)))
          else
            (rd 8 uD_7 t11).bind fun t53 =>
            if 1000000 ≤ t53 then
              some (.inr ((x2_5, x4_6 + 1, uD_7, uB_8)))
            else
              (rd 8 uD_7 t35).bind fun t54 =>
              if t54 ≤ (t47 + (-r46)) then
                some (.inr ((x2_5, x4_6 + 1, uD_7, uB_8)))
              else
                (wr 8 uD_7 t35 (t47 + (-r46))).bind fun uD_55 =>
                (wr 8 uB_8 t35 (((x3_2 * 15) + x4_6) - 1)).bind fun uB_56 =>
                some (.inr ((t35, x4_6 + 1, uD_55, uB_56)))
    else
      (rd 12 nT x3_2).bind fun t57 =>
      (rd 180 uT (((x3_2 * 15) + x4_6) - 1)).bind fun t58 =>
      if t58 = 0 then
        (rd 12 nT x3_2).bind fun t59 =>
        if p0 = 0 then
          (rd 8 uD_7 t57).bind fun t60 =>
          (rd 180 uT (((x3_2 * 15) + x4_6) - 1)).bind fun t61 =>
          if t61 = 0 then
            (rd 8 uD_7 t57).bind fun t62 =>
            if 1000000 ≤ t62 then
              some (.inr ((x2_5, x4_6 + 1, uD_7, uB_8)))
            else
              (rd 8 uD_7 t59).bind fun t63 =>
              if t63 ≤ (t60 + 0) then
                some (.inr ((x2_5, x4_6 + 1, uD_7, uB_8)))
              else
                (wr 8 uD_7 t59 (t60 + 0)).bind fun uD_64 =>
                (wr 8 uB_8 t59 (((x3_2 * 15) + x4_6) - 1)).bind fun uB_65 =>
                some (.inr ((t59, x4_6 + 1, uD_64, uB_65)))
          else
            (rd 8 uD_7 t57).bind fun t66 =>
            if 1000000 ≤ t66 then
              some (.inr ((x2_5, x4_6 + 1, uD_7, uB_8)))
            else
              (rd 8 uD_7 t59).bind fun t67 =>
              if t67 ≤ (t60 + (-0)) then
                some (.inr ((x2_5, x4_6 + 1, uD_7, uB_8)))
              else
                (wr 8 uD_7 t59 (t60 + (-0))).bind fun uD_68 =>
                (wr 8 uB_8 t59 (((x3_2 * 15) + x4_6) - 1)).bind fun uB_69 =>
                some (.inr ((t59, x4_6 + 1, uD_68, uB_69)))
        else
          (pX2_unitPrice nC nU x3_2 x4_6).bind fun r70 =>
          (rd 8 uD_7 t57).bind fun t71 =>
          (rd 180 uT (((x3_2 * 15) + x4_6) - 1)).bind fun t72 =>
          if t72 = 0 then
            (rd 8 uD_7 t57).bind fun t73 =>
            if 1000000 ≤ t73 then
              some (.inr ((x2_5, x4_6 + 1, uD_7, uB_8)))
            else
              (rd 8 uD_7 t59).bind fun t74 =>
              if t74 ≤ (t71 + r70) then
                some (.inr ((x2_5, x4_6 + 1, uD_7, uB_8)))
              else
                (wr 8 uD_7 t59 (t71 + r70)).bind fun uD_75 =>
                (wr 8 uB_8 t59 (((x3_2 * 15) + x4_6) - 1)).bind fun uB_76 =>
                some (.inr ((t59, x4_6 + 1, uD_75, uB_76)))
          else
            (rd 8 uD_7 t57).bind fun t77 =>
            if 1000000 ≤ t77 then
              some (.inr ((x2_5, x4_6 + 1, uD_7, uB_8)))
            else
              (rd 8 uD_7 t59).bind fun t78 =>
              if t78 ≤ (t71 + (-r70)) then
                some (.inr ((x2_5, x4_6 + 1, uD_7, uB_8)))
              else
                (wr 8 uD_7 t59 (t71 + (-r70))).bind fun uD_79 =>
                (wr 8 uB_8 t59 (((x3_2 * 15) + x4_6) - 1)).bind fun uB_80 =>
                some (.inr ((t59, x4_6 + 1, uD_79, uB_80)))
      else
        (rd 12 nF x3_2).bind fun t81 =>
        if p0 = 0 then
          (rd 8 uD_7 t57).bind fun t82 =>
          (rd 180 uT (((x3_2 * 15) + x4_6) - 1)).bind fun t83 =>
          if t83 = 0 then
            (rd 8 uD_7 t57).bind fun t84 =>
            if 1000000 ≤ t84 then
              some (.inr ((x2_5, x4_6 + 1, uD_7, uB_8)))
            else
              (rd 8 uD_7 t81).bind fun t85 =>
              if t85 ≤ (t82 + 0) then
                some (.inr ((x2_5, x4_6 + 1, uD_7, uB_8)))
              else
                (wr 8 uD_7 t81 (t82 + 0)).bind fun uD_86 =>
                (wr 8 uB_8 t81 (((x3_2 * 15) + x4_6) - 1)).bind fun uB_87 =>
                some (.inr ((t81, x4_6 + 1, uD_86, uB_87)))
          else
            (rd 8 uD_7 t57).bind fun t88 =>
            if 1000000 ≤ t88 then
              some (.inr ((x2_5, x4_6 + 1, uD_7, uB_8)))
            else
              (rd 8 uD_7 t81).bind fun t89 =>
              if t89 ≤ (t82 + (-0)) then
                some (.inr ((x2_5, x4_6 + 1, uD_7, uB_8)))
              else
                (wr 8 uD_7 t81 (t82 + (-0))).bind fun uD_90 =>
                (wr 8 uB_8 t81 (((x3_2 * 15) + x4_6) - 1)).bind fun uB_91 =>
                some (.inr ((t81, x4_6 + 1, uD_90, uB_91)))
        else
          (pX2_unitPrice nC nU x3_2 x4_6).bind fun r92 =>
          (rd 8 uD_7 t57).bind fun t93 =>
          (rd 180 uT (((x3_2 * 15) + x4_6) - 1)).bind fun t94 =>
          if t94 = 0 then
            (rd 8 uD_7 t57).bind fun t95 =>
            if 1000000 ≤ t95 then
              some (.inr ((x2_5, x4_6 + 1, uD_7, uB_8)))
            else
              (rd 8 uD_7 t81).bind fun t96 =>
              if t96 ≤ (t93 + r92) then
                some (.inr ((x2_5, x4_6 + 1, uD_7, uB_8)))
              else
                (wr 8 uD_7 t81 (t93 + r92)).bind fun uD_97 =>
                (wr 8 uB_8 t81 (((x3_2 * 15) + x4_6) - 1)).bind fun uB_98 =>
                some (.inr ((t81, x4_6 + 1, uD_97, uB_98)))
          else
            (rd 8 uD_7 t57).bind fun t99 =>
            if 1000000 ≤ t99 then
              some (.inr ((x2_5, x4_6 + 1, uD_7, uB_8)))
            else
              (rd 8 uD_7 t81).bind fun t100 =>
              if t100 ≤ (t93 + (-r92)) then
                some (.inr ((x2_5, x4_6 + 1, uD_7, uB_8)))
              else
                (wr 8 uD_7 t81 (t93 + (-r92))).bind fun uD_101 =>
                (wr 8 uB_8 t81 (((x3_2 * 15) + x4_6) - 1)).bind fun uB_102 =>
                some (.inr ((t81, x4_6 + 1, uD_101, uB_102)))
def pX3_shortenAll_l4 (N : Nat) (nA : Int32) (nC : Nat → Int32) (nF : Nat → Int32) (nT : Nat → Int32) (nU : Nat → Int32) (p0 : Int32) (uT : Nat → Int32) (x2_1 : Int32) (x3_2 : Int32) (uD_3 : Nat → Int32) (uB_4 : Nat → Int32) : Option ((Int32 × Int32 × (Nat → Int32) × (Nat → Int32)) ⊕ (Int32 × Int32 × (Nat → Int32) × (Nat → Int32))) :=
  if nA ≤ x3_2 then
    some (.inl ((x2_1, x3_2, uD_3, uB_4)))
  else
    bnd4 (lp (un4 (pX3_shortenAll_l18 nC nF nT nU p0 uT x3_2)) N ((x2_1, 1, uD_3, uB_4))) fun x2_103 x4_104 uD_105 uB_106 =>
    some (.inr ((x2_103, x3_2 + 1, uD_105, uB_106)))
def pX3_shortenAll (N : Nat) (nA : Int32) (nF : Nat → Int32) (nT : Nat → Int32) (nC : Nat → Int32) (nU : Nat → Int32) (uT : Nat → Int32) (uD : Nat → Int32) (uB : Nat → Int32) (p0 : Int32) : Option (Int32 × (Nat → Int32) × (Nat → Int32)) :=
  bnd4 (lp (un4 (pX3_shortenAll_l4 N nA nC nF nT nU p0 uT)) N (((-1), 0, uD, uB))) fun x2_107 x3_108 uD_109 uB_110 =>
  some ((x2_107, uD_109, uB_110))
def pX3_turnBack_l5 (nF : Nat → Int32) (nN : Int32) (nT : Nat → Int32) (p1 : Int32) (uB : Nat → Int32) (x3_1 : Int32) (x4_2 : Int32) (uT_3 : Nat → Int32) : Option (((Int32 × Int32 × (Nat → Int32)) ⊕ ((Nat → Int32))) ⊕ (Int32 × Int32 × (Nat → Int32))) :=
  if nN ≤ x4_2 then
    some (.inl (.inl ((x3_1, x4_2, uT_3))))
  else
    if x3_1 = p1 then
      some (.inl (.inl ((x3_1, x4_2, uT_3))))
    else
      (rd 8 uB x3_1).bind fun t4 =>
      (pX3_nodeBefore nF nT uT_3 uB x3_1).bind fun r5 =>
      if r5 = ((-1)) then
        some (.inl (.inr uT_3))
      else
        (rd 180 uT_3 t4).bind fun t6 =>
        if t6 = 0 then
          (wr 180 uT_3 t4 1).bind fun uT_8 =>
          some (.inr ((r5, x4_2 + 1, uT_8)))
        else
          (wr 180 uT_3 t4 0).bind fun uT_7 =>
          some (.inr ((r5, x4_2 + 1, uT_7)))
def pX3_turnBack (N : Nat) (nN : Int32) (nF : Nat → Int32) (nT : Nat → Int32) (uT : Nat → Int32) (uB : Nat → Int32) (p0 : Int32) (p1 : Int32) : Option ((Nat → Int32)) :=
  (lp (un3 (pX3_turnBack_l5 nF nN nT p1 uB)) N ((p0, 0, uT))).bind (sel (un3 fun x3_9 x4_10 uT_11 =>
    some uT_11))
def pX3_takeWay_l2 (nN : Int32) (p0 : Int32) (x3_1 : Int32) (uD_2 : Nat → Int32) (uB_3 : Nat → Int32) : Option ((Int32 × (Nat → Int32) × (Nat → Int32)) ⊕ (Int32 × (Nat → Int32) × (Nat → Int32))) :=
  if nN ≤ x3_1 then
    some (.inl ((x3_1, uD_2, uB_3)))
  else
    if x3_1 = p0 then
      (wr 8 uD_2 x3_1 0).bind fun uD_6 =>
      (wr 8 uB_3 x3_1 ((-1))).bind fun uB_7 =>
      some (.inr ((x3_1 + 1, uD_6, uB_7)))
    else
      (wr 8 uD_2 x3_1 1000000).bind fun uD_4 =>
      (wr 8 uB_3 x3_1 ((-1))).bind fun uB_5 =>
      some (.inr ((x3_1 + 1, uD_4, uB_5)))
def pX3_takeWay_l48 (N : Nat) (nA : Int32) (nC : Nat → Int32) (nF : Nat → Int32) (nN : Int32) (nT : Nat → Int32) (nU : Nat → Int32) (uT : Nat → Int32) (x3_11 : Int32) (x4_12 : Int32) (uD_13 : Nat → Int32) (uB_14 : Nat → Int32) : Option ((Int32 × Int32 × (Nat → Int32) × (Nat → Int32)) ⊕ (Int32 × Int32 × (Nat → Int32) × (Nat → Int32))) :=
  if nN ≤ x4_12 then
    some (.inl ((x3_11, x4_12, uD_13, uB_14)))
  else
    if x3_11 = 0 then
      some (.inl ((x3_11, x4_12, uD_13, uB_14)))
    else
      bnd3 (pX3_shortenAll N nA nF nT nC nU uT uD_13 uB_14 0) fun r15 uD_16 uB_17 =>
      if r15 = ((-1)) then
        some (.inr ((0, x4_12 + 1, uD_16, uB_17)))
      else
        some (.inr ((1, x4_12 + 1, uD_16, uB_17)))
def pX3_takeWay (N : Nat) (nN : Int32) (nA : Int32) (nF : Nat → Int32) (nT : Nat → Int32) (nC : Nat → Int32) (nU : Nat → Int32) (uT : Nat → Int32) (uD : Nat → Int32) (uB : Nat → Int32) (p0 : Int32) (p1 : Int32) : Option (Bool × (Nat → Int32) × (Nat → Int32) × (Nat → Int32)) :=
  bnd3 (lp (un3 (pX3_takeWay_l2 nN p0)) N ((0, uD, uB))) fun x3_8 uD_9 uB_10 =>
  bnd4 (lp (un4 (pX3_takeWay_l48 N nA nC nF nN nT nU uT)) N ((1, 0, uD_9, uB_10))) fun x3_18 x4_19 uD_20 uB_21 =>
  (rd 8 uD_20 p1).bind fun t22 =>
  if t22 < 1000000 then
    (pX3_turnBack N nN nF nT uT uB_21 p1 p0).bind fun uT_23 =>
    some ((true, uT_23, uD_20, uB_21))
  else
    some ((false, uT, uD_20, uB_21))
def pX3_takeOutCircle_l2 (nN : Int32) (x1_1 : Int32) (uD_2 : Nat → Int32) (uB_3 : Nat → Int32) : Option ((Int32 × (Nat → Int32) × (Nat → Int32)) ⊕ (Int32 × (Nat → Int32) × (Nat → Int32))) :=
  if nN ≤ x1_1 then
    some (.inl ((x1_1, uD_2, uB_3)))
  else
    (wr 8 uD_2 x1_1 0).bind fun uD_4 =>
    (wr 8 uB_3 x1_1 ((-1))).bind fun uB_5 =>
    some (.inr ((x1_1 + 1, uD_4, uB_5)))
def pX3_takeOutCircle_l37 (N : Nat) (nA : Int32) (nC : Nat → Int32) (nF : Nat → Int32) (nN : Int32) (nT : Nat → Int32) (nU : Nat → Int32) (uT : Nat → Int32) (x1_9 : Int32) (x2_10 : Int32) (uD_11 : Nat → Int32) (uB_12 : Nat → Int32) : Option ((Int32 × Int32 × (Nat → Int32) × (Nat → Int32)) ⊕ (Int32 × Int32 × (Nat → Int32) × (Nat → Int32))) :=
  if nN ≤ x2_10 then
    some (.inl ((x1_9, x2_10, uD_11, uB_12)))
  else
    if x1_9 = ((-1)) then
      some (.inl ((x1_9, x2_10, uD_11, uB_12)))
    else
      bnd3 (pX3_shortenAll N nA nF nT nC nU uT uD_11 uB_12 1) fun r13 uD_14 uB_15 =>
      some (.inr ((r13, x2_10 + 1, uD_14, uB_15)))
def pX3_takeOutCircle_l67 (nF : Nat → Int32) (nN : Int32) (nT : Nat → Int32) (uB_19 : Nat → Int32) (uT : Nat → Int32) (x1_20 : Int32) (x2_21 : Int32) : Option ((Int32 × Int32) ⊕ (Int32 × Int32)) :=
  if nN ≤ x2_21 then
    some (.inl ((x1_20, x2_21)))
  else
    if x1_20 = ((-1)) then
      some (.inl ((x1_20, x2_21)))
    else
      (pX3_nodeBefore nF nT uT uB_19 x1_20).bind fun r22 =>
      some (.inr ((r22, x2_21 + 1)))
def pX3_takeOutCircle (N : Nat) (nN : Int32) (nA : Int32) (nF : Nat → Int32) (nT : Nat → Int32) (nC : Nat → Int32) (nU : Nat → Int32) (uT : Nat → Int32) (uD : Nat → Int32) (uB : Nat → Int32) : Option (Bool × (Nat → Int32) × (Nat → Int32) × (Nat → Int32)) :=
  bnd3 (lp (un3 (pX3_takeOutCircle_l2 nN)) N ((0, uD, uB))) fun x1_6 uD_7 uB_8 =>
  bnd4 (lp (un4 (pX3_takeOutCircle_l37 N nA nC nF nN nT nU uT)) N ((0, 0, uD_7, uB_8))) fun x1_16 x2_17 uD_18 uB_19 =>
  bnd2 (lp (un2 (pX3_takeOutCircle_l67 nF nN nT uB_19 uT)) N ((x1_16, 0))) fun x1_23 x2_24 =>
  if x1_23 = ((-1)) then
    some ((false, uT, uD_18, uB_19))
  else
    (pX3_nodeBefore nF nT uT uB_19 x1_23).bind fun r25 =>
    if r25 = ((-1)) then
      some ((false, uT, uD_18, uB_19))
    else
      (rd 8 uB_19 x1_23).bind fun t26 =>
      (pX3_nodeBefore nF nT uT uB_19 x1_23).bind fun r27 =>
      (rd 180 uT t26).bind fun t28 =>
      if t28 = 0 then
        (wr 180 uT t26 1).bind fun uT_31 =>
        (pX3_turnBack N nN nF nT uT_31 uB_19 r27 x1_23).bind fun uT_32 =>
        some ((true, uT_32, uD_18, uB_19))
      else
        (wr 180 uT t26 0).bind fun uT_29 =>
        (pX3_turnBack N nN nF nT uT_29 uB_19 r27 x1_23).bind fun uT_30 =>
        some ((true, uT_30, uD_18, uB_19))
def pX3_takeOutCircles_l4 (N : Nat) (nA : Int32) (nC : Nat → Int32) (nF : Nat → Int32) (nN : Int32) (nT : Nat → Int32) (nU : Nat → Int32) (x1_1 : Int32) (x2_2 : Int32) (uT_3 : Nat → Int32) (uD_4 : Nat → Int32) (uB_5 : Nat → Int32) : Option ((Int32 × Int32 × (Nat → Int32) × (Nat → Int32) × (Nat → Int32)) ⊕ (Int32 × Int32 × (Nat → Int32) × (Nat → Int32) × (Nat → Int32))) :=
  if 17820 ≤ x2_2 then
    some (.inl ((x1_1, x2_2, uT_3, uD_4, uB_5)))
  else
    if x1_1 = 0 then
      some (.inl ((x1_1, x2_2, uT_3, uD_4, uB_5)))
    else
      bnd4 (pX3_takeOutCircle N nN nA nF nT nC nU uT_3 uD_4 uB_5) fun b6 uT_7 uD_8 uB_9 =>
      some (.inr ((b2i b6, x2_2 + 1, uT_7, uD_8, uB_9)))
def pX3_takeOutCircles (N : Nat) (nN : Int32) (nA : Int32) (nF : Nat → Int32) (nT : Nat → Int32) (nC : Nat → Int32) (nU : Nat → Int32) (uT : Nat → Int32) (uD : Nat → Int32) (uB : Nat → Int32) : Option ((Nat → Int32) × (Nat → Int32) × (Nat → Int32)) :=
  bnd5 (lp (un5 (pX3_takeOutCircles_l4 N nA nC nF nN nT nU)) N ((1, 0, uT, uD, uB))) fun x1_10 x2_11 uT_12 uD_13 uB_14 =>
  some ((uT_12, uD_13, uB_14))
def pX3_leastPrice_l3 (x4_1 : Int32) (uT_2 : Nat → Int32) : Option ((Int32 × (Nat → Int32)) ⊕ (Int32 × (Nat → Int32))) :=
  if 180 ≤ x4_1 then
    some (.inl ((x4_1, uT_2)))
  else
    (wr 180 uT_2 x4_1 0).bind fun uT_3 =>
    some (.inr ((x4_1 + 1, uT_3)))
def pX3_leastPrice_l28 (N : Nat) (nA : Int32) (nC : Nat → Int32) (nF : Nat → Int32) (nN : Int32) (nT : Nat → Int32) (nU : Nat → Int32) (p0 : Int32) (p1 : Int32) (p2 : Int32) (x4_6 : Int32) (uT_7 : Nat → Int32) (uD_8 : Nat → Int32) (uB_9 : Nat → Int32) : Option (((Int32 × (Nat → Int32) × (Nat → Int32) × (Nat → Int32)) ⊕ (Int32 × (Nat → Int32) × (Nat → Int32) × (Nat → Int32))) ⊕ (Int32 × (Nat → Int32) × (Nat → Int32) × (Nat → Int32))) :=
  if p2 ≤ x4_6 then
    some (.inl (.inl ((x4_6, uT_7, uD_8, uB_9))))
  else
    bnd4 (pX3_takeWay N nN nA nF nT nC nU uT_7 uD_8 uB_9 p0 p1) fun b10 uT_11 uD_12 uB_13 =>
    if (b2i b10) = 0 then
      some (.inl (.inr (((-1), uT_11, uD_12, uB_13))))
    else
      some (.inr ((x4_6 + 1, uT_11, uD_12, uB_13)))
def pX3_leastPrice (N : Nat) (nN : Int32) (nA : Int32) (nF : Nat → Int32) (nT : Nat → Int32) (nC : Nat → Int32) (nU : Nat → Int32) (uT : Nat → Int32) (uD : Nat → Int32) (uB : Nat → Int32) (p0 : Int32) (p1 : Int32) (p2 : Int32) : Option (Int32 × (Nat → Int32) × (Nat → Int32) × (Nat → Int32)) :=
  bnd2 (lp (un2 (pX3_leastPrice_l3)) N ((0, uT))) fun x4_4 uT_5 =>
  (lp (un4 (pX3_leastPrice_l28 N nA nC nF nN nT nU p0 p1 p2)) N ((0, uT_5, uD, uB))).bind (sel (un4 fun x4_14 uT_15 uD_16 uB_17 =>
    bnd3 (pX3_takeOutCircles N nN nA nF nT nC nU uT_15 uD_16 uB_17) fun uT_18 uD_19 uB_20 =>
    (pX3_priceOfTaken N nA nC nU uT_18).bind fun r21 =>
    some ((r21, uT_18, uD_19, uB_20))))
