def pX5_thrown (mTh : Int32) : Option (Int32) :=
  some mTh
def pX5_goesWell (p0 : Int32) : Option (Bool × Int32) :=
  if p0 = 0 then
    some ((true, p0))
  else
    some ((false, p0))
def pX5_in (p0 : Int32) (p1 : Int32) (p2 : Int32) : Option (Bool) :=
  if p0 < p1 then
    some false
  else
    if p2 < p0 then
      some false
    else
      some true
def pX5_isNode (mNo : Int32) (p0 : Int32) : Option (Bool) :=
  (pX5_in p0 0 (mNo - 1)).bind fun b1 =>
  some b1
def pX5_isArc (mAr : Int32) (p0 : Int32) : Option (Bool) :=
  (pX5_in p0 0 (mAr - 1)).bind fun b1 =>
  some b1
def pX5_capacityOf_l4 (mP : Nat → Int32) (mW : Nat → Int32) (p0 : Int32) (x2_1 : Int32) (x3_2 : Int32) : Option ((Int32 × Int32) ⊕ (Int32 × Int32)) :=
  (rd 12 mP p0).bind fun t3 =>
  if t3 ≤ x3_2 then
    some (.inl ((x2_1, x3_2)))
  else
    (rd 36 mW ((3 * p0) + x3_2)).bind fun t4 =>
    some (.inr ((x2_1 + t4, x3_2 + 1)))
def pX5_capacityOf (N : Nat) (mW : Nat → Int32) (mP : Nat → Int32) (p0 : Int32) : Option (Int32) :=
  bnd2 (lp (un2 (pX5_capacityOf_l4 mP mW p0)) N ((0, 0))) fun x2_5 x3_6 =>
  some x2_5
def pX5_put (mW : Nat → Int32) (mU : Nat → Int32) (mP : Nat → Int32) (p0 : Int32) (p1 : Int32) (p2 : Int32) : Option ((Nat → Int32) × (Nat → Int32) × (Nat → Int32)) :=
  (rd 12 mP p0).bind fun t1 =>
  (wr 36 mW ((3 * p0) + t1) p1).bind fun mW_2 =>
  (rd 12 mP p0).bind fun t3 =>
  (wr 36 mU ((3 * p0) + t3) p2).bind fun mU_4 =>
  (rd 12 mP p0).bind fun t5 =>
  (wr 12 mP p0 (t5 + 1)).bind fun mP_6 =>
  some ((mW_2, mU_4, mP_6))
def pX5_arc (mNo : Int32) (mAr : Int32) (mF : Nat → Int32) (mT : Nat → Int32) (mW : Nat → Int32) (mU : Nat → Int32) (mP : Nat → Int32) (p0 : Int32) (p1 : Int32) (p2 : Int32) (p3 : Int32) : Option (Int32 × Int32 × Int32 × (Nat → Int32) × (Nat → Int32) × (Nat → Int32) × (Nat → Int32) × (Nat → Int32)) :=
  if p0 = p1 then
    (pX5_isNode mNo p0).bind fun b1 =>
    if (b2i b1) = 0 then
      bnd2 (pX5_goesWell 1) fun b2 mTh_3 =>
      if (b2i b2) = 0 then
        some ((0, mTh_3, mAr, mF, mT, mW, mU, mP))
      else
        (wr 12 mF mAr p0).bind fun mF_4 =>
        (wr 12 mT mAr p1).bind fun mT_5 =>
        (wr 12 mP mAr 0).bind fun mP_6 =>
        bnd3 (pX5_put mW mU mP_6 mAr p2 p3) fun mW_7 mU_8 mP_9 =>
        some (((mAr + 1) - 1, mTh_3, mAr + 1, mF_4, mT_5, mW_7, mU_8, mP_9))
    else
      (pX5_isNode mNo p1).bind fun b10 =>
      if (b2i b10) = 0 then
        bnd2 (pX5_goesWell 1) fun b19 mTh_20 =>
        if (b2i b19) = 0 then
          some ((0, mTh_20, mAr, mF, mT, mW, mU, mP))
        else
          (wr 12 mF mAr p0).bind fun mF_21 =>
          (wr 12 mT mAr p1).bind fun mT_22 =>
          (wr 12 mP mAr 0).bind fun mP_23 =>
          bnd3 (pX5_put mW mU mP_23 mAr p2 p3) fun mW_24 mU_25 mP_26 =>
          some (((mAr + 1) - 1, mTh_20, mAr + 1, mF_21, mT_22, mW_24, mU_25, mP_26))
      else
        bnd2 (pX5_goesWell 2) fun b11 mTh_12 =>
        if (b2i b11) = 0 then
          some ((0, mTh_12, mAr, mF, mT, mW, mU, mP))
        else
          (wr 12 mF mAr p0).bind fun mF_13 =>
          (wr 12 mT mAr p1).bind fun mT_14 =>
          (wr 12 mP mAr 0).bind fun mP_15 =>
          bnd3 (pX5_put mW mU mP_15 mAr p2 p3) fun mW_16 mU_17 mP_18 =>
          some (((mAr + 1) - 1, mTh_12, mAr + 1, mF_13, mT_14, mW_16, mU_17, mP_18))
  else
    (pX5_in p2 1 5).bind fun b27 =>
    if (b2i b27) = 0 then
      (pX5_isNode mNo p0).bind fun b28 =>
      if (b2i b28) = 0 then
        bnd2 (pX5_goesWell 1) fun b29 mTh_30 =>
        if (b2i b29) = 0 then
          some ((0, mTh_30, mAr, mF, mT, mW, mU, mP))
        else
          (wr 12 mF mAr p0).bind fun mF_31 =>
          (wr 12 mT mAr p1).bind fun mT_32 =>
          (wr 12 mP mAr 0).bind fun mP_33 =>
          bnd3 (pX5_put mW mU mP_33 mAr p2 p3) fun mW_34 mU_35 mP_36 =>
          some (((mAr + 1) - 1, mTh_30, mAr + 1, mF_31, mT_32, mW_34, mU_35, mP_36))
      else
        (pX5_isNode mNo p1).bind fun b37 =>
        if (b2i b37) = 0 then
          bnd2 (pX5_goesWell 1) fun b46 mTh_47 =>
          if (b2i b46) = 0 then
            some ((0, mTh_47, mAr, mF, mT, mW, mU, mP))
          else
            (wr 12 mF mAr p0).bind fun mF_48 =>
            (wr 12 mT mAr p1).bind fun mT_49 =>
            (wr 12 mP mAr 0).bind fun mP_50 =>
            bnd3 (pX5_put mW mU mP_50 mAr p2 p3) fun mW_51 mU_52 mP_53 =>
            some (((mAr + 1) - 1, mTh_47, mAr + 1, mF_48, mT_49, mW_51, mU_52, mP_53))
        else
          bnd2 (pX5_goesWell 2) fun b38 mTh_39 =>
          if (b2i b38) = 0 then
            some ((0, mTh_39, mAr, mF, mT, mW, mU, mP))
          else
            (wr 12 mF mAr p0).bind fun mF_40 =>
            (wr 12 mT mAr p1).bind fun mT_41 =>
            (wr 12 mP mAr 0).bind fun mP_42 =>
            bnd3 (pX5_put mW mU mP_42 mAr p2 p3) fun mW_43 mU_44 mP_45 =>
            some (((mAr + 1) - 1, mTh_39, mAr + 1, mF_40, mT_41, mW_43, mU_44, mP_45))
    else
      (pX5_in p3 0 99).bind fun b54 =>
      if (b2i b54) = 0 then
        (pX5_isNode mNo p0).bind fun b55 =>
        if (b2i b55) = 0 then
          bnd2 (pX5_goesWell 1) fun b56 mTh_57 =>
          if (b2i b56) = 0 then
            some ((0, mTh_57, mAr, mF, mT, mW, mU, mP))
          else
            (wr 12 mF mAr p0).bind fun mF_58 =>
            (wr 12 mT mAr p1).bind fun mT_59 =>
            (wr 12 mP mAr 0).bind fun mP_60 =>
            bnd3 (pX5_put mW mU mP_60 mAr p2 p3) fun mW_61 mU_62 mP_63 =>
            some (((mAr + 1) - 1, mTh_57, mAr + 1, mF_58, mT_59, mW_61, mU_62, mP_63))
        else
          (pX5_isNode mNo p1).bind fun b64 =>
          if (b2i b64) = 0 then
            bnd2 (pX5_goesWell 1) fun b73 mTh_74 =>
            if (b2i b73) = 0 then
              some ((0, mTh_74, mAr, mF, mT, mW, mU, mP))
            else
              (wr 12 mF mAr p0).bind fun mF_75 =>
              (wr 12 mT mAr p1).bind fun mT_76 =>
              (wr 12 mP mAr 0).bind fun mP_77 =>
              bnd3 (pX5_put mW mU mP_77 mAr p2 p3) fun mW_78 mU_79 mP_80 =>
              some (((mAr + 1) - 1, mTh_74, mAr + 1, mF_75, mT_76, mW_78, mU_79, mP_80))
          else
            bnd2 (pX5_goesWell 2) fun b65 mTh_66 =>
            if (b2i b65) = 0 then
              some ((0, mTh_66, mAr, mF, mT, mW, mU, mP))
            else
              (wr 12 mF mAr p0).bind fun mF_67 =>
              (wr 12 mT mAr p1).bind fun mT_68 =>
              (wr 12 mP mAr 0).bind fun mP_69 =>
              bnd3 (pX5_put mW mU mP_69 mAr p2 p3) fun mW_70 mU_71 mP_72 =>
              some (((mAr + 1) - 1, mTh_66, mAr + 1, mF_67, mT_68, mW_70, mU_71, mP_72))
      else
        (pX5_isNode mNo p0).bind fun b81 =>
        if (b2i b81) = 0 then
          bnd2 (pX5_goesWell 1) fun b82 mTh_83 =>
          if (b2i b82) = 0 then
            some ((0, mTh_83, mAr, mF, mT, mW, mU, mP))
          else
            (wr 12 mF mAr p0).bind fun mF_84 =>
            (wr 12 mT mAr p1).bind fun mT_85 =>
            (wr 12 mP mAr 0).bind fun mP_86 =>
            bnd3 (pX5_put mW mU mP_86 mAr p2 p3) fun mW_87 mU_88 mP_89 =>
            some (((mAr + 1) - 1, mTh_83, mAr + 1, mF_84, mT_85, mW_87, mU_88, mP_89))
        else
          (pX5_isNode mNo p1).bind fun b90 =>
          if (b2i b90) = 0 then
            bnd2 (pX5_goesWell 1) fun b107 mTh_108 =>
            if (b2i b107) = 0 then
              some ((0, mTh_108, mAr, mF, mT, mW, mU, mP))
            else
              (wr 12 mF mAr p0).bind fun mF_109 =>
              (wr 12 mT mAr p1).bind fun mT_110 =>
              (wr 12 mP mAr 0).bind fun mP_111 =>
              bnd3 (pX5_put mW mU mP_111 mAr p2 p3) fun mW_112 mU_113 mP_114 =>
              some (((mAr + 1) - 1, mTh_108, mAr + 1, mF_109, mT_110, mW_112, mU_113, mP_114))
          else
            if mAr = 12 then
              bnd2 (pX5_goesWell 3) fun b99 mTh_100 =>
              if (b2i b99) = 0 then
                some ((0, mTh_100, mAr, mF, mT, mW, mU, mP))
              else
                (wr 12 mF mAr p0).bind fun mF_101 =>
                (wr 12 mT mAr p1).bind fun mT_102 =>
                (wr 12 mP mAr 0).bind fun mP_103 =>
                bnd3 (pX5_put mW mU mP_103 mAr p2 p3) fun mW_104 mU_105 mP_106 =>
                some (((mAr + 1) - 1, mTh_100, mAr + 1, mF_101, mT_102, mW_104, mU_105, mP_106))
            else
              bnd2 (pX5_goesWell 0) fun b91 mTh_92 =>
              if (b2i b91) = 0 then
                some ((0, mTh_92, mAr, mF, mT, mW, mU, mP))
              else
                (wr 12 mF mAr p0).bind fun mF_93 =>
                (wr 12 mT mAr p1).bind fun mT_94 =>
                (wr 12 mP mAr 0).bind fun mP_95 =>
                bnd3 (pX5_put mW mU mP_95 mAr p2 p3) fun mW_96 mU_97 mP_98 =>
                some (((mAr + 1) - 1, mTh_92, mAr + 1, mF_93, mT_94, mW_96, mU_97, mP_98))
def pX5_piece (N : Nat) (mAr : Int32) (mW : Nat → Int32) (mU : Nat → Int32) (mP : Nat → Int32) (p0 : Int32) (p1 : Int32) (p2 : Int32) : Option (Int32 × Int32 × (Nat → Int32) × (Nat → Int32) × (Nat → Int32)) :=
  (pX5_isArc mAr p0).bind fun b1 =>
  if (b2i b1) = 0 then
    (pX5_isArc mAr p0).bind fun b2 =>
    if (b2i b2) = 0 then
      bnd2 (pX5_goesWell 1) fun b9 mTh_10 =>
      if (b2i b9) = 0 then
        some ((0, mTh_10, mW, mU, mP))
      else
        bnd3 (pX5_put mW mU mP p0 p1 p2) fun mW_11 mU_12 mP_13 =>
        (pX5_capacityOf N mW_11 mP_13 p0).bind fun r14 =>
        some ((r14, mTh_10, mW_11, mU_12, mP_13))
    else
      bnd2 (pX5_goesWell 2) fun b3 mTh_4 =>
      if (b2i b3) = 0 then
        some ((0, mTh_4, mW, mU, mP))
      else
        bnd3 (pX5_put mW mU mP p0 p1 p2) fun mW_5 mU_6 mP_7 =>
        (pX5_capacityOf N mW_5 mP_7 p0).bind fun r8 =>
        some ((r8, mTh_4, mW_5, mU_6, mP_7))
  else
    (pX5_in p1 1 5).bind fun b15 =>
    if (b2i b15) = 0 then
      (pX5_isArc mAr p0).bind fun b16 =>
      if (b2i b16) = 0 then
        bnd2 (pX5_goesWell 1) fun b23 mTh_24 =>
        if (b2i b23) = 0 then
          some ((0, mTh_24, mW, mU, mP))
        else
          bnd3 (pX5_put mW mU mP p0 p1 p2) fun mW_25 mU_26 mP_27 =>
          (pX5_capacityOf N mW_25 mP_27 p0).bind fun r28 =>
          some ((r28, mTh_24, mW_25, mU_26, mP_27))
      else
        bnd2 (pX5_goesWell 2) fun b17 mTh_18 =>
        if (b2i b17) = 0 then
          some ((0, mTh_18, mW, mU, mP))
        else
          bnd3 (pX5_put mW mU mP p0 p1 p2) fun mW_19 mU_20 mP_21 =>
          (pX5_capacityOf N mW_19 mP_21 p0).bind fun r22 =>
          some ((r22, mTh_18, mW_19, mU_20, mP_21))
    else
      (rd 12 mP p0).bind fun t29 =>
      (rd 36 mU (((3 * p0) + t29) - 1)).bind fun t30 =>
      (pX5_in p2 t30 99).bind fun b31 =>
      if (b2i b31) = 0 then
        (pX5_isArc mAr p0).bind fun b32 =>
        if (b2i b32) = 0 then
          bnd2 (pX5_goesWell 1) fun b39 mTh_40 =>
          if (b2i b39) = 0 then
            some ((0, mTh_40, mW, mU, mP))
          else
            bnd3 (pX5_put mW mU mP p0 p1 p2) fun mW_41 mU_42 mP_43 =>
            (pX5_capacityOf N mW_41 mP_43 p0).bind fun r44 =>
            some ((r44, mTh_40, mW_41, mU_42, mP_43))
        else
          bnd2 (pX5_goesWell 2) fun b33 mTh_34 =>
          if (b2i b33) = 0 then
            some ((0, mTh_34, mW, mU, mP))
          else
            bnd3 (pX5_put mW mU mP p0 p1 p2) fun mW_35 mU_36 mP_37 =>
            (pX5_capacityOf N mW_35 mP_37 p0).bind fun r38 =>
            some ((r38, mTh_34, mW_35, mU_36, mP_37))
      else
        (pX5_isArc mAr p0).bind fun b45 =>
        if (b2i b45) = 0 then
          bnd2 (pX5_goesWell 1) fun b59 mTh_60 =>
          if (b2i b59) = 0 then
            some ((0, mTh_60, mW, mU, mP))
          else
            bnd3 (pX5_put mW mU mP p0 p1 p2) fun mW_61 mU_62 mP_63 =>
            (pX5_capacityOf N mW_61 mP_63 p0).bind fun r64 =>
            some ((r64, mTh_60, mW_61, mU_62, mP_63))
        else
          (rd 12 mP p0).bind fun t46 =>
          if t46 = 3 then
            bnd2 (pX5_goesWell 3) fun b53 mTh_54 =>
            if (b2i b53) = 0 then
              some ((0, mTh_54, mW, mU, mP))
            else
              bnd3 (pX5_put mW mU mP p0 p1 p2) fun mW_55 mU_56 mP_57 =>
              (pX5_capacityOf N mW_55 mP_57 p0).bind fun r58 =>
              some ((r58, mTh_54, mW_55, mU_56, mP_57))
          else
            bnd2 (pX5_goesWell 0) fun b47 mTh_48 =>
            if (b2i b47) = 0 then
              some ((0, mTh_48, mW, mU, mP))
            else
              bnd3 (pX5_put mW mU mP p0 p1 p2) fun mW_49 mU_50 mP_51 =>
              (pX5_capacityOf N mW_49 mP_51 p0).bind fun r52 =>
              some ((r52, mTh_48, mW_49, mU_50, mP_51))
def pX5_demand (mNo : Int32) (mS : Int32) (mG : Int32) (mQ : Int32) (p0 : Int32) (p1 : Int32) (p2 : Int32) : Option (Int32 × Int32 × Int32 × Int32) :=
  if p0 = p1 then
    (pX5_isNode mNo p0).bind fun b1 =>
    if (b2i b1) = 0 then
      bnd2 (pX5_goesWell 1) fun b2 mTh_3 =>
      if (b2i b2) = 0 then
        some ((mTh_3, mS, mG, mQ))
      else
        some ((mTh_3, p0, p1, p2))
    else
      (pX5_isNode mNo p1).bind fun b4 =>
      if (b2i b4) = 0 then
        bnd2 (pX5_goesWell 1) fun b7 mTh_8 =>
        if (b2i b7) = 0 then
          some ((mTh_8, mS, mG, mQ))
        else
          some ((mTh_8, p0, p1, p2))
      else
        bnd2 (pX5_goesWell 2) fun b5 mTh_6 =>
        if (b2i b5) = 0 then
          some ((mTh_6, mS, mG, mQ))
        else
          some ((mTh_6, p0, p1, p2))
  else
    (pX5_in p2 0 20).bind fun b9 =>
    if (b2i b9) = 0 then
      (pX5_isNode mNo p0).bind fun b10 =>
      if (b2i b10) = 0 then
        bnd2 (pX5_goesWell 1) fun b11 mTh_12 =>
        if (b2i b11) = 0 then
          some ((mTh_12, mS, mG, mQ))
        else
          some ((mTh_12, p0, p1, p2))
      else
        (pX5_isNode mNo p1).bind fun b13 =>
        if (b2i b13) = 0 then
          bnd2 (pX5_goesWell 1) fun b16 mTh_17 =>
          if (b2i b16) = 0 then
            some ((mTh_17, mS, mG, mQ))
          else
            some ((mTh_17, p0, p1, p2))
        else
          bnd2 (pX5_goesWell 2) fun b14 mTh_15 =>
          if (b2i b14) = 0 then
            some ((mTh_15, mS, mG, mQ))
          else
            some ((mTh_15, p0, p1, p2))
    else
      (pX5_isNode mNo p0).bind fun b18 =>
      if (b2i b18) = 0 then
        bnd2 (pX5_goesWell 1) fun b19 mTh_20 =>
        if (b2i b19) = 0 then
          some ((mTh_20, mS, mG, mQ))
        else
          some ((mTh_20, p0, p1, p2))
      else
        (pX5_isNode mNo p1).bind fun b21 =>
        if (b2i b21) = 0 then
          bnd2 (pX5_goesWell 1) fun b24 mTh_25 =>
          if (b2i b24) = 0 then
            some ((mTh_25, mS, mG, mQ))
          else
            some ((mTh_25, p0, p1, p2))
        else
          bnd2 (pX5_goesWell 0) fun b22 mTh_23 =>
          if (b2i b22) = 0 then
            some ((mTh_23, mS, mG, mQ))
          else
            some ((mTh_23, p0, p1, p2))
def pX5_nodes (mNo : Int32) : Option (Int32 × Int32) :=
  some ((mNo, 0))
def pX5_arcs (mAr : Int32) : Option (Int32 × Int32) :=
  some ((mAr, 0))
def pX5_capacity (N : Nat) (mAr : Int32) (mW : Nat → Int32) (mP : Nat → Int32) (p0 : Int32) : Option (Int32 × Int32) :=
  (pX5_isArc mAr p0).bind fun b1 =>
  if (b2i b1) = 0 then
    bnd2 (pX5_goesWell 1) fun b2 mTh_3 =>
    if (b2i b2) = 0 then
      some ((0, mTh_3))
    else
      (pX5_capacityOf N mW mP p0).bind fun r4 =>
      some ((r4, mTh_3))
  else
    bnd2 (pX5_goesWell 0) fun b5 mTh_6 =>
    if (b2i b5) = 0 then
      some ((0, mTh_6))
    else
      (pX5_capacityOf N mW mP p0).bind fun r7 =>
      some ((r7, mTh_6))
def pX5_priceOf_l5 (mW : Nat → Int32) (p0 : Int32) (x3_1 : Int32) (x4_2 : Int32) : Option ((Int32 × Int32) ⊕ (Int32 × Int32)) :=
  (rd 36 mW ((3 * p0) + x3_1)).bind fun t3 =>
  if x4_2 ≤ t3 then
    some (.inl ((x3_1, x4_2)))
  else
    (rd 36 mW ((3 * p0) + x3_1)).bind fun t4 =>
    some (.inr ((x3_1 + 1, x4_2 - t4)))
def pX5_priceOf (N : Nat) (mW : Nat → Int32) (mU : Nat → Int32) (p0 : Int32) (p1 : Int32) : Option (Int32) :=
  bnd2 (lp (un2 (pX5_priceOf_l5 mW p0)) N ((0, p1))) fun x3_5 x4_6 =>
  (rd 36 mU ((3 * p0) + x3_5)).bind fun t7 =>
  some t7
def pX5_price (N : Nat) (mAr : Int32) (mW : Nat → Int32) (mU : Nat → Int32) (mP : Nat → Int32) (p0 : Int32) (p1 : Int32) : Option (Int32 × Int32) :=
  (pX5_isArc mAr p0).bind fun b1 =>
  if (b2i b1) = 0 then
    bnd2 (pX5_goesWell 1) fun b2 mTh_3 =>
    if (b2i b2) = 0 then
      some ((0, mTh_3))
    else
      (pX5_priceOf N mW mU p0 p1).bind fun r4 =>
      some ((r4, mTh_3))
  else
    (pX5_capacityOf N mW mP p0).bind fun r5 =>
    (pX5_in p1 1 r5).bind fun b6 =>
    if (b2i b6) = 0 then
      bnd2 (pX5_goesWell 1) fun b7 mTh_8 =>
      if (b2i b7) = 0 then
        some ((0, mTh_8))
      else
        (pX5_priceOf N mW mU p0 p1).bind fun r9 =>
        some ((r9, mTh_8))
    else
      bnd2 (pX5_goesWell 0) fun b10 mTh_11 =>
      if (b2i b10) = 0 then
        some ((0, mTh_11))
      else
        (pX5_priceOf N mW mU p0 p1).bind fun r12 =>
        some ((r12, mTh_11))
def pX5_open_l2 (N : Nat) (mAr : Int32) (mP : Nat → Int32) (mW : Nat → Int32) (x1_1 : Int32) (mL_2 : Nat → Int32) (mM_3 : Nat → Int32) : Option ((Int32 × (Nat → Int32) × (Nat → Int32)) ⊕ (Int32 × (Nat → Int32) × (Nat → Int32))) :=
  if mAr ≤ x1_1 then
    some (.inl ((x1_1, mL_2, mM_3)))
  else
    (wr 12 mL_2 x1_1 0).bind fun mL_4 =>
    (pX5_capacityOf N mW mP x1_1).bind fun r5 =>
    (wr 12 mM_3 x1_1 r5).bind fun mM_6 =>
    some (.inr ((x1_1 + 1, mL_4, mM_6)))
def pX5_open (N : Nat) (mAr : Int32) (mW : Nat → Int32) (mP : Nat → Int32) (mL : Nat → Int32) (mM : Nat → Int32) : Option ((Nat → Int32) × (Nat → Int32)) :=
  bnd3 (lp (un3 (pX5_open_l2 N mAr mP mW)) N ((0, mL, mM))) fun x1_7 mL_8 mM_9 =>
  some ((mL_8, mM_9))
def pX5_begin_l2 (mNo : Int32) (x3_1 : Int32) (mR_2 : Nat → Int32) : Option ((Int32 × (Nat → Int32)) ⊕ (Int32 × (Nat → Int32))) :=
  if mNo ≤ x3_1 then
    some (.inl ((x3_1, mR_2)))
  else
    (wr 8 mR_2 x3_1 0).bind fun mR_3 =>
    some (.inr ((x3_1 + 1, mR_3)))
def pX5_begin_l150 (N : Nat) (mL : Nat → Int32) (mU : Nat → Int32) (mW : Nat → Int32) (x4_64 : Int32) (x3_77 : Int32) (x5_78 : Int32) : Option ((Int32 × Int32) ⊕ (Int32 × Int32)) :=
  (rd 12 mL x4_64).bind fun t79 =>
  if t79 < x5_78 then
    some (.inl ((x3_77, x5_78)))
  else
    (pX5_priceOf N mW mU x4_64 x5_78).bind fun r80 =>
    some (.inr ((x3_77 + r80, x5_78 + 1)))
def pX5_begin_l80 (N : Nat) (mAr : Int32) (mF : Nat → Int32) (mL : Nat → Int32) (mT : Nat → Int32) (mU : Nat → Int32) (mW : Nat → Int32) (x3_63 : Int32) (x4_64 : Int32) (mO_65 : Nat → Int32) (mR_66 : Nat → Int32) : Option ((Int32 × Int32 × (Nat → Int32) × (Nat → Int32)) ⊕ (Int32 × Int32 × (Nat → Int32) × (Nat → Int32))) :=
  if mAr ≤ x4_64 then
    some (.inl ((x3_63, x4_64, mO_65, mR_66)))
  else
    (rd 12 mL x4_64).bind fun t67 =>
    (wr 12 mO_65 x4_64 t67).bind fun mO_68 =>
    (rd 12 mF x4_64).bind fun t69 =>
    (rd 8 mR_66 t69).bind fun t70 =>
    (rd 12 mL x4_64).bind fun t71 =>
    (wr 8 mR_66 t69 (t70 - t71)).bind fun mR_72 =>
    (rd 12 mT x4_64).bind fun t73 =>
    (rd 8 mR_72 t73).bind fun t74 =>
    (rd 12 mL x4_64).bind fun t75 =>
    (wr 8 mR_72 t73 (t74 + t75)).bind fun mR_76 =>
    bnd2 (lp (un2 (pX5_begin_l150 N mL mU mW x4_64)) N ((x3_63, 1))) fun x3_81 x5_82 =>
    some (.inr ((x3_81, x4_64 + 1, mO_68, mR_76)))
def pX5_begin_l150' (N : Nat) (mL : Nat → Int32) (mU : Nat → Int32) (mW : Nat → Int32) (x4_90 : Int32) (x3_103 : Int32) (x5_104 : Int32) : Option ((Int32 × Int32) ⊕ (Int32 × Int32)) :=
  (rd 12 mL x4_90).bind fun t105 =>
  if t105 < x5_104 then
    some (.inl ((x3_103, x5_104)))
  else
    (pX5_priceOf N mW mU x4_90 x5_104).bind fun r106 =>
    some (.inr ((x3_103 + r106, x5_104 + 1)))
def pX5_begin_l80' (N : Nat) (mAr : Int32) (mF : Nat → Int32) (mL : Nat → Int32) (mT : Nat → Int32) (mU : Nat → Int32) (mW : Nat → Int32) (x3_89 : Int32) (x4_90 : Int32) (mO_91 : Nat → Int32) (mR_92 : Nat → Int32) : Option ((Int32 × Int32 × (Nat → Int32) × (Nat → Int32)) ⊕ (Int32 × Int32 × (Nat → Int32) × (Nat → Int32))) :=
  if mAr ≤ x4_90 then
    some (.inl ((x3_89, x4_90, mO_91, mR_92)))
  else
    (rd 12 mL x4_90).bind fun t93 =>
    (wr 12 mO_91 x4_90 t93).bind fun mO_94 =>
    (rd 12 mF x4_90).bind fun t95 =>
    (rd 8 mR_92 t95).bind fun t96 =>
    (rd 12 mL x4_90).bind fun t97 =>
    (wr 8 mR_92 t95 (t96 - t97)).bind fun mR_98 =>
    (rd 12 mT x4_90).bind fun t99 =>
    (rd 8 mR_98 t99).bind fun t100 =>
    (rd 12 mL x4_90).bind fun t101 =>
    (wr 8 mR_98 t99 (t100 + t101)).bind fun mR_102 =>
    bnd2 (lp (un2 (pX5_begin_l150' N mL mU mW x4_90)) N ((x3_89, 1))) fun x3_107 x5_108 =>
    some (.inr ((x3_107, x4_90 + 1, mO_94, mR_102)))
def pX5_begin_l150'' (N : Nat) (mL : Nat → Int32) (mU : Nat → Int32) (mW : Nat → Int32) (x4_11 : Int32) (x3_24 : Int32) (x5_25 : Int32) : Option ((Int32 × Int32) ⊕ (Int32 × Int32)) :=
  (rd 12 mL x4_11).bind fun t26 =>
  if t26 < x5_25 then
    some (.inl ((x3_24, x5_25)))
  else
    (pX5_priceOf N mW mU x4_11 x5_25).bind fun r27 =>
    some (.inr ((x3_24 + r27, x5_25 + 1)))
def pX5_begin_l80'' (N : Nat) (mAr : Int32) (mF : Nat → Int32) (mL : Nat → Int32) (mT : Nat → Int32) (mU : Nat → Int32) (mW : Nat → Int32) (x3_10 : Int32) (x4_11 : Int32) (mO_12 : Nat → Int32) (mR_13 : Nat → Int32) : Option ((Int32 × Int32 × (Nat → Int32) × (Nat → Int32)) ⊕ (Int32 × Int32 × (Nat → Int32) × (Nat → Int32))) :=
  if mAr ≤ x4_11 then
    some (.inl ((x3_10, x4_11, mO_12, mR_13)))
  else
    (rd 12 mL x4_11).bind fun t14 =>
    (wr 12 mO_12 x4_11 t14).bind fun mO_15 =>
    (rd 12 mF x4_11).bind fun t16 =>
    (rd 8 mR_13 t16).bind fun t17 =>
    (rd 12 mL x4_11).bind fun t18 =>
    (wr 8 mR_13 t16 (t17 - t18)).bind fun mR_19 =>
    (rd 12 mT x4_11).bind fun t20 =>
    (rd 8 mR_19 t20).bind fun t21 =>
    (rd 12 mL x4_11).bind fun t22 =>
    (wr 8 mR_19 t20 (t21 + t22)).bind fun mR_23 =>
    bnd2 (lp (un2 (pX5_begin_l150'' N mL mU mW x4_11)) N ((x3_10, 1))) fun x3_28 x5_29 =>
    some (.inr ((x3_28, x4_11 + 1, mO_15, mR_23)))
def pX5_begin_l150''' (N : Nat) (mL : Nat → Int32) (mU : Nat → Int32) (mW : Nat → Int32) (x4_37 : Int32) (x3_50 : Int32) (x5_51 : Int32) : Option ((Int32 × Int32) ⊕ (Int32 × Int32)) :=
  (rd 12 mL x4_37).bind fun t52 =>
  if t52 < x5_51 then
    some (.inl ((x3_50, x5_51)))
  else
    (pX5_priceOf N mW mU x4_37 x5_51).bind fun r53 =>
    some (.inr ((x3_50 + r53, x5_51 + 1)))
def pX5_begin_l80''' (N : Nat) (mAr : Int32) (mF : Nat → Int32) (mL : Nat → Int32) (mT : Nat → Int32) (mU : Nat → Int32) (mW : Nat → Int32) (x3_36 : Int32) (x4_37 : Int32) (mO_38 : Nat → Int32) (mR_39 : Nat → Int32) : Option ((Int32 × Int32 × (Nat → Int32) × (Nat → Int32)) ⊕ (Int32 × Int32 × (Nat → Int32) × (Nat → Int32))) :=
  if mAr ≤ x4_37 then
    some (.inl ((x3_36, x4_37, mO_38, mR_39)))
  else
    (rd 12 mL x4_37).bind fun t40 =>
    (wr 12 mO_38 x4_37 t40).bind fun mO_41 =>
    (rd 12 mF x4_37).bind fun t42 =>
    (rd 8 mR_39 t42).bind fun t43 =>
    (rd 12 mL x4_37).bind fun t44 =>
    (wr 8 mR_39 t42 (t43 - t44)).bind fun mR_45 =>
    (rd 12 mT x4_37).bind fun t46 =>
    (rd 8 mR_45 t46).bind fun t47 =>
    (rd 12 mL x4_37).bind fun t48 =>
    (wr 8 mR_45 t46 (t47 + t48)).bind fun mR_49 =>
    bnd2 (lp (un2 (pX5_begin_l150''' N mL mU mW x4_37)) N ((x3_36, 1))) fun x3_54 x5_55 =>
    some (.inr ((x3_54, x4_37 + 1, mO_41, mR_49)))
def pX5_begin (N : Nat) (mNo : Int32) (mAr : Int32) (mS : Int32) (mG : Int32) (mF : Nat → Int32) (mT : Nat → Int32) (mW : Nat → Int32) (mU : Nat → Int32) (mL : Nat → Int32) (mO : Nat → Int32) (mR : Nat → Int32) (p0 : Int32) (p1 : Int32) : Option (Int32 × (Nat → Int32) × (Nat → Int32)) :=
  bnd2 (lp (un2 (pX5_begin_l2 mNo)) N ((0, mR))) fun x3_4 mR_5 =>
  (rd 8 mR_5 mS).bind fun t6 =>
  if p1 = ((-1)) then
    (wr 8 mR_5 mS (t6 + (p0 + 0))).bind fun mR_60 =>
    (rd 8 mR_60 mG).bind fun t61 =>
    (wr 8 mR_60 mG (t61 - p0)).bind fun mR_62 =>
    if p1 = ((-1)) then
      bnd4 (lp (un4 (pX5_begin_l80 N mAr mF mL mT mU mW)) N ((0, 0, mO, mR_62))) fun x3_83 x4_84 mO_85 mR_86 =>
      some ((x3_83, mO_85, mR_86))
    else
      (rd 8 mR_62 p1).bind fun t87 =>
      (wr 8 mR_62 p1 (t87 - 1)).bind fun mR_88 =>
      bnd4 (lp (un4 (pX5_begin_l80' N mAr mF mL mT mU mW)) N ((0, 0, mO, mR_88))) fun x3_109 x4_110 mO_111 mR_112 =>
      some ((x3_109, mO_111, mR_112))
  else
    (wr 8 mR_5 mS (t6 + (p0 + 1))).bind fun mR_7 =>
    (rd 8 mR_7 mG).bind fun t8 =>
    (wr 8 mR_7 mG (t8 - p0)).bind fun mR_9 =>
    if p1 = ((-1)) then
      bnd4 (lp (un4 (pX5_begin_l80'' N mAr mF mL mT mU mW)) N ((0, 0, mO, mR_9))) fun x3_30 x4_31 mO_32 mR_33 =>
      some ((x3_30, mO_32, mR_33))
    else
      (rd 8 mR_9 p1).bind fun t34 =>
      (wr 8 mR_9 p1 (t34 - 1)).bind fun mR_35 =>
      bnd4 (lp (un4 (pX5_begin_l80''' N mAr mF mL mT mU mW)) N ((0, 0, mO, mR_35))) fun x3_56 x4_57 mO_58 mR_59 =>
      some ((x3_56, mO_58, mR_59))
def pX5_steps (mD : Nat → Int32) (mB : Nat → Int32) (p0 : Int32) (p1 : Int32) (p2 : Int32) (p3 : Int32) : Option (Bool × (Nat → Int32) × (Nat → Int32)) :=
  (rd 8 mD p0).bind fun t1 =>
  if 1000000 ≤ t1 then
    some ((false, mD, mB))
  else
    (rd 8 mD p0).bind fun t2 =>
    (rd 8 mD p1).bind fun t3 =>
    if (t2 + p2) < t3 then
      (rd 8 mD p0).bind fun t4 =>
      (wr 8 mD p1 (t4 + p2)).bind fun mD_5 =>
      (wr 8 mB p1 p3).bind fun mB_6 =>
      some ((true, mD_5, mB_6))
    else
      some ((false, mD, mB))
def pX5_measure_l2 (mNo : Int32) (mR : Nat → Int32) (x1_1 : Int32) (mD_2 : Nat → Int32) (mB_3 : Nat → Int32) : Option ((Int32 × (Nat → Int32) × (Nat → Int32)) ⊕ (Int32 × (Nat → Int32) × (Nat → Int32))) :=
  if mNo ≤ x1_1 then
    some (.inl ((x1_1, mD_2, mB_3)))
  else
    (rd 8 mR x1_1).bind fun t4 =>
    if t4 ≤ 0 then
      (wr 8 mD_2 x1_1 1000000).bind fun mD_5 =>
      (wr 8 mB_3 x1_1 ((-1))).bind fun mB_6 =>
      some (.inr ((x1_1 + 1, mD_5, mB_6)))
    else
      (wr 8 mD_2 x1_1 0).bind fun mD_7 =>
      (wr 8 mB_3 x1_1 ((-1))).bind fun mB_8 =>
      some (.inr ((x1_1 + 1, mD_7, mB_8)))
def pX5_measure_l54 (N : Nat) (mAr : Int32) (mF : Nat → Int32) (mL : Nat → Int32) (mM : Nat → Int32) (mO : Nat → Int32) (mT : Nat → Int32) (mU : Nat → Int32) (mW : Nat → Int32) (x1_15 : Int32) (x2_16 : Int32) (mD_17 : Nat → Int32) (mB_18 : Nat → Int32) : Option ((Int32 × Int32 × (Nat → Int32) × (Nat → Int32)) ⊕ (Int32 × Int32 × (Nat → Int32) × (Nat → Int32))) :=
  if mAr ≤ x2_16 then
    some (.inl ((x1_15, x2_16, mD_17, mB_18)))
  else
    (rd 12 mO x2_16).bind fun t19 =>
    (rd 12 mM x2_16).bind fun t20 =>
    if t20 ≤ t19 then
      (rd 12 mO x2_16).bind fun t21 =>
      (rd 12 mL x2_16).bind fun t22 =>
      if t21 ≤ t22 then
        some (.inr ((x1_15, x2_16 + 1, mD_17, mB_18)))
      else
        (rd 12 mT x2_16).bind fun t23 =>
        (rd 12 mF x2_16).bind fun t24 =>
        (rd 12 mO x2_16).bind fun t25 =>
        (pX5_priceOf N mW mU x2_16 t25).bind fun r26 =>
        bnd3 (pX5_steps mD_17 mB_18 t23 t24 (-r26) ((2 * x2_16) + 1)) fun b27 mD_28 mB_29 =>
        if (b2i b27) = 0 then
          if x1_15 = 0 then
            some (.inr ((0, x2_16 + 1, mD_28, mB_29)))
          else
            some (.inr ((1, x2_16 + 1, mD_28, mB_29)))
        else
          some (.inr ((1, x2_16 + 1, mD_28, mB_29)))
    else
      (rd 12 mF x2_16).bind fun t30 =>
      (rd 12 mT x2_16).bind fun t31 =>
      (rd 12 mO x2_16).bind fun t32 =>
      (pX5_priceOf N mW mU x2_16 (t32 + 1)).bind fun r33 =>
      bnd3 (pX5_steps mD_17 mB_18 t30 t31 r33 (2 * x2_16)) fun b34 mD_35 mB_36 =>
      if (b2i b34) = 0 then
        if x1_15 = 0 then
          (rd 12 mO x2_16).bind fun t46 =>
          (rd 12 mL x2_16).bind fun t47 =>
          if t46 ≤ t47 then
            some (.inr ((0, x2_16 + 1, mD_35, mB_36)))
          else
            (rd 12 mT x2_16).bind fun t48 =>
            (rd 12 mF x2_16).bind fun t49 =>
            (rd 12 mO x2_16).bind fun t50 =>
            (pX5_priceOf N mW mU x2_16 t50).bind fun r51 =>
            bnd3 (pX5_steps mD_35 mB_36 t48 t49 (-r51) ((2 * x2_16) + 1)) fun b52 mD_53 mB_54 =>
            if (b2i b52) = 0 then
              some (.inr ((0, x2_16 + 1, mD_53, mB_54)))
            else
              some (.inr ((1, x2_16 + 1, mD_53, mB_54)))
        else
          (rd 12 mO x2_16).bind fun t55 =>
          (rd 12 mL x2_16).bind fun t56 =>
          if t55 ≤ t56 then
            some (.inr ((1, x2_16 + 1, mD_35, mB_36)))
          else
            (rd 12 mT x2_16).bind fun t57 =>
            (rd 12 mF x2_16).bind fun t58 =>
            (rd 12 mO x2_16).bind fun t59 =>
            (pX5_priceOf N mW mU x2_16 t59).bind fun r60 =>
            bnd3 (pX5_steps mD_35 mB_36 t57 t58 (-r60) ((2 * x2_16) + 1)) fun b61 mD_62 mB_63 =>
            if (b2i b61) = 0 then
              some (.inr ((1, x2_16 + 1, mD_62, mB_63)))
            else
              some (.inr ((1, x2_16 + 1, mD_62, mB_63)))
      else
        (rd 12 mO x2_16).bind fun t37 =>
        (rd 12 mL x2_16).bind fun t38 =>
        if t37 ≤ t38 then
          some (.inr ((1, x2_16 + 1, mD_35, mB_36)))
        else
          (rd 12 mT x2_16).bind fun t39 =>
          (rd 12 mF x2_16).bind fun t40 =>
          (rd 12 mO x2_16).bind fun t41 =>
          (pX5_priceOf N mW mU x2_16 t41).bind fun r42 =>
          bnd3 (pX5_steps mD_35 mB_36 t39 t40 (-r42) ((2 * x2_16) + 1)) fun b43 mD_44 mB_45 =>
          if (b2i b43) = 0 then
            some (.inr ((1, x2_16 + 1, mD_44, mB_45)))
          else
            some (.inr ((1, x2_16 + 1, mD_44, mB_45)))
def pX5_measure_l46 (N : Nat) (mAr : Int32) (mF : Nat → Int32) (mL : Nat → Int32) (mM : Nat → Int32) (mO : Nat → Int32) (mT : Nat → Int32) (mU : Nat → Int32) (mW : Nat → Int32) (x1_12 : Int32) (mD_13 : Nat → Int32) (mB_14 : Nat → Int32) : Option ((Int32 × (Nat → Int32) × (Nat → Int32)) ⊕ (Int32 × (Nat → Int32) × (Nat → Int32))) :=
  if x1_12 = 0 then
    some (.inl ((x1_12, mD_13, mB_14)))
  else
    bnd4 (lp (un4 (pX5_measure_l54 N mAr mF mL mM mO mT mU mW)) N ((0, 0, mD_13, mB_14))) fun x1_64 x2_65 mD_66 mB_67 =>
    some (.inr ((x1_64, mD_66, mB_67)))
def pX5_measure (N : Nat) (mNo : Int32) (mAr : Int32) (mF : Nat → Int32) (mT : Nat → Int32) (mW : Nat → Int32) (mU : Nat → Int32) (mL : Nat → Int32) (mM : Nat → Int32) (mO : Nat → Int32) (mR : Nat → Int32) (mD : Nat → Int32) (mB : Nat → Int32) : Option ((Nat → Int32) × (Nat → Int32)) :=
  bnd3 (lp (un3 (pX5_measure_l2 mNo mR)) N ((0, mD, mB))) fun x1_9 mD_10 mB_11 =>
  bnd3 (lp (un3 (pX5_measure_l46 N mAr mF mL mM mO mT mU mW)) N ((1, mD_10, mB_11))) fun x1_68 mD_69 mB_70 =>
  some ((mD_69, mB_70))
def pX5_send_l12 (mB : Nat → Int32) (mF : Nat → Int32) (mT : Nat → Int32) (x2_3 : Int32) (mO_4 : Nat → Int32) : Option ((Int32 × (Nat → Int32)) ⊕ (Int32 × (Nat → Int32))) :=
  (rd 8 mB x2_3).bind fun t5 =>
  if t5 = ((-1)) then
    some (.inl ((x2_3, mO_4)))
  else
    (rd 8 mB x2_3).bind fun t6 =>
    (rd 8 mB x2_3).bind fun t7 =>
    if (t7 - t7 / 2 * 2) = 1 then
      (rd 12 mO_4 (t6 / 2)).bind fun t11 =>
      (wr 12 mO_4 (t6 / 2) (t11 + ((-1)))).bind fun mO_12 =>
      (rd 12 mT (t6 / 2)).bind fun t13 =>
      some (.inr ((t13, mO_12)))
    else
      (rd 12 mO_4 (t6 / 2)).bind fun t8 =>
      (wr 12 mO_4 (t6 / 2) (t8 + 1)).bind fun mO_9 =>
      (rd 12 mF (t6 / 2)).bind fun t10 =>
      some (.inr ((t10, mO_9)))
def pX5_send (N : Nat) (mF : Nat → Int32) (mT : Nat → Int32) (mO : Nat → Int32) (mR : Nat → Int32) (mB : Nat → Int32) (p0 : Int32) : Option ((Nat → Int32) × (Nat → Int32)) :=
  (rd 8 mR p0).bind fun t1 =>
  (wr 8 mR p0 (t1 + 1)).bind fun mR_2 =>
  bnd2 (lp (un2 (pX5_send_l12 mB mF mT)) N ((p0, mO))) fun x2_14 mO_15 =>
  (rd 8 mR_2 x2_14).bind fun t16 =>
  (wr 8 mR_2 x2_14 (t16 - 1)).bind fun mR_17 =>
  some ((mO_15, mR_17))
def pX5_cheapest_l28 (mD_10 : Nat → Int32) (mNo : Int32) (mR_7 : Nat → Int32) (x5_12 : Int32) (x6_13 : Int32) (x7_14 : Int32) : Option ((Int32 × Int32 × Int32) ⊕ (Int32 × Int32 × Int32)) :=
  if mNo ≤ x7_14 then
    some (.inl ((x5_12, x6_13, x7_14)))
  else
    if x6_13 = 0 then
      (rd 8 mR_7 x7_14).bind fun t19 =>
      if t19 ≤ 0 then
        (rd 8 mR_7 x7_14).bind fun t20 =>
        if 0 ≤ t20 then
          some (.inr ((x5_12, 0, x7_14 + 1)))
        else
          (rd 8 mD_10 x7_14).bind fun t21 =>
          if 1000000 ≤ t21 then
            some (.inr ((x5_12, 0, x7_14 + 1)))
          else
            if x5_12 = ((-1)) then
              some (.inr ((x7_14, 0, x7_14 + 1)))
            else
              (rd 8 mD_10 x7_14).bind fun t22 =>
              (rd 8 mD_10 x5_12).bind fun t23 =>
              if t23 ≤ t22 then
                some (.inr ((x5_12, 0, x7_14 + 1)))
              else
                some (.inr ((x7_14, 0, x7_14 + 1)))
      else
        (rd 8 mR_7 x7_14).bind fun t24 =>
        if 0 ≤ t24 then
          some (.inr ((x5_12, 1, x7_14 + 1)))
        else
          (rd 8 mD_10 x7_14).bind fun t25 =>
          if 1000000 ≤ t25 then
            some (.inr ((x5_12, 1, x7_14 + 1)))
          else
            if x5_12 = ((-1)) then
              some (.inr ((x7_14, 1, x7_14 + 1)))
            else
              (rd 8 mD_10 x7_14).bind fun t26 =>
              (rd 8 mD_10 x5_12).bind fun t27 =>
              if t27 ≤ t26 then
                some (.inr ((x5_12, 1, x7_14 + 1)))
              else
                some (.inr ((x7_14, 1, x7_14 + 1)))
    else
      (rd 8 mR_7 x7_14).bind fun t15 =>
      if 0 ≤ t15 then
        some (.inr ((x5_12, 1, x7_14 + 1)))
      else
        (rd 8 mD_10 x7_14).bind fun t16 =>
        if 1000000 ≤ t16 then
          some (.inr ((x5_12, 1, x7_14 + 1)))
        else
          if x5_12 = ((-1)) then
            some (.inr ((x7_14, 1, x7_14 + 1)))
          else
            (rd 8 mD_10 x7_14).bind fun t17 =>
            (rd 8 mD_10 x5_12).bind fun t18 =>
            if t18 ≤ t17 then
              some (.inr ((x5_12, 1, x7_14 + 1)))
            else
              some (.inr ((x7_14, 1, x7_14 + 1)))
def pX5_cheapest_l10 (N : Nat) (mAr : Int32) (mF : Nat → Int32) (mL : Nat → Int32) (mM : Nat → Int32) (mNo : Int32) (mT : Nat → Int32) (mU : Nat → Int32) (mW : Nat → Int32) (x3_4 : Int32) (x4_5 : Int32) (mO_6 : Nat → Int32) (mR_7 : Nat → Int32) (mD_8 : Nat → Int32) (mB_9 : Nat → Int32) : Option (((Int32 × Int32 × (Nat → Int32) × (Nat → Int32) × (Nat → Int32) × (Nat → Int32)) ⊕ (Int32 × (Nat → Int32) × (Nat → Int32) × (Nat → Int32) × (Nat → Int32))) ⊕ (Int32 × Int32 × (Nat → Int32) × (Nat → Int32) × (Nat → Int32) × (Nat → Int32))) :=
  if x4_5 = 0 then
    some (.inl (.inl ((x3_4, x4_5, mO_6, mR_7, mD_8, mB_9))))
  else
    bnd2 (pX5_measure N mNo mAr mF mT mW mU mL mM mO_6 mR_7 mD_8 mB_9) fun mD_10 mB_11 =>
    bnd3 (lp (un3 (pX5_cheapest_l28 mD_10 mNo mR_7)) N (((-1), 0, 0))) fun x5_28 x6_29 x7_30 =>
    if x6_29 = 0 then
      if x5_28 = ((-1)) then
        some (.inr ((x3_4, 0, mO_6, mR_7, mD_10, mB_11)))
      else
        (rd 8 mD_10 x5_28).bind fun t31 =>
        bnd2 (pX5_send N mF mT mO_6 mR_7 mB_11 x5_28) fun mO_32 mR_33 =>
        some (.inr ((x3_4 + t31, 1, mO_32, mR_33, mD_10, mB_11)))
    else
      if x5_28 = ((-1)) then
        some (.inl (.inr ((1000000, mO_6, mR_7, mD_10, mB_11))))
      else
        if x5_28 = ((-1)) then
          some (.inr ((x3_4, 0, mO_6, mR_7, mD_10, mB_11)))
        else
          (rd 8 mD_10 x5_28).bind fun t34 =>
          bnd2 (pX5_send N mF mT mO_6 mR_7 mB_11 x5_28) fun mO_35 mR_36 =>
          some (.inr ((x3_4 + t34, 1, mO_35, mR_36, mD_10, mB_11)))
def pX5_cheapest (N : Nat) (mNo : Int32) (mAr : Int32) (mS : Int32) (mG : Int32) (mF : Nat → Int32) (mT : Nat → Int32) (mW : Nat → Int32) (mU : Nat → Int32) (mL : Nat → Int32) (mM : Nat → Int32) (mO : Nat → Int32) (mR : Nat → Int32) (mD : Nat → Int32) (mB : Nat → Int32) (p0 : Int32) (p1 : Int32) : Option (Int32 × (Nat → Int32) × (Nat → Int32) × (Nat → Int32) × (Nat → Int32)) :=
  bnd3 (pX5_begin N mNo mAr mS mG mF mT mW mU mL mO mR p0 p1) fun r1 mO_2 mR_3 =>
  (lp (un6 (pX5_cheapest_l10 N mAr mF mL mM mNo mT mU mW)) N ((r1, 1, mO_2, mR_3, mD, mB))).bind (sel (un6 fun x3_37 x4_38 mO_39 mR_40 mD_41 mB_42 =>
    some ((x3_37, mO_39, mR_40, mD_41, mB_42))))
def pX5_most_l11 (N : Nat) (mAr : Int32) (mF : Nat → Int32) (mG : Int32) (mL_1 : Nat → Int32) (mM_2 : Nat → Int32) (mNo : Int32) (mS : Int32) (mT : Nat → Int32) (mU : Nat → Int32) (mW : Nat → Int32) (x1_3 : Int32) (mO_4 : Nat → Int32) (mR_5 : Nat → Int32) (mD_6 : Nat → Int32) (mB_7 : Nat → Int32) : Option ((Int32 × (Nat → Int32) × (Nat → Int32) × (Nat → Int32) × (Nat → Int32)) ⊕ (Int32 × (Nat → Int32) × (Nat → Int32) × (Nat → Int32) × (Nat → Int32))) :=
  bnd5 (pX5_cheapest N mNo mAr mS mG mF mT mW mU mL_1 mM_2 mO_4 mR_5 mD_6 mB_7 (x1_3 + 1) ((-1))) fun r8 mO_9 mR_10 mD_11 mB_12 =>
  if 1000000 ≤ r8 then
    some (.inl ((x1_3, mO_9, mR_10, mD_11, mB_12)))
  else
    some (.inr ((x1_3 + 1, mO_9, mR_10, mD_11, mB_12)))
def pX5_most (N : Nat) (mNo : Int32) (mAr : Int32) (mS : Int32) (mG : Int32) (mF : Nat → Int32) (mT : Nat → Int32) (mW : Nat → Int32) (mU : Nat → Int32) (mP : Nat → Int32) (mL : Nat → Int32) (mM : Nat → Int32) (mO : Nat → Int32) (mR : Nat → Int32) (mD : Nat → Int32) (mB : Nat → Int32) : Option (Int32 × Int32 × (Nat → Int32) × (Nat → Int32) × (Nat → Int32) × (Nat → Int32) × (Nat → Int32) × (Nat → Int32)) :=
  bnd2 (pX5_open N mAr mW mP mL mM) fun mL_1 mM_2 =>
  bnd5 (lp (un5 (pX5_most_l11 N mAr mF mG mL_1 mM_2 mNo mS mT mU mW)) N ((0, mO, mR, mD, mB))) fun x1_13 mO_14 mR_15 mD_16 mB_17 =>
  some ((x1_13, 0, mL_1, mM_2, mO_14, mR_15, mD_16, mB_17))
def pX5_costOpen (N : Nat) (mNo : Int32) (mAr : Int32) (mS : Int32) (mG : Int32) (mQ : Int32) (mF : Nat → Int32) (mT : Nat → Int32) (mW : Nat → Int32) (mU : Nat → Int32) (mP : Nat → Int32) (mL : Nat → Int32) (mM : Nat → Int32) (mO : Nat → Int32) (mR : Nat → Int32) (mD : Nat → Int32) (mB : Nat → Int32) : Option (Int32 × (Nat → Int32) × (Nat → Int32) × (Nat → Int32) × (Nat → Int32) × (Nat → Int32) × (Nat → Int32)) :=
  bnd2 (pX5_open N mAr mW mP mL mM) fun mL_1 mM_2 =>
  bnd5 (pX5_cheapest N mNo mAr mS mG mF mT mW mU mL_1 mM_2 mO mR mD mB mQ ((-1))) fun r3 mO_4 mR_5 mD_6 mB_7 =>
  if 1000000 ≤ r3 then
    some (((-1), mL_1, mM_2, mO_4, mR_5, mD_6, mB_7))
  else
    some ((r3, mL_1, mM_2, mO_4, mR_5, mD_6, mB_7))
def pX5_cost (N : Nat) (mNo : Int32) (mAr : Int32) (mS : Int32) (mG : Int32) (mQ : Int32) (mF : Nat → Int32) (mT : Nat → Int32) (mW : Nat → Int32) (mU : Nat → Int32) (mP : Nat → Int32) (mL : Nat → Int32) (mM : Nat → Int32) (mO : Nat → Int32) (mR : Nat → Int32) (mD : Nat → Int32) (mB : Nat → Int32) : Option (Int32 × Int32 × (Nat → Int32) × (Nat → Int32) × (Nat → Int32) × (Nat → Int32) × (Nat → Int32) × (Nat → Int32)) :=
  bnd7 (pX5_costOpen N mNo mAr mS mG mQ mF mT mW mU mP mL mM mO mR mD mB) fun r1 mL_2 mM_3 mO_4 mR_5 mD_6 mB_7 =>
  some ((r1, 0, mL_2, mM_3, mO_4, mR_5, mD_6, mB_7))
def pX5_costByCircles (N : Nat) (mNo : Int32) (mAr : Int32) (mS : Int32) (mG : Int32) (mQ : Int32) (mF : Nat → Int32) (mT : Nat → Int32) (mW : Nat → Int32) (mU : Nat → Int32) (mP : Nat → Int32) (mL : Nat → Int32) (mM : Nat → Int32) (mO : Nat → Int32) (mR : Nat → Int32) (mD : Nat → Int32) (mB : Nat → Int32) : Option (Int32 × Int32 × (Nat → Int32) × (Nat → Int32) × (Nat → Int32) × (Nat → Int32) × (Nat → Int32) × (Nat → Int32)) :=
  bnd7 (pX5_costOpen N mNo mAr mS mG mQ mF mT mW mU mP mL mM mO mR mD mB) fun r1 mL_2 mM_3 mO_4 mR_5 mD_6 mB_7 =>
  some ((r1, 0, mL_2, mM_3, mO_4, mR_5, mD_6, mB_7))
def pX5_more (N : Nat) (mNo : Int32) (mAr : Int32) (mS : Int32) (mG : Int32) (mQ : Int32) (mF : Nat → Int32) (mT : Nat → Int32) (mW : Nat → Int32) (mU : Nat → Int32) (mP : Nat → Int32) (mL : Nat → Int32) (mM : Nat → Int32) (mO : Nat → Int32) (mR : Nat → Int32) (mD : Nat → Int32) (mB : Nat → Int32) (p0 : Int32) : Option (Int32 × Int32 × (Nat → Int32) × (Nat → Int32) × (Nat → Int32) × (Nat → Int32) × (Nat → Int32) × (Nat → Int32)) :=
  (pX5_isNode mNo p0).bind fun b1 =>
  if (b2i b1) = 0 then
    bnd2 (pX5_goesWell 1) fun b2 mTh_3 =>
    if (b2i b2) = 0 then
      some ((0, mTh_3, mL, mM, mO, mR, mD, mB))
    else
      bnd7 (pX5_costOpen N mNo mAr mS mG mQ mF mT mW mU mP mL mM mO mR mD mB) fun r4 mL_5 mM_6 mO_7 mR_8 mD_9 mB_10 =>
      if p0 = mS then
        if r4 = ((-1)) then
          some (((-1), mTh_3, mL_5, mM_6, mO_7, mR_8, mD_9, mB_10))
        else
          if r4 < 1000000 then
            some ((r4 - r4, mTh_3, mL_5, mM_6, mO_7, mR_8, mD_9, mB_10))
          else
            some (((-1), mTh_3, mL_5, mM_6, mO_7, mR_8, mD_9, mB_10))
      else
        bnd5 (pX5_cheapest N mNo mAr mS mG mF mT mW mU mL_5 mM_6 mO_7 mR_8 mD_9 mB_10 mQ p0) fun r11 mO_12 mR_13 mD_14 mB_15 =>
        if r4 = ((-1)) then
          some (((-1), mTh_3, mL_5, mM_6, mO_12, mR_13, mD_14, mB_15))
        else
          if r11 < 1000000 then
            some ((r11 - r4, mTh_3, mL_5, mM_6, mO_12, mR_13, mD_14, mB_15))
          else
            some (((-1), mTh_3, mL_5, mM_6, mO_12, mR_13, mD_14, mB_15))
  else
    bnd2 (pX5_goesWell 0) fun b16 mTh_17 =>
    if (b2i b16) = 0 then
      some ((0, mTh_17, mL, mM, mO, mR, mD, mB))
    else
      bnd7 (pX5_costOpen N mNo mAr mS mG mQ mF mT mW mU mP mL mM mO mR mD mB) fun r18 mL_19 mM_20 mO_21 mR_22 mD_23 mB_24 =>
      if p0 = mS then
        if r18 = ((-1)) then
          some (((-1), mTh_17, mL_19, mM_20, mO_21, mR_22, mD_23, mB_24))
        else
          if r18 < 1000000 then
            some ((r18 - r18, mTh_17, mL_19, mM_20, mO_21, mR_22, mD_23, mB_24))
          else
            some (((-1), mTh_17, mL_19, mM_20, mO_21, mR_22, mD_23, mB_24))
      else
        bnd5 (pX5_cheapest N mNo mAr mS mG mF mT mW mU mL_19 mM_20 mO_21 mR_22 mD_23 mB_24 mQ p0) fun r25 mO_26 mR_27 mD_28 mB_29 =>
        if r18 = ((-1)) then
          some (((-1), mTh_17, mL_19, mM_20, mO_26, mR_27, mD_28, mB_29))
        else
          if r25 < 1000000 then
            some ((r25 - r18, mTh_17, mL_19, mM_20, mO_26, mR_27, mD_28, mB_29))
          else
            some (((-1), mTh_17, mL_19, mM_20, mO_26, mR_27, mD_28, mB_29))
def pX5_fit_l6 (N : Nat) (mAr : Int32) (mF : Nat → Int32) (mG : Int32) (mNo : Int32) (mQ : Int32) (mS : Int32) (mT : Nat → Int32) (mU : Nat → Int32) (mW : Nat → Int32) (p0 : Int32) (p1 : Int32) (p3 : Int32) (x5_1 : Int32) (x6_2 : Int32) (mL_3 : Nat → Int32) (mM_4 : Nat → Int32) (mO_5 : Nat → Int32) (mR_6 : Nat → Int32) (mD_7 : Nat → Int32) (mB_8 : Nat → Int32) : Option ((Int32 × Int32 × (Nat → Int32) × (Nat → Int32) × (Nat → Int32) × (Nat → Int32) × (Nat → Int32) × (Nat → Int32)) ⊕ (Int32 × Int32 × (Nat → Int32) × (Nat → Int32) × (Nat → Int32) × (Nat → Int32) × (Nat → Int32) × (Nat → Int32))) :=
  if x6_2 = 0 then
    (rd 12 mL_3 p0).bind fun t9 =>
    (rd 12 mM_4 p0).bind fun t10 =>
    (wr 12 mL_3 p0 x5_1).bind fun mL_11 =>
    (wr 12 mM_4 p0 x5_1).bind fun mM_12 =>
    bnd5 (pX5_cheapest N mNo mAr mS mG mF mT mW mU mL_11 mM_12 mO_5 mR_6 mD_7 mB_8 mQ ((-1))) fun r13 mO_14 mR_15 mD_16 mB_17 =>
    if r13 = p1 then
      (wr 12 mL_11 p0 t9).bind fun mL_20 =>
      (wr 12 mM_12 p0 t10).bind fun mM_21 =>
      some (.inr ((x5_1 + p3, 1, mL_20, mM_21, mO_14, mR_15, mD_16, mB_17)))
    else
      (wr 12 mL_11 p0 t9).bind fun mL_18 =>
      (wr 12 mM_12 p0 t10).bind fun mM_19 =>
      some (.inr ((x5_1 + p3, 0, mL_18, mM_19, mO_14, mR_15, mD_16, mB_17)))
  else
    some (.inl ((x5_1, x6_2, mL_3, mM_4, mO_5, mR_6, mD_7, mB_8)))
def pX5_fit (N : Nat) (mNo : Int32) (mAr : Int32) (mS : Int32) (mG : Int32) (mQ : Int32) (mF : Nat → Int32) (mT : Nat → Int32) (mW : Nat → Int32) (mU : Nat → Int32) (mL : Nat → Int32) (mM : Nat → Int32) (mO : Nat → Int32) (mR : Nat → Int32) (mD : Nat → Int32) (mB : Nat → Int32) (p0 : Int32) (p1 : Int32) (p2 : Int32) (p3 : Int32) : Option (Int32 × (Nat → Int32) × (Nat → Int32) × (Nat → Int32) × (Nat → Int32) × (Nat → Int32) × (Nat → Int32)) :=
  bnd8 (lp (un8 (pX5_fit_l6 N mAr mF mG mNo mQ mS mT mU mW p0 p1 p3)) N ((p2, 0, mL, mM, mO, mR, mD, mB))) fun x5_22 x6_23 mL_24 mM_25 mO_26 mR_27 mD_28 mB_29 =>
  some ((x5_22 - p3, mL_24, mM_25, mO_26, mR_27, mD_28, mB_29))
def pX5_flow_l36 (N : Nat) (mAr : Int32) (mF : Nat → Int32) (mG : Int32) (mNo : Int32) (mQ : Int32) (mS : Int32) (mT : Nat → Int32) (mU : Nat → Int32) (mW : Nat → Int32) (p0 : Int32) (r4 : Int32) (x3_11 : Int32) (mL_12 : Nat → Int32) (mM_13 : Nat → Int32) (mO_14 : Nat → Int32) (mR_15 : Nat → Int32) (mD_16 : Nat → Int32) (mB_17 : Nat → Int32) : Option ((Int32 × (Nat → Int32) × (Nat → Int32) × (Nat → Int32) × (Nat → Int32) × (Nat → Int32) × (Nat → Int32)) ⊕ (Int32 × (Nat → Int32) × (Nat → Int32) × (Nat → Int32) × (Nat → Int32) × (Nat → Int32) × (Nat → Int32))) :=
  if p0 ≤ x3_11 then
    some (.inl ((x3_11, mL_12, mM_13, mO_14, mR_15, mD_16, mB_17)))
  else
    bnd7 (pX5_fit N mNo mAr mS mG mQ mF mT mW mU mL_12 mM_13 mO_14 mR_15 mD_16 mB_17 x3_11 r4 0 1) fun r18 mL_19 mM_20 mO_21 mR_22 mD_23 mB_24 =>
    (wr 12 mL_19 x3_11 r18).bind fun mL_25 =>
    (wr 12 mM_20 x3_11 r18).bind fun mM_26 =>
    some (.inr ((x3_11 + 1, mL_25, mM_26, mO_21, mR_22, mD_23, mB_24)))
def pX5_flow_l36' (N : Nat) (mAr : Int32) (mF : Nat → Int32) (mG : Int32) (mNo : Int32) (mQ : Int32) (mS : Int32) (mT : Nat → Int32) (mU : Nat → Int32) (mW : Nat → Int32) (p0 : Int32) (r43 : Int32) (x3_50 : Int32) (mL_51 : Nat → Int32) (mM_52 : Nat → Int32) (mO_53 : Nat → Int32) (mR_54 : Nat → Int32) (mD_55 : Nat → Int32) (mB_56 : Nat → Int32) : Option ((Int32 × (Nat → Int32) × (Nat → Int32) × (Nat → Int32) × (Nat → Int32) × (Nat → Int32) × (Nat → Int32)) ⊕ (Int32 × (Nat → Int32) × (Nat → Int32) × (Nat → Int32) × (Nat → Int32) × (Nat → Int32) × (Nat → Int32))) :=
  if p0 ≤ x3_50 then
    some (.inl ((x3_50, mL_51, mM_52, mO_53, mR_54, mD_55, mB_56)))
  else
    bnd7 (pX5_fit N mNo mAr mS mG mQ mF mT mW mU mL_51 mM_52 mO_53 mR_54 mD_55 mB_56 x3_50 r43 0 1) fun r57 mL_58 mM_59 mO_60 mR_61 mD_62 mB_63 =>
    (wr 12 mL_58 x3_50 r57).bind fun mL_64 =>
    (wr 12 mM_59 x3_50 r57).bind fun mM_65 =>
    some (.inr ((x3_50 + 1, mL_64, mM_65, mO_60, mR_61, mD_62, mB_63)))
def pX5_flow (N : Nat) (mNo : Int32) (mAr : Int32) (mS : Int32) (mG : Int32) (mQ : Int32) (mF : Nat → Int32) (mT : Nat → Int32) (mW : Nat → Int32) (mU : Nat → Int32) (mP : Nat → Int32) (mL : Nat → Int32) (mM : Nat → Int32) (mO : Nat → Int32) (mR : Nat → Int32) (mD : Nat → Int32) (mB : Nat → Int32) (p0 : Int32) : Option (Int32 × Int32 × (Nat → Int32) × (Nat → Int32) × (Nat → Int32) × (Nat → Int32) × (Nat → Int32) × (Nat → Int32)) :=
  (pX5_isArc mAr p0).bind fun b1 =>
  if (b2i b1) = 0 then
    bnd2 (pX5_goesWell 1) fun b2 mTh_3 =>
    if (b2i b2) = 0 then
      some ((0, mTh_3, mL, mM, mO, mR, mD, mB))
    else
      bnd7 (pX5_costOpen N mNo mAr mS mG mQ mF mT mW mU mP mL mM mO mR mD mB) fun r4 mL_5 mM_6 mO_7 mR_8 mD_9 mB_10 =>
      if r4 = ((-1)) then
        some (((-1), mTh_3, mL_5, mM_6, mO_7, mR_8, mD_9, mB_10))
      else
        bnd7 (lp (un7 (pX5_flow_l36 N mAr mF mG mNo mQ mS mT mU mW p0 r4)) N ((0, mL_5, mM_6, mO_7, mR_8, mD_9, mB_10))) fun x3_27 mL_28 mM_29 mO_30 mR_31 mD_32 mB_33 =>
        bnd7 (pX5_fit N mNo mAr mS mG mQ mF mT mW mU mL_28 mM_29 mO_30 mR_31 mD_32 mB_33 p0 r4 0 1) fun r34 mL_35 mM_36 mO_37 mR_38 mD_39 mB_40 =>
        some ((r34, mTh_3, mL_35, mM_36, mO_37, mR_38, mD_39, mB_40))
  else
    bnd2 (pX5_goesWell 0) fun b41 mTh_42 =>
    if (b2i b41) = 0 then
      some ((0, mTh_42, mL, mM, mO, mR, mD, mB))
    else
      bnd7 (pX5_costOpen N mNo mAr mS mG mQ mF mT mW mU mP mL mM mO mR mD mB) fun r43 mL_44 mM_45 mO_46 mR_47 mD_48 mB_49 =>
      if r43 = ((-1)) then
        some (((-1), mTh_42, mL_44, mM_45, mO_46, mR_47, mD_48, mB_49))
      else
        bnd7 (lp (un7 (pX5_flow_l36' N mAr mF mG mNo mQ mS mT mU mW p0 r43)) N ((0, mL_44, mM_45, mO_46, mR_47, mD_48, mB_49))) fun x3_66 mL_67 mM_68 mO_69 mR_70 mD_71 mB_72 =>
        bnd7 (pX5_fit N mNo mAr mS mG mQ mF mT mW mU mL_67 mM_68 mO_69 mR_70 mD_71 mB_72 p0 r43 0 1) fun r73 mL_74 mM_75 mO_76 mR_77 mD_78 mB_79 =>
        some ((r73, mTh_42, mL_74, mM_75, mO_76, mR_77, mD_78, mB_79))
def pX5_leastOn (N : Nat) (mNo : Int32) (mAr : Int32) (mS : Int32) (mG : Int32) (mQ : Int32) (mF : Nat → Int32) (mT : Nat → Int32) (mW : Nat → Int32) (mU : Nat → Int32) (mP : Nat → Int32) (mL : Nat → Int32) (mM : Nat → Int32) (mO : Nat → Int32) (mR : Nat → Int32) (mD : Nat → Int32) (mB : Nat → Int32) (p0 : Int32) : Option (Int32 × Int32 × (Nat → Int32) × (Nat → Int32) × (Nat → Int32) × (Nat → Int32) × (Nat → Int32) × (Nat → Int32)) :=
  (pX5_isArc mAr p0).bind fun b1 =>
  if (b2i b1) = 0 then
    bnd2 (pX5_goesWell 1) fun b2 mTh_3 =>
    if (b2i b2) = 0 then
      some ((0, mTh_3, mL, mM, mO, mR, mD, mB))
    else
      bnd7 (pX5_costOpen N mNo mAr mS mG mQ mF mT mW mU mP mL mM mO mR mD mB) fun r4 mL_5 mM_6 mO_7 mR_8 mD_9 mB_10 =>
      if r4 = ((-1)) then
        some (((-1), mTh_3, mL_5, mM_6, mO_7, mR_8, mD_9, mB_10))
      else
        bnd7 (pX5_fit N mNo mAr mS mG mQ mF mT mW mU mL_5 mM_6 mO_7 mR_8 mD_9 mB_10 p0 r4 0 1) fun r11 mL_12 mM_13 mO_14 mR_15 mD_16 mB_17 =>
        some ((r11, mTh_3, mL_12, mM_13, mO_14, mR_15, mD_16, mB_17))
  else
    bnd2 (pX5_goesWell 0) fun b18 mTh_19 =>
    if (b2i b18) = 0 then
      some ((0, mTh_19, mL, mM, mO, mR, mD, mB))
    else
      bnd7 (pX5_costOpen N mNo mAr mS mG mQ mF mT mW mU mP mL mM mO mR mD mB) fun r20 mL_21 mM_22 mO_23 mR_24 mD_25 mB_26 =>
      if r20 = ((-1)) then
        some (((-1), mTh_19, mL_21, mM_22, mO_23, mR_24, mD_25, mB_26))
      else
        bnd7 (pX5_fit N mNo mAr mS mG mQ mF mT mW mU mL_21 mM_22 mO_23 mR_24 mD_25 mB_26 p0 r20 0 1) fun r27 mL_28 mM_29 mO_30 mR_31 mD_32 mB_33 =>
        some ((r27, mTh_19, mL_28, mM_29, mO_30, mR_31, mD_32, mB_33))
def pX5_mostOn (N : Nat) (mNo : Int32) (mAr : Int32) (mS : Int32) (mG : Int32) (mQ : Int32) (mF : Nat → Int32) (mT : Nat → Int32) (mW : Nat → Int32) (mU : Nat → Int32) (mP : Nat → Int32) (mL : Nat → Int32) (mM : Nat → Int32) (mO : Nat → Int32) (mR : Nat → Int32) (mD : Nat → Int32) (mB : Nat → Int32) (p0 : Int32) : Option (Int32 × Int32 × (Nat → Int32) × (Nat → Int32) × (Nat → Int32) × (Nat → Int32) × (Nat → Int32) × (Nat → Int32)) :=
  (pX5_isArc mAr p0).bind fun b1 =>
  if (b2i b1) = 0 then
    bnd2 (pX5_goesWell 1) fun b2 mTh_3 =>
    if (b2i b2) = 0 then
      some ((0, mTh_3, mL, mM, mO, mR, mD, mB))
    else
      bnd7 (pX5_costOpen N mNo mAr mS mG mQ mF mT mW mU mP mL mM mO mR mD mB) fun r4 mL_5 mM_6 mO_7 mR_8 mD_9 mB_10 =>
      if r4 = ((-1)) then
        some (((-1), mTh_3, mL_5, mM_6, mO_7, mR_8, mD_9, mB_10))
      else
        (pX5_capacityOf N mW mP p0).bind fun r11 =>
        bnd7 (pX5_fit N mNo mAr mS mG mQ mF mT mW mU mL_5 mM_6 mO_7 mR_8 mD_9 mB_10 p0 r4 r11 ((-1))) fun r12 mL_13 mM_14 mO_15 mR_16 mD_17 mB_18 =>
        some ((r12, mTh_3, mL_13, mM_14, mO_15, mR_16, mD_17, mB_18))
  else
    bnd2 (pX5_goesWell 0) fun b19 mTh_20 =>
    if (b2i b19) = 0 then
      some ((0, mTh_20, mL, mM, mO, mR, mD, mB))
    else
      bnd7 (pX5_costOpen N mNo mAr mS mG mQ mF mT mW mU mP mL mM mO mR mD mB) fun r21 mL_22 mM_23 mO_24 mR_25 mD_26 mB_27 =>
      if r21 = ((-1)) then
        some (((-1), mTh_20, mL_22, mM_23, mO_24, mR_25, mD_26, mB_27))
      else
        (pX5_capacityOf N mW mP p0).bind fun r28 =>
        bnd7 (pX5_fit N mNo mAr mS mG mQ mF mT mW mU mL_22 mM_23 mO_24 mR_25 mD_26 mB_27 p0 r21 r28 ((-1))) fun r29 mL_30 mM_31 mO_32 mR_33 mD_34 mB_35 =>
        some ((r29, mTh_20, mL_30, mM_31, mO_32, mR_33, mD_34, mB_35))
def pX5_lookBack_l2 (mG : Int32) (mNo : Int32) (x1_1 : Int32) (mD_2 : Nat → Int32) : Option ((Int32 × (Nat → Int32)) ⊕ (Int32 × (Nat → Int32))) :=
  if mNo ≤ x1_1 then
    some (.inl ((x1_1, mD_2)))
  else
    if x1_1 = mG then
      (wr 8 mD_2 x1_1 0).bind fun mD_4 =>
      some (.inr ((x1_1 + 1, mD_4)))
    else
      (wr 8 mD_2 x1_1 1000000).bind fun mD_3 =>
      some (.inr ((x1_1 + 1, mD_3)))
def pX5_lookBack_l48 (N : Nat) (mAr : Int32) (mF : Nat → Int32) (mK : Nat → Int32) (mP : Nat → Int32) (mT : Nat → Int32) (mU : Nat → Int32) (mW : Nat → Int32) (x2_9 : Int32) (mD_10 : Nat → Int32) : Option ((Int32 × (Nat → Int32)) ⊕ (Int32 × (Nat → Int32))) :=
  if mAr ≤ x2_9 then
    some (.inl ((x2_9, mD_10)))
  else
    (rd 12 mK x2_9).bind fun t11 =>
    (pX5_capacityOf N mW mP x2_9).bind fun r12 =>
    if r12 ≤ t11 then
      some (.inr ((x2_9 + 1, mD_10)))
    else
      (rd 12 mT x2_9).bind fun t13 =>
      (rd 8 mD_10 t13).bind fun t14 =>
      (rd 12 mK x2_9).bind fun t15 =>
      (pX5_priceOf N mW mU x2_9 (t15 + 1)).bind fun r16 =>
      (rd 12 mF x2_9).bind fun t17 =>
      (rd 12 mF x2_9).bind fun t18 =>
      (rd 8 mD_10 t18).bind fun t19 =>
      if t19 ≤ ((t14 + (100 * r16)) + 1) then
        (rd 12 mF x2_9).bind fun t20 =>
        (rd 8 mD_10 t20).bind fun t21 =>
        (wr 8 mD_10 t17 t21).bind fun mD_22 =>
        some (.inr ((x2_9 + 1, mD_22)))
      else
        (wr 8 mD_10 t17 ((t14 + (100 * r16)) + 1)).bind fun mD_23 =>
        some (.inr ((x2_9 + 1, mD_23)))
def pX5_lookBack_l38 (N : Nat) (mAr : Int32) (mF : Nat → Int32) (mK : Nat → Int32) (mNo : Int32) (mP : Nat → Int32) (mT : Nat → Int32) (mU : Nat → Int32) (mW : Nat → Int32) (x1_7 : Int32) (mD_8 : Nat → Int32) : Option ((Int32 × (Nat → Int32)) ⊕ (Int32 × (Nat → Int32))) :=
  if mNo ≤ x1_7 then
    some (.inl ((x1_7, mD_8)))
  else
    bnd2 (lp (un2 (pX5_lookBack_l48 N mAr mF mK mP mT mU mW)) N ((0, mD_8))) fun x2_24 mD_25 =>
    some (.inr ((x1_7 + 1, mD_25)))
def pX5_lookBack (N : Nat) (mNo : Int32) (mAr : Int32) (mG : Int32) (mF : Nat → Int32) (mT : Nat → Int32) (mW : Nat → Int32) (mU : Nat → Int32) (mP : Nat → Int32) (mD : Nat → Int32) (mK : Nat → Int32) : Option ((Nat → Int32)) :=
  bnd2 (lp (un2 (pX5_lookBack_l2 mG mNo)) N ((0, mD))) fun x1_5 mD_6 =>
  bnd2 (lp (un2 (pX5_lookBack_l38 N mAr mF mK mNo mP mT mU mW)) N ((0, mD_6))) fun x1_26 mD_27 =>
  some mD_27
def pX5_isNext (N : Nat) (mF : Nat → Int32) (mT : Nat → Int32) (mW : Nat → Int32) (mU : Nat → Int32) (mP : Nat → Int32) (mD : Nat → Int32) (mK : Nat → Int32) (p0 : Int32) (p1 : Int32) : Option (Bool) :=
  (rd 12 mF p0).bind fun t1 =>
  if t1 = p1 then
    (rd 12 mK p0).bind fun t2 =>
    (pX5_capacityOf N mW mP p0).bind fun r3 =>
    if r3 ≤ t2 then
      some false
    else
      (rd 8 mD p1).bind fun t4 =>
      (rd 12 mT p0).bind fun t5 =>
      (rd 8 mD t5).bind fun t6 =>
      (rd 12 mK p0).bind fun t7 =>
      (pX5_priceOf N mW mU p0 (t7 + 1)).bind fun r8 =>
      if t4 = ((t6 + (100 * r8)) + 1) then
        some true
      else
        some false
  else
    some false
def pX5_takeWay_l15 (N : Nat) (mD : Nat → Int32) (mF : Nat → Int32) (mK_2 : Nat → Int32) (mP : Nat → Int32) (mT : Nat → Int32) (mU : Nat → Int32) (mW : Nat → Int32) (x1_1 : Int32) (x2_3 : Int32) : Option (Int32 ⊕ Int32) :=
  (pX5_isNext N mF mT mW mU mP mD mK_2 x2_3 x1_1).bind fun b4 =>
  if (b2i b4) = 0 then
    some (.inr (x2_3 + 1))
  else
    some (.inl x2_3)
def pX5_takeWay_l5 (N : Nat) (mD : Nat → Int32) (mF : Nat → Int32) (mG : Int32) (mP : Nat → Int32) (mT : Nat → Int32) (mU : Nat → Int32) (mW : Nat → Int32) (x1_1 : Int32) (mK_2 : Nat → Int32) : Option ((Int32 × (Nat → Int32)) ⊕ (Int32 × (Nat → Int32))) :=
  if x1_1 = mG then
    some (.inl ((x1_1, mK_2)))
  else
    (lp (pX5_takeWay_l15 N mD mF mK_2 mP mT mU mW x1_1) N 0).bind fun x2_5 =>
    (rd 12 mT x2_5).bind fun t6 =>
    (rd 12 mK_2 x2_5).bind fun t7 =>
    (wr 12 mK_2 x2_5 (t7 + 1)).bind fun mK_8 =>
    some (.inr ((t6, mK_8)))
def pX5_takeWay (N : Nat) (mS : Int32) (mG : Int32) (mF : Nat → Int32) (mT : Nat → Int32) (mW : Nat → Int32) (mU : Nat → Int32) (mP : Nat → Int32) (mD : Nat → Int32) (mK : Nat → Int32) : Option ((Nat → Int32)) :=
  bnd2 (lp (un2 (pX5_takeWay_l5 N mD mF mG mP mT mU mW)) N ((mS, mK))) fun x1_9 mK_10 =>
  some mK_10
def pX5_drive_l2 (mAr : Int32) (x1_1 : Int32) (mK_2 : Nat → Int32) : Option ((Int32 × (Nat → Int32)) ⊕ (Int32 × (Nat → Int32))) :=
  if mAr ≤ x1_1 then
    some (.inl ((x1_1, mK_2)))
  else
    (wr 12 mK_2 x1_1 0).bind fun mK_3 =>
    some (.inr ((x1_1 + 1, mK_3)))
def pX5_drive_l42 (N : Nat) (mAr : Int32) (mF : Nat → Int32) (mG : Int32) (mNo : Int32) (mP : Nat → Int32) (mQ : Int32) (mS : Int32) (mT : Nat → Int32) (mU : Nat → Int32) (mW : Nat → Int32) (mWa_7 : Int32) (mPa_8 : Int32) (mLa_9 : Int32) (mD_10 : Nat → Int32) (mK_11 : Nat → Int32) : Option ((Int32 × Int32 × Int32 × (Nat → Int32) × (Nat → Int32)) ⊕ (Int32 × Int32 × Int32 × (Nat → Int32) × (Nat → Int32))) :=
  if mQ ≤ mWa_7 then
    some (.inl ((mWa_7, mPa_8, mLa_9, mD_10, mK_11)))
  else
    (rd 8 mD_10 mS).bind fun t12 =>
    if 1000000 ≤ t12 then
      some (.inl ((mWa_7, mPa_8, mLa_9, mD_10, mK_11)))
    else
      (rd 8 mD_10 mS).bind fun t13 =>
      (pX5_takeWay N mS mG mF mT mW mU mP mD_10 mK_11).bind fun mK_14 =>
      (pX5_lookBack N mNo mAr mG mF mT mW mU mP mD_10 mK_14).bind fun mD_15 =>
      some (.inr ((mWa_7 + 1, mPa_8 + (t13 / 100), t13 / 100, mD_15, mK_14)))
def pX5_drive (N : Nat) (mNo : Int32) (mAr : Int32) (mS : Int32) (mG : Int32) (mQ : Int32) (mF : Nat → Int32) (mT : Nat → Int32) (mW : Nat → Int32) (mU : Nat → Int32) (mP : Nat → Int32) (mD : Nat → Int32) (mK : Nat → Int32) : Option (Int32 × Int32 × Int32 × (Nat → Int32) × (Nat → Int32)) :=
  bnd2 (lp (un2 (pX5_drive_l2 mAr)) N ((0, mK))) fun x1_4 mK_5 =>
  (pX5_lookBack N mNo mAr mG mF mT mW mU mP mD mK_5).bind fun mD_6 =>
  bnd5 (lp (un5 (pX5_drive_l42 N mAr mF mG mNo mP mQ mS mT mU mW)) N ((0, 0, (-1), mD_6, mK_5))) fun mWa_16 mPa_17 mLa_18 mD_19 mK_20 =>
  some ((mWa_16, mPa_17, mLa_18, mD_19, mK_20))
def pX5_driven (N : Nat) (mNo : Int32) (mAr : Int32) (mS : Int32) (mG : Int32) (mQ : Int32) (mF : Nat → Int32) (mT : Nat → Int32) (mW : Nat → Int32) (mU : Nat → Int32) (mP : Nat → Int32) (mD : Nat → Int32) (mK : Nat → Int32) : Option (Int32 × Int32 × Int32 × Int32 × Int32 × (Nat → Int32) × (Nat → Int32)) :=
  bnd5 (pX5_drive N mNo mAr mS mG mQ mF mT mW mU mP mD mK) fun mWa_1 mPa_2 mLa_3 mD_4 mK_5 =>
  if mQ ≤ mWa_1 then
    some ((mPa_2, 0, mWa_1, mPa_2, mLa_3, mD_4, mK_5))
  else
    some (((-1), 0, mWa_1, mPa_2, mLa_3, mD_4, mK_5))
def pX5_drivenOn (N : Nat) (mNo : Int32) (mAr : Int32) (mS : Int32) (mG : Int32) (mQ : Int32) (mWa : Int32) (mPa : Int32) (mLa : Int32) (mF : Nat → Int32) (mT : Nat → Int32) (mW : Nat → Int32) (mU : Nat → Int32) (mP : Nat → Int32) (mD : Nat → Int32) (mK : Nat → Int32) (p0 : Int32) : Option (Int32 × Int32 × Int32 × Int32 × Int32 × (Nat → Int32) × (Nat → Int32)) :=
  (pX5_isArc mAr p0).bind fun b1 =>
  if (b2i b1) = 0 then
    bnd2 (pX5_goesWell 1) fun b2 mTh_3 =>
    if (b2i b2) = 0 then
      some ((0, mTh_3, mWa, mPa, mLa, mD, mK))
    else
      bnd5 (pX5_drive N mNo mAr mS mG mQ mF mT mW mU mP mD mK) fun mWa_4 mPa_5 mLa_6 mD_7 mK_8 =>
      (rd 12 mK_8 p0).bind fun t9 =>
      some ((t9, mTh_3, mWa_4, mPa_5, mLa_6, mD_7, mK_8))
  else
    bnd2 (pX5_goesWell 0) fun b10 mTh_11 =>
    if (b2i b10) = 0 then
      some ((0, mTh_11, mWa, mPa, mLa, mD, mK))
    else
      bnd5 (pX5_drive N mNo mAr mS mG mQ mF mT mW mU mP mD mK) fun mWa_12 mPa_13 mLa_14 mD_15 mK_16 =>
      (rd 12 mK_16 p0).bind fun t17 =>
      some ((t17, mTh_11, mWa_12, mPa_13, mLa_14, mD_15, mK_16))
def pX5_lastPaid (N : Nat) (mNo : Int32) (mAr : Int32) (mS : Int32) (mG : Int32) (mQ : Int32) (mF : Nat → Int32) (mT : Nat → Int32) (mW : Nat → Int32) (mU : Nat → Int32) (mP : Nat → Int32) (mD : Nat → Int32) (mK : Nat → Int32) : Option (Int32 × Int32 × Int32 × Int32 × Int32 × (Nat → Int32) × (Nat → Int32)) :=
  bnd5 (pX5_drive N mNo mAr mS mG mQ mF mT mW mU mP mD mK) fun mWa_1 mPa_2 mLa_3 mD_4 mK_5 =>
  some ((mLa_3, 0, mWa_1, mPa_2, mLa_3, mD_4, mK_5))
