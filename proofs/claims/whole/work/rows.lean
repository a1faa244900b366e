section
-- ===== PART A: goes FIRST, ahead of the names: the tables' words, and 'selects' of the private methods out of them =====
/-- a private method of a class that the tables say can be made, by its rows of tables_1 -/
def lw_okq (q : MethodName × Nat) : Prop := (q.1.cls ≠ "java/lang/invoke/MethodHandle" ∧ q.1.cls ≠ "java/lang/invoke/VarHandle") ∧ Cond.instantiable q.1.cls q.2 ∈ tables_1 ∧ Cond.privateMethod q.1 ∈ tables_1 ∧ Cond.instanceMethod q.1 ∈ tables_1
theorem lw_p0 : lw_okq (⟨"ConvexConduit$CheapestFlow", "empty", "()V"⟩, 6) := ⟨⟨by decide +kernel, by decide +kernel⟩, List.mem_of_getElem? (i := 77) (by decide +kernel), List.mem_of_getElem? (i := 189) (by decide +kernel), List.mem_of_getElem? (i := 190) (by decide +kernel)⟩
theorem lw_p1 : lw_okq (⟨"ConvexConduit$CheapestFlow", "send", "(III)I"⟩, 6) := ⟨⟨by decide +kernel, by decide +kernel⟩, List.mem_of_getElem? (i := 77) (by decide +kernel), List.mem_of_getElem? (i := 193) (by decide +kernel), List.mem_of_getElem? (i := 194) (by decide +kernel)⟩
theorem lw_p2 : lw_okq (⟨"ConvexConduit$CheapestFlow", "spreadFrom", "(I)V"⟩, 6) := ⟨⟨by decide +kernel, by decide +kernel⟩, List.mem_of_getElem? (i := 77) (by decide +kernel), List.mem_of_getElem? (i := 197) (by decide +kernel), List.mem_of_getElem? (i := 198) (by decide +kernel)⟩
theorem lw_p3 : lw_okq (⟨"ConvexConduit$CheapestFlow", "widen", "(II)Z"⟩, 6) := ⟨⟨by decide +kernel, by decide +kernel⟩, List.mem_of_getElem? (i := 77) (by decide +kernel), List.mem_of_getElem? (i := 205) (by decide +kernel), List.mem_of_getElem? (i := 206) (by decide +kernel)⟩
theorem lw_p4 : lw_okq (⟨"ConvexConduit$CheapestFlow", "roomOf", "(I)I"⟩, 6) := ⟨⟨by decide +kernel, by decide +kernel⟩, List.mem_of_getElem? (i := 77) (by decide +kernel), List.mem_of_getElem? (i := 223) (by decide +kernel), List.mem_of_getElem? (i := 224) (by decide +kernel)⟩
theorem lw_p5 : lw_okq (⟨"ConvexConduit$CheapestFlow", "sendOnWay", "(III)I"⟩, 6) := ⟨⟨by decide +kernel, by decide +kernel⟩, List.mem_of_getElem? (i := 77) (by decide +kernel), List.mem_of_getElem? (i := 229) (by decide +kernel), List.mem_of_getElem? (i := 230) (by decide +kernel)⟩
theorem lw_p6 : lw_okq (⟨"ConvexConduit$CheapestFlow", "roomOnWay", "(II)I"⟩, 6) := ⟨⟨by decide +kernel, by decide +kernel⟩, List.mem_of_getElem? (i := 77) (by decide +kernel), List.mem_of_getElem? (i := 233) (by decide +kernel), List.mem_of_getElem? (i := 234) (by decide +kernel)⟩
theorem lw_p7 : lw_okq (⟨"ConvexConduit$CheapestFlow", "measureFrom", "(I)V"⟩, 6) := ⟨⟨by decide +kernel, by decide +kernel⟩, List.mem_of_getElem? (i := 77) (by decide +kernel), List.mem_of_getElem? (i := 247) (by decide +kernel), List.mem_of_getElem? (i := 248) (by decide +kernel)⟩
theorem lw_p8 : lw_okq (⟨"ConvexConduit$CheapestFlow", "measure", "()V"⟩, 6) := ⟨⟨by decide +kernel, by decide +kernel⟩, List.mem_of_getElem? (i := 77) (by decide +kernel), List.mem_of_getElem? (i := 251) (by decide +kernel), List.mem_of_getElem? (i := 252) (by decide +kernel)⟩
theorem lw_p9 : lw_okq (⟨"ConvexConduit$CheapestFlow", "shorten", "(I)Z"⟩, 6) := ⟨⟨by decide +kernel, by decide +kernel⟩, List.mem_of_getElem? (i := 77) (by decide +kernel), List.mem_of_getElem? (i := 255) (by decide +kernel), List.mem_of_getElem? (i := 256) (by decide +kernel)⟩
theorem lw_p10 : lw_okq (⟨"ConvexConduit$CheapestFlow", "priceOf", "(I)I"⟩, 6) := ⟨⟨by decide +kernel, by decide +kernel⟩, List.mem_of_getElem? (i := 77) (by decide +kernel), List.mem_of_getElem? (i := 259) (by decide +kernel), List.mem_of_getElem? (i := 260) (by decide +kernel)⟩
theorem lw_p11 : lw_okq (⟨"ConvexConduit$UnitCircles", "takeWay", "(II)Z"⟩, 4) := ⟨⟨by decide +kernel, by decide +kernel⟩, List.mem_of_getElem? (i := 102) (by decide +kernel), List.mem_of_getElem? (i := 280) (by decide +kernel), List.mem_of_getElem? (i := 281) (by decide +kernel)⟩
theorem lw_p12 : lw_okq (⟨"ConvexConduit$UnitCircles", "shortenAll", "(Z)I"⟩, 4) := ⟨⟨by decide +kernel, by decide +kernel⟩, List.mem_of_getElem? (i := 102) (by decide +kernel), List.mem_of_getElem? (i := 285) (by decide +kernel), List.mem_of_getElem? (i := 286) (by decide +kernel)⟩
theorem lw_p13 : lw_okq (⟨"ConvexConduit$UnitCircles", "turnBack", "(II)V"⟩, 4) := ⟨⟨by decide +kernel, by decide +kernel⟩, List.mem_of_getElem? (i := 102) (by decide +kernel), List.mem_of_getElem? (i := 290) (by decide +kernel), List.mem_of_getElem? (i := 291) (by decide +kernel)⟩
theorem lw_p14 : lw_okq (⟨"ConvexConduit$UnitCircles", "nodeBefore", "(I)I"⟩, 4) := ⟨⟨by decide +kernel, by decide +kernel⟩, List.mem_of_getElem? (i := 102) (by decide +kernel), List.mem_of_getElem? (i := 294) (by decide +kernel), List.mem_of_getElem? (i := 295) (by decide +kernel)⟩
theorem lw_p15 : lw_okq (⟨"ConvexConduit$UnitCircles", "takeOutCircles", "()V"⟩, 4) := ⟨⟨by decide +kernel, by decide +kernel⟩, List.mem_of_getElem? (i := 102) (by decide +kernel), List.mem_of_getElem? (i := 298) (by decide +kernel), List.mem_of_getElem? (i := 299) (by decide +kernel)⟩
def lw_privs_1 : List (MethodName × Nat) := [(⟨"ConvexConduit$CheapestFlow", "empty", "()V"⟩, 6), (⟨"ConvexConduit$CheapestFlow", "send", "(III)I"⟩, 6), (⟨"ConvexConduit$CheapestFlow", "spreadFrom", "(I)V"⟩, 6), (⟨"ConvexConduit$CheapestFlow", "widen", "(II)Z"⟩, 6), (⟨"ConvexConduit$CheapestFlow", "roomOf", "(I)I"⟩, 6), (⟨"ConvexConduit$CheapestFlow", "sendOnWay", "(III)I"⟩, 6), (⟨"ConvexConduit$CheapestFlow", "roomOnWay", "(II)I"⟩, 6), (⟨"ConvexConduit$CheapestFlow", "measureFrom", "(I)V"⟩, 6), (⟨"ConvexConduit$CheapestFlow", "measure", "()V"⟩, 6), (⟨"ConvexConduit$CheapestFlow", "shorten", "(I)Z"⟩, 6), (⟨"ConvexConduit$CheapestFlow", "priceOf", "(I)I"⟩, 6), (⟨"ConvexConduit$UnitCircles", "takeWay", "(II)Z"⟩, 4), (⟨"ConvexConduit$UnitCircles", "shortenAll", "(Z)I"⟩, 4), (⟨"ConvexConduit$UnitCircles", "turnBack", "(II)V"⟩, 4), (⟨"ConvexConduit$UnitCircles", "nodeBefore", "(I)I"⟩, 4), (⟨"ConvexConduit$UnitCircles", "takeOutCircles", "()V"⟩, 4)]
theorem lw_r1 : ∀ q ∈ lw_privs_1, lw_okq q := List.forall_mem_cons.mpr ⟨lw_p0, List.forall_mem_cons.mpr ⟨lw_p1, List.forall_mem_cons.mpr ⟨lw_p2, List.forall_mem_cons.mpr ⟨lw_p3, List.forall_mem_cons.mpr ⟨lw_p4, List.forall_mem_cons.mpr ⟨lw_p5, List.forall_mem_cons.mpr ⟨lw_p6, List.forall_mem_cons.mpr ⟨lw_p7, List.forall_mem_cons.mpr ⟨lw_p8, List.forall_mem_cons.mpr ⟨lw_p9, List.forall_mem_cons.mpr ⟨lw_p10, List.forall_mem_cons.mpr ⟨lw_p11, List.forall_mem_cons.mpr ⟨lw_p12, List.forall_mem_cons.mpr ⟨lw_p13, List.forall_mem_cons.mpr ⟨lw_p14, List.forall_mem_cons.mpr ⟨lw_p15, fun _ h => absurd h List.not_mem_nil⟩⟩⟩⟩⟩⟩⟩⟩⟩⟩⟩⟩⟩⟩⟩⟩
theorem lw_p16 : lw_okq (⟨"ConvexConduit$UnitCircles", "takeOutCircle", "()Z"⟩, 4) := ⟨⟨by decide +kernel, by decide +kernel⟩, List.mem_of_getElem? (i := 102) (by decide +kernel), List.mem_of_getElem? (i := 302) (by decide +kernel), List.mem_of_getElem? (i := 303) (by decide +kernel)⟩
theorem lw_p17 : lw_okq (⟨"ConvexConduit$UnitCircles", "priceOfTaken", "()I"⟩, 4) := ⟨⟨by decide +kernel, by decide +kernel⟩, List.mem_of_getElem? (i := 102) (by decide +kernel), List.mem_of_getElem? (i := 306) (by decide +kernel), List.mem_of_getElem? (i := 307) (by decide +kernel)⟩
theorem lw_p18 : lw_okq (⟨"ConvexConduit$Drivers", "weighWaysTo", "(I)V"⟩, 6) := ⟨⟨by decide +kernel, by decide +kernel⟩, List.mem_of_getElem? (i := 122) (by decide +kernel), List.mem_of_getElem? (i := 318) (by decide +kernel), List.mem_of_getElem? (i := 319) (by decide +kernel)⟩
theorem lw_p19 : lw_okq (⟨"ConvexConduit$Drivers", "weightBy", "(I)I"⟩, 6) := ⟨⟨by decide +kernel, by decide +kernel⟩, List.mem_of_getElem? (i := 122) (by decide +kernel), List.mem_of_getElem? (i := 323) (by decide +kernel), List.mem_of_getElem? (i := 324) (by decide +kernel)⟩
theorem lw_p20 : lw_okq (⟨"ConvexConduit$Drivers", "nextPrice", "(I)I"⟩, 6) := ⟨⟨by decide +kernel, by decide +kernel⟩, List.mem_of_getElem? (i := 122) (by decide +kernel), List.mem_of_getElem? (i := 327) (by decide +kernel), List.mem_of_getElem? (i := 328) (by decide +kernel)⟩
theorem lw_p21 : lw_okq (⟨"ConvexConduit$Drivers", "drive", "(II)I"⟩, 6) := ⟨⟨by decide +kernel, by decide +kernel⟩, List.mem_of_getElem? (i := 122) (by decide +kernel), List.mem_of_getElem? (i := 332) (by decide +kernel), List.mem_of_getElem? (i := 333) (by decide +kernel)⟩
theorem lw_p22 : lw_okq (⟨"ConvexConduit$Drivers", "bestArcFrom", "(I)I"⟩, 6) := ⟨⟨by decide +kernel, by decide +kernel⟩, List.mem_of_getElem? (i := 122) (by decide +kernel), List.mem_of_getElem? (i := 336) (by decide +kernel), List.mem_of_getElem? (i := 337) (by decide +kernel)⟩
theorem lw_p23 : lw_okq (⟨"ConvexConduit", "refuseOtherThanNode", "(I)V"⟩, 7) := ⟨⟨by decide +kernel, by decide +kernel⟩, List.mem_of_getElem? (i := 15) (by decide +kernel), List.mem_of_getElem? (i := 357) (by decide +kernel), List.mem_of_getElem? (i := 358) (by decide +kernel)⟩
theorem lw_p24 : lw_okq (⟨"java/lang/Throwable", "fillInStackTrace", "(I)Ljava/lang/Throwable;"⟩, 6) := ⟨⟨by decide +kernel, by decide +kernel⟩, List.mem_of_getElem? (i := 399) (by decide +kernel), List.mem_of_getElem? (i := 397) (by decide +kernel), List.mem_of_getElem? (i := 398) (by decide +kernel)⟩
theorem lw_p25 : lw_okq (⟨"ConvexConduit", "refuseOtherThanArc", "(I)V"⟩, 7) := ⟨⟨by decide +kernel, by decide +kernel⟩, List.mem_of_getElem? (i := 15) (by decide +kernel), List.mem_of_getElem? (i := 472) (by decide +kernel), List.mem_of_getElem? (i := 473) (by decide +kernel)⟩
theorem lw_p26 : lw_okq (⟨"ConvexConduit$CheapestFlow", "measureFromAll", "()V"⟩, 6) := ⟨⟨by decide +kernel, by decide +kernel⟩, List.mem_of_getElem? (i := 77) (by decide +kernel), List.mem_of_getElem? (i := 526) (by decide +kernel), List.mem_of_getElem? (i := 527) (by decide +kernel)⟩
theorem lw_p27 : lw_okq (⟨"ConvexConduit$CheapestFlow", "hold", "(I)V"⟩, 6) := ⟨⟨by decide +kernel, by decide +kernel⟩, List.mem_of_getElem? (i := 77) (by decide +kernel), List.mem_of_getElem? (i := 534) (by decide +kernel), List.mem_of_getElem? (i := 535) (by decide +kernel)⟩
theorem lw_p28 : lw_okq (⟨"ConvexConduitModel", "isNode", "(I)Z"⟩, 21) := ⟨⟨by decide +kernel, by decide +kernel⟩, List.mem_of_getElem? (i := 563) (by decide +kernel), List.mem_of_getElem? (i := 644) (by decide +kernel), List.mem_of_getElem? (i := 645) (by decide +kernel)⟩
theorem lw_p29 : lw_okq (⟨"ConvexConduitModel", "goesWell", "(I)Z"⟩, 21) := ⟨⟨by decide +kernel, by decide +kernel⟩, List.mem_of_getElem? (i := 563) (by decide +kernel), List.mem_of_getElem? (i := 648) (by decide +kernel), List.mem_of_getElem? (i := 649) (by decide +kernel)⟩
theorem lw_p30 : lw_okq (⟨"ConvexConduitModel", "put", "(III)V"⟩, 21) := ⟨⟨by decide +kernel, by decide +kernel⟩, List.mem_of_getElem? (i := 563) (by decide +kernel), List.mem_of_getElem? (i := 652) (by decide +kernel), List.mem_of_getElem? (i := 653) (by decide +kernel)⟩
theorem lw_p31 : lw_okq (⟨"ConvexConduitModel", "isArc", "(I)Z"⟩, 21) := ⟨⟨by decide +kernel, by decide +kernel⟩, List.mem_of_getElem? (i := 563) (by decide +kernel), List.mem_of_getElem? (i := 660) (by decide +kernel), List.mem_of_getElem? (i := 661) (by decide +kernel)⟩
def lw_privs_2 : List (MethodName × Nat) := [(⟨"ConvexConduit$UnitCircles", "takeOutCircle", "()Z"⟩, 4), (⟨"ConvexConduit$UnitCircles", "priceOfTaken", "()I"⟩, 4), (⟨"ConvexConduit$Drivers", "weighWaysTo", "(I)V"⟩, 6), (⟨"ConvexConduit$Drivers", "weightBy", "(I)I"⟩, 6), (⟨"ConvexConduit$Drivers", "nextPrice", "(I)I"⟩, 6), (⟨"ConvexConduit$Drivers", "drive", "(II)I"⟩, 6), (⟨"ConvexConduit$Drivers", "bestArcFrom", "(I)I"⟩, 6), (⟨"ConvexConduit", "refuseOtherThanNode", "(I)V"⟩, 7), (⟨"java/lang/Throwable", "fillInStackTrace", "(I)Ljava/lang/Throwable;"⟩, 6), (⟨"ConvexConduit", "refuseOtherThanArc", "(I)V"⟩, 7), (⟨"ConvexConduit$CheapestFlow", "measureFromAll", "()V"⟩, 6), (⟨"ConvexConduit$CheapestFlow", "hold", "(I)V"⟩, 6), (⟨"ConvexConduitModel", "isNode", "(I)Z"⟩, 21), (⟨"ConvexConduitModel", "goesWell", "(I)Z"⟩, 21), (⟨"ConvexConduitModel", "put", "(III)V"⟩, 21), (⟨"ConvexConduitModel", "isArc", "(I)Z"⟩, 21)]
theorem lw_r2 : ∀ q ∈ lw_privs_2, lw_okq q := List.forall_mem_cons.mpr ⟨lw_p16, List.forall_mem_cons.mpr ⟨lw_p17, List.forall_mem_cons.mpr ⟨lw_p18, List.forall_mem_cons.mpr ⟨lw_p19, List.forall_mem_cons.mpr ⟨lw_p20, List.forall_mem_cons.mpr ⟨lw_p21, List.forall_mem_cons.mpr ⟨lw_p22, List.forall_mem_cons.mpr ⟨lw_p23, List.forall_mem_cons.mpr ⟨lw_p24, List.forall_mem_cons.mpr ⟨lw_p25, List.forall_mem_cons.mpr ⟨lw_p26, List.forall_mem_cons.mpr ⟨lw_p27, List.forall_mem_cons.mpr ⟨lw_p28, List.forall_mem_cons.mpr ⟨lw_p29, List.forall_mem_cons.mpr ⟨lw_p30, List.forall_mem_cons.mpr ⟨lw_p31, fun _ h => absurd h List.not_mem_nil⟩⟩⟩⟩⟩⟩⟩⟩⟩⟩⟩⟩⟩⟩⟩⟩
theorem lw_p32 : lw_okq (⟨"ConvexConduitModel", "capacityOf", "(I)I"⟩, 21) := ⟨⟨by decide +kernel, by decide +kernel⟩, List.mem_of_getElem? (i := 563) (by decide +kernel), List.mem_of_getElem? (i := 664) (by decide +kernel), List.mem_of_getElem? (i := 665) (by decide +kernel)⟩
theorem lw_p33 : lw_okq (⟨"ConvexConduitModel", "priceOf", "(II)I"⟩, 21) := ⟨⟨by decide +kernel, by decide +kernel⟩, List.mem_of_getElem? (i := 563) (by decide +kernel), List.mem_of_getElem? (i := 688) (by decide +kernel), List.mem_of_getElem? (i := 689) (by decide +kernel)⟩
theorem lw_p34 : lw_okq (⟨"ConvexConduitModel", "open", "()V"⟩, 21) := ⟨⟨by decide +kernel, by decide +kernel⟩, List.mem_of_getElem? (i := 563) (by decide +kernel), List.mem_of_getElem? (i := 696) (by decide +kernel), List.mem_of_getElem? (i := 697) (by decide +kernel)⟩
theorem lw_p35 : lw_okq (⟨"ConvexConduitModel", "cheapest", "(II)I"⟩, 21) := ⟨⟨by decide +kernel, by decide +kernel⟩, List.mem_of_getElem? (i := 563) (by decide +kernel), List.mem_of_getElem? (i := 700) (by decide +kernel), List.mem_of_getElem? (i := 701) (by decide +kernel)⟩
theorem lw_p36 : lw_okq (⟨"ConvexConduitModel", "begin", "(II)I"⟩, 21) := ⟨⟨by decide +kernel, by decide +kernel⟩, List.mem_of_getElem? (i := 563) (by decide +kernel), List.mem_of_getElem? (i := 704) (by decide +kernel), List.mem_of_getElem? (i := 705) (by decide +kernel)⟩
theorem lw_p37 : lw_okq (⟨"ConvexConduitModel", "measure", "()V"⟩, 21) := ⟨⟨by decide +kernel, by decide +kernel⟩, List.mem_of_getElem? (i := 563) (by decide +kernel), List.mem_of_getElem? (i := 708) (by decide +kernel), List.mem_of_getElem? (i := 709) (by decide +kernel)⟩
theorem lw_p38 : lw_okq (⟨"ConvexConduitModel", "steps", "(IIII)Z"⟩, 21) := ⟨⟨by decide +kernel, by decide +kernel⟩, List.mem_of_getElem? (i := 563) (by decide +kernel), List.mem_of_getElem? (i := 713) (by decide +kernel), List.mem_of_getElem? (i := 714) (by decide +kernel)⟩
theorem lw_p39 : lw_okq (⟨"ConvexConduitModel", "send", "(I)V"⟩, 21) := ⟨⟨by decide +kernel, by decide +kernel⟩, List.mem_of_getElem? (i := 563) (by decide +kernel), List.mem_of_getElem? (i := 717) (by decide +kernel), List.mem_of_getElem? (i := 718) (by decide +kernel)⟩
theorem lw_p40 : lw_okq (⟨"ConvexConduitModel", "costOpen", "()I"⟩, 21) := ⟨⟨by decide +kernel, by decide +kernel⟩, List.mem_of_getElem? (i := 563) (by decide +kernel), List.mem_of_getElem? (i := 725) (by decide +kernel), List.mem_of_getElem? (i := 726) (by decide +kernel)⟩
theorem lw_p41 : lw_okq (⟨"ConvexConduitModel", "fit", "(IIII)I"⟩, 21) := ⟨⟨by decide +kernel, by decide +kernel⟩, List.mem_of_getElem? (i := 563) (by decide +kernel), List.mem_of_getElem? (i := 741) (by decide +kernel), List.mem_of_getElem? (i := 742) (by decide +kernel)⟩
theorem lw_p42 : lw_okq (⟨"ConvexConduitModel", "drive", "()V"⟩, 21) := ⟨⟨by decide +kernel, by decide +kernel⟩, List.mem_of_getElem? (i := 563) (by decide +kernel), List.mem_of_getElem? (i := 757) (by decide +kernel), List.mem_of_getElem? (i := 758) (by decide +kernel)⟩
theorem lw_p43 : lw_okq (⟨"ConvexConduitModel", "lookBack", "()V"⟩, 21) := ⟨⟨by decide +kernel, by decide +kernel⟩, List.mem_of_getElem? (i := 563) (by decide +kernel), List.mem_of_getElem? (i := 761) (by decide +kernel), List.mem_of_getElem? (i := 762) (by decide +kernel)⟩
theorem lw_p44 : lw_okq (⟨"ConvexConduitModel", "takeWay", "()V"⟩, 21) := ⟨⟨by decide +kernel, by decide +kernel⟩, List.mem_of_getElem? (i := 563) (by decide +kernel), List.mem_of_getElem? (i := 765) (by decide +kernel), List.mem_of_getElem? (i := 766) (by decide +kernel)⟩
theorem lw_p45 : lw_okq (⟨"ConvexConduitModel", "isNext", "(II)Z"⟩, 21) := ⟨⟨by decide +kernel, by decide +kernel⟩, List.mem_of_getElem? (i := 563) (by decide +kernel), List.mem_of_getElem? (i := 769) (by decide +kernel), List.mem_of_getElem? (i := 770) (by decide +kernel)⟩
def lw_privs_3 : List (MethodName × Nat) := [(⟨"ConvexConduitModel", "capacityOf", "(I)I"⟩, 21), (⟨"ConvexConduitModel", "priceOf", "(II)I"⟩, 21), (⟨"ConvexConduitModel", "open", "()V"⟩, 21), (⟨"ConvexConduitModel", "cheapest", "(II)I"⟩, 21), (⟨"ConvexConduitModel", "begin", "(II)I"⟩, 21), (⟨"ConvexConduitModel", "measure", "()V"⟩, 21), (⟨"ConvexConduitModel", "steps", "(IIII)Z"⟩, 21), (⟨"ConvexConduitModel", "send", "(I)V"⟩, 21), (⟨"ConvexConduitModel", "costOpen", "()I"⟩, 21), (⟨"ConvexConduitModel", "fit", "(IIII)I"⟩, 21), (⟨"ConvexConduitModel", "drive", "()V"⟩, 21), (⟨"ConvexConduitModel", "lookBack", "()V"⟩, 21), (⟨"ConvexConduitModel", "takeWay", "()V"⟩, 21), (⟨"ConvexConduitModel", "isNext", "(II)Z"⟩, 21)]
theorem lw_r3 : ∀ q ∈ lw_privs_3, lw_okq q := List.forall_mem_cons.mpr ⟨lw_p32, List.forall_mem_cons.mpr ⟨lw_p33, List.forall_mem_cons.mpr ⟨lw_p34, List.forall_mem_cons.mpr ⟨lw_p35, List.forall_mem_cons.mpr ⟨lw_p36, List.forall_mem_cons.mpr ⟨lw_p37, List.forall_mem_cons.mpr ⟨lw_p38, List.forall_mem_cons.mpr ⟨lw_p39, List.forall_mem_cons.mpr ⟨lw_p40, List.forall_mem_cons.mpr ⟨lw_p41, List.forall_mem_cons.mpr ⟨lw_p42, List.forall_mem_cons.mpr ⟨lw_p43, List.forall_mem_cons.mpr ⟨lw_p44, List.forall_mem_cons.mpr ⟨lw_p45, fun _ h => absurd h List.not_mem_nil⟩⟩⟩⟩⟩⟩⟩⟩⟩⟩⟩⟩⟩⟩
def lw_privs : List (MethodName × Nat) := lw_privs_1 ++ (lw_privs_2 ++ (lw_privs_3))
def lw_tbl : List Cond := k2_sels lw_privs ++ tables_1
theorem lw_privs_ok : ∀ q ∈ lw_privs, lw_okq q := by
  show ∀ q ∈ lw_privs_1 ++ (lw_privs_2 ++ (lw_privs_3)), lw_okq q
  exact List.forall_mem_append.mpr ⟨lw_r1, List.forall_mem_append.mpr ⟨lw_r2, lw_r3⟩⟩
end
section
/-! ===== BEGIN words of one list among another's, by their places ===== -/
theorem goodIn_r {big : List Cond} (ws : List Cond) (ps : List Nat) (hp : ws = ps.filterMap (fun i => big[i]?)) (h : ws.all goodWord = true) : GoodIn big ws := by
  intro w hw
  have h1 := List.all_eq_true.mp h w hw
  rw [hp] at hw
  obtain ⟨i, -, hi⟩ := List.mem_filterMap.mp hw
  have hm : w ∈ big := by first | exact List.mem_of_getElem? hi | exact List.getElem?_mem hi
  exact ⟨hm, good_of_word h1⟩
theorem goodIn_app {big a b : List Cond} (ha : GoodIn big a) (hb : GoodIn big b) : GoodIn big (a ++ b) := fun w h => (List.mem_append.mp h).elim (ha w) (hb w)
theorem goodIn_ca {big a b : List Cond} {c : Cond} (ha : GoodIn big (c :: a)) (hb : GoodIn big b) : GoodIn big (c :: (a ++ b)) := fun w h => (List.mem_cons.mp h).elim (fun e => ha w (List.mem_cons.mpr (Or.inl e))) (fun h => (List.mem_append.mp h).elim (fun h => ha w (List.mem_cons.mpr (Or.inr h))) (hb w))
theorem goodIn_sub {big ws : List Cond} (hm : ∀ w ∈ ws, w ∈ big) (h : ws.all goodWord = true) : GoodIn big ws := fun w hw => ⟨hm w hw, good_of_word (List.all_eq_true.mp h w hw)⟩
/-! ===== END ===== -/

/-! ===== BEGIN exceptions that leave a method, and their catching by the caller (launches without stack traces) ===== -/
section VXA
/-! The laws vx_back, vx_callV, vx_callS, vx_callSW, vx_throw0, vx_throwS follow proofs of the library, with one case more: JvmDerived/Free/Laws.lean (Back.of_free), Shelf42/LK1.lean (callV, callS), Shelf/KitTraced.lean (throwNew0V, throwNewS). -/
/-- where a method has thrown q: the class by its name, the cell, what was written, the world -/
def vx_T (XC : String → State → State → Prop) (st : State) (q : Addr) (t : State) (mc ms : Nat) (free : Addr → Prop) : Prop :=
  ∃ (E : String) (ce : Cell) (L : List Loc), XC E st t ∧ t.heap[q]? = some ce ∧ ce.vm = .none ∧ st.vm.findClass E = some ce.cls ∧ st.WarmedH t.vm ∧ st.sameButNew ({ t with vm := st.vm } : State) L mc ms ∧ ∀ z ∈ L, free z.base
def vx_Q (Qc : Array Value → State → Outcome → State → Prop) (XC : String → State → State → Prop) (mc ms : Nat) (free : Addr → Prop) : Array Value → State → Outcome → State → Prop := fun a st o t =>
  (Qc a st o t ∧ ∃ L, FrameEnd st o t L mc ms ∧ ∀ q ∈ L, free q.base) ∨ ∃ q, o = .threw q ∧ vx_T XC st q t mc ms free
/-- a callee that returns or throws -/
def vx_Met (l : Launch) (y : MethodName) (ws : List Cond) (rm : Room) (Pc : Array Value → State → Prop) (Qc : Array Value → State → Outcome → State → Prop) (XC : String → State → State → Prop) (mc ms : Nat) (free : Addr → Prop) : Prop :=
  MetFree l y (headSpec ws rm) Pc (fun _ _ _ _ _ => True) (vx_Q Qc XC mc ms free)
def vx_Post (XC : String → State → State → Prop) (mc ms : Nat) (free : Addr → Prop) : Pt → Array Value → Addr → Pt → Prop := fun A a q B =>
  ∃ (g : JFrame) (mk : MethodId) (t : State) (L : List Loc) (E : String) (ce : Cell), B.U.heap = t.heap ∧ B.U.vm = t.vm ∧ XC E (A.U.calling g mk a) t ∧ t.heap[q]? = some ce ∧ ce.vm = .none ∧ A.U.vm.findClass E = some ce.cls ∧ B.locs = A.locs ++ L ∧ (∀ z ∈ L, free z.base) ∧ B.cells = A.cells + mc ∧ B.slots = A.slots + ms
def vx_Back (l : Launch) (R : Room) (p : Program) (e : Env) (below : List Frame) (s : State) (sargs : Array Value) (y : MethodName) (len W9 : Nat)
    (Pre : Pt → Array Value → Prop) (Post : Pt → Array Value → Option Value → Pt → Prop) (PostX : Pt → Array Value → Addr → Pt → Prop) : Prop :=
  ∀ (m : MethodId) (meth : Method) (c : Code) (A : Pt) (g : JFrame) (ig : Instr) (mk : MethodId) (a : Array Value),
    Stand p l e R s m sargs below meth c A.U A.locs A.cells A.slots → g.method = m → g.locals.size = c.maxLocals → decode c.code g.pc = .ok (ig, len) →
    2 * g.monitorRoom + (g.stack.map fun v => v.category).sum ≤ W9 → A.U.methodNamed? y = some mk → Pre A a →
    (∃ (v : Option Value) (B : Pt), Stand p l e R s m sargs below meth c B.U B.locs B.cells B.slots ∧ Post A a v B ∧
      Steps p.tables e below (doInvoke e (A.U.setTop g) [] mk a).1 (B.U.setTop { g with pc := g.pc + len, stack := v.toList ++ g.stack })) ∨
    (∃ (q : Addr) (B : Pt), Stand p l e R s m sargs below meth c B.U B.locs B.cells B.slots ∧ PostX A a q B ∧
      Steps p.tables e below (doInvoke e (A.U.setTop g) [] mk a).1 ((B.U.setTop g).pushFrame (.throwing q)))
section Payer
variable {l : Launch} {R : Room} {p : Program} {e : Env} {below : List Frame} {s : State} {sargs : Array Value} {y : MethodName} {len W9 : Nat}
theorem vx_back {ws : List Cond} {rm : Room} {Pc : Array Value → State → Prop} {Qc : Array Value → State → Outcome → State → Prop} {XC : String → State → State → Prop} {mc ms : Nat} {free : Addr → Prop} {bytes : ByteArray} {maxL : Nat} {ret : Option FieldType}
    (hM : vx_Met l y ws rm Pc Qc XC mc ms free) (hblind : FrameBlind Pc) (hrc : rm.cells = mc) (hrs : rm.slots = ms)
    (hframes : rm.frames + 1 ≤ R.frames) (hlocals : W9 + (maxL + 11) + rm.locals ≤ R.locals)
    (hws : ∀ w ∈ ws, ∀ a' U, s.WarmedH U.vm → w.before a' U = true) (hcode : Cond.code y bytes maxL ret ∈ ws) (hinit : ∀ a' U, s.WarmedH U.vm → (Cond.initialized y.cls).before a' U = true) :
    vx_Back l R p e below s sargs y len W9 (PreOf R mc ms Pc) (PostOf Qc mc ms free) (vx_Post XC mc ms free) := by
  intro m meth c A g ig mk a X hg hsize hdg hW hn hp
  have h1 : (headSpec ws rm).pre.before a A.U = true := atoms_intro fun w hw => hws w hw _ _ X.warmed
  have h2 : (Cond.code y bytes maxL ret).before a A.U = true := hws _ hcode _ _ X.warmed
  have h3 : (Cond.initialized y.cls).before a A.U = true := hinit _ _ X.warmed
  have h4 : A.cells + (headSpec ws rm).room.cells ≤ R.cells := by rw [show (headSpec ws rm).room.cells = mc from hrc]; exact hp.1
  have h5 : A.slots + (headSpec ws rm).room.slots ≤ R.slots := by rw [show (headSpec ws rm).room.slots = ms from hrs]; exact hp.2.1
  have hPc : Pc a (A.U.calling g mk a) := hblind _ _ _ _ hp.2.2
  obtain ⟨U, Ls, c0, s0⟩ := A
  dsimp only [Pt.U, Pt.locs, Pt.cells, Pt.slots] at h1 h2 h3 h4 h5 X hn hPc ⊢
  obtain ⟨methY, cY, hmY, hcY, -, hlY, -, -, -, -⟩ := Cond.code_spec hn h2
  obtain ⟨kY, hkY, -⟩ := className_of_methodNamed hn
  have hinitY : kY.init = .initialized := Cond.initialized_spec (findClass_of_methodNamed hn) hkY h3
  have h : At U g.method c below := by rw [hg]; exact X.here
  have hlocals9 : W9 + (maxL + 11) + (headSpec ws rm).room.locals ≤ R.locals := hlocals
  have happ : (headSpec ws rm).appliesLoose y e.platform (U.calling g mk a) = true :=
    Spec.appliesLoose_calling (g := g) h hdg hn hkY hinitY
      (X.room_calling (g := g) (R' := (headSpec ws rm).room) hsize hmY hcY hframes (by rw [hlY]; omega) h4 h5) h1
  obtain ⟨mid, hmid⟩ := h.above
  have hfr : (U.setTop g).frames = (.java g :: mid) ++ below := by rw [State.frames_setTop' g h.top, hmid]; rfl
  obtain ⟨o, s₂, hsteps, -, hend, hq⟩ := Steps.callFree hM p X.admits X.cas X.clock (acts := []) hfr happ hPc trivial
  have hq' : vx_Q Qc XC mc ms free a (U.calling g mk a) o s₂ := hq
  rw [State.frames_setTop' g h.top] at hend
  obtain ⟨g₀, hg0⟩ := Option.isSome_iff_exists.mp h.top
  obtain ⟨r, hr⟩ := State.topJava?_eq_some.mp hg0
  have hr' : (({ U with heap := s₂.heap, slotsUsed := s₂.slotsUsed } : State).setVm s₂.vm).frames = .java g₀ :: r := hr
  rcases hq' with ⟨hqc, L, hfe, hL⟩ | ⟨q, rfl, E, ce, L, hx, hce, hcv, hcl, hW₂, hsm, hL⟩
  · obtain ⟨⟨v, rfl⟩, hW₂, e2, q2, q3, q4, q5, q6⟩ := id hfe
    have e3 : s₂ = ({ (U.calling g mk a).setFrames s₂.frames with heap := s₂.heap, slotsUsed := s₂.slotsUsed } : State).setVm s₂.vm := by
      have : s₂ = ({ s₂ with vm := (U.calling g mk a).vm } : State).setVm s₂.vm := rfl
      rw [e2] at this
      exact this
    obtain ⟨c₂, i₂, len₂, hc₂, hd₂, hf₂⟩ := hend
    have hW' : U.WarmedH s₂.vm := hW₂
    have hcc : c₂ = c := by
      have h1 : s₂.code? g.method = U.code? g.method := by
        rw [State.code?_eq, State.code?_eq, hW'.alike.method?]
      exact Option.some.inj (hc₂.symm.trans (h1.trans h.code))
    subst hcc
    have hlen : len₂ = len := by rw [hdg] at hd₂; cases hd₂; rfl
    subst hlen
    have hs₂ : s₂ = (({ U with heap := s₂.heap, slotsUsed := s₂.slotsUsed } : State).setVm s₂.vm).setTop { g with pc := g.pc + len₂, stack := v.toList ++ g.stack } := by
      refine e3.trans ?_
      rw [hf₂, State.calling_eq h.top, State.setFrames_setFrames, State.setTop_of_frames _ hr', hr]
      rfl
    have hsame : U.sameButNew ({ U with heap := s₂.heap, slotsUsed := s₂.slotsUsed } : State) L mc ms := by
      refine ⟨?_, q2, q3, q4, q5, q6⟩
      obtain ⟨t, ht, -⟩ := State.frames_cons hr
      show ({ U with heap := s₂.heap, slotsUsed := s₂.slotsUsed } : State) = { U.setFrames U.frames with heap := s₂.heap, slotsUsed := s₂.slotsUsed }
      rw [State.setFrames_self ht]
    subst hg
    refine Or.inl ⟨v, ⟨(({ U with heap := s₂.heap, slotsUsed := s₂.slotsUsed } : State).setVm s₂.vm), Ls ++ L, c0 + mc, s0 + ms⟩,
      ⟨X.admits, X.cas, X.clock, X.frames, X.room, X.hears, X.method, X.code, (X.here.setHeapUsed s₂.heap s₂.slotsUsed).setVm hW'.alike, X.tail, State.WarmedH.trans X.warmed hW', X.limits, X.bytes, X.same.trans (hsame.setVm s.vm)⟩,
      ⟨g, mk, s₂, L, rfl, rfl, hqc, rfl, hL, rfl, rfl⟩, ?_⟩
    show Steps p.tables e below _ ((({ U with heap := s₂.heap, slotsUsed := s₂.slotsUsed } : State).setVm s₂.vm).setTop { g with pc := g.pc + len₂, stack := v.toList ++ g.stack })
    rw [← hs₂]
    exact hsteps
  · obtain ⟨e2, q2, q3, q4, q5, q6⟩ := id hsm
    have e3 : s₂ = ({ (U.calling g mk a).setFrames s₂.frames with heap := s₂.heap, slotsUsed := s₂.slotsUsed } : State).setVm s₂.vm := by
      have : s₂ = ({ s₂ with vm := (U.calling g mk a).vm } : State).setVm s₂.vm := rfl
      rw [e2] at this
      exact this
    have hf₂ : s₂.frames = .throwing q :: .java g :: U.frames.tail := hend
    have hW' : U.WarmedH s₂.vm := hW₂
    have hs₂ : s₂ = ((({ U with heap := s₂.heap, slotsUsed := s₂.slotsUsed } : State).setVm s₂.vm).setTop g).pushFrame (.throwing q) := by
      refine e3.trans ?_
      rw [hf₂, State.calling_eq h.top, State.setFrames_setFrames, State.pushFrame, State.frames_setTop _ hr', State.setTop_of_frames _ hr', State.setFrames_setFrames, hr]
      rfl
    have hsame : U.sameButNew ({ U with heap := s₂.heap, slotsUsed := s₂.slotsUsed } : State) L mc ms := by
      refine ⟨?_, q2, q3, q4, q5, q6⟩
      obtain ⟨t, ht, -⟩ := State.frames_cons hr
      show ({ U with heap := s₂.heap, slotsUsed := s₂.slotsUsed } : State) = { U.setFrames U.frames with heap := s₂.heap, slotsUsed := s₂.slotsUsed }
      rw [State.setFrames_self ht]
    subst hg
    refine Or.inr ⟨q, ⟨(({ U with heap := s₂.heap, slotsUsed := s₂.slotsUsed } : State).setVm s₂.vm), Ls ++ L, c0 + mc, s0 + ms⟩,
      ⟨X.admits, X.cas, X.clock, X.frames, X.room, X.hears, X.method, X.code, (X.here.setHeapUsed s₂.heap s₂.slotsUsed).setVm hW'.alike, X.tail, State.WarmedH.trans X.warmed hW', X.limits, X.bytes, X.same.trans (hsame.setVm s.vm)⟩,
      ⟨g, mk, s₂, L, E, ce, rfl, rfl, hx, hce, hcv, hcl, rfl, hL, rfl, rfl⟩, ?_⟩
    show Steps p.tables e below _ (((({ U with heap := s₂.heap, slotsUsed := s₂.slotsUsed } : State).setVm s₂.vm).setTop g).pushFrame (.throwing q))
    rw [← hs₂]
    exact hsteps
end Payer
section Calls
variable {p : Program} {l : Launch} {e : Env} {R : Room} {s : State} {m : MethodId} {args : Array Value} {below : List Frame} {meth : Method} {c : Code} {T : State} {locs : List Loc} {cells slots : Nat}
theorem vx_callV (X : Stand p l e R s m args below meth c T locs cells slots) (hexec : p.tables.exec = Jvm.exec) {own C : String} {index : Nat} {y : MethodName} {bytes : ByteArray} {maxL : Nat} {ret : Option FieldType}
    (hown : s.vm.findClass own = some m.cls) (hlink : (Cond.methodLink own index y).before args s = true) (hinst : (Cond.instanceMethod y).before args s = true) (hsel : (Cond.selects C y y).before args s = true)
    (hcode : (Cond.code y bytes maxL ret).before args s = true) (hy : y.cls ≠ "java/lang/invoke/MethodHandle" ∧ y.cls ≠ "java/lang/invoke/VarHandle")
    {W9 : Nat} {Pre : Pt → Array Value → Prop} {Post : Pt → Array Value → Option Value → Pt → Prop} {PostX : Pt → Array Value → Addr → Pt → Prop} (hK : vx_Back l R p e below s args y 3 W9 Pre Post PostX)
    {b : Addr} {cellB : Cell} (hcell : T.heap[b]? = some cellB) (hobj : cellB.vm.isStatics = false) (hcls : s.vm.findClass C = some cellB.cls)
    {g : JFrame} (hg : g.method = m) (hsize : g.locals.size = c.maxLocals) {argsL rest : List Value} (hlen : ∀ sig, parseMethodDescriptor y.desc = some sig → argsL.length = sig.parameters.length)
    (hstack : g.stack = argsL.reverse ++ .ref b :: rest) (hW : 2 * g.monitorRoom + (rest.map fun v => v.category).sum ≤ W9) (hdg : decode c.code g.pc = .ok (.invokevirtual index, 3))
    (hpre : ∀ vm₁, s.WarmedH vm₁ → Pre ⟨T.setVm vm₁, locs, cells, slots⟩ (Value.ref b :: argsL).toArray) :
    (∃ (v : Option Value) (vm₁ : Vm) (B : Pt), s.WarmedH vm₁ ∧ Stand p l e R s m args below meth c B.U B.locs B.cells B.slots ∧ Post ⟨T.setVm vm₁, locs, cells, slots⟩ (Value.ref b :: argsL).toArray v B ∧
      ∀ target, Steps p.tables e below (B.U.setTop { g with pc := g.pc + 3, stack := v.toList ++ rest }) target → Steps p.tables e below (T.setTop g) target) ∨
    (∃ (q : Addr) (vm₁ : Vm) (B : Pt), s.WarmedH vm₁ ∧ Stand p l e R s m args below meth c B.U B.locs B.cells B.slots ∧ PostX ⟨T.setVm vm₁, locs, cells, slots⟩ (Value.ref b :: argsL).toArray q B ∧
      Steps p.tables e below (T.setTop g) ((B.U.setTop { g with stack := rest }).pushFrame (.throwing q))) := by
  obtain ⟨mk, methM, hnamed, hmethM, hstM, habM⟩ := Cond.instanceMethod_spec hinst
  obtain ⟨methM', cM, hmethM', -, -, -, -, -, -, hsigM⟩ := Cond.code_spec hnamed hcode
  cases hmethM.symm.trans hmethM'
  obtain ⟨c2, r2, m2, q1, q2, q3, q4, kP, hkP, hkPi⟩ := Cond.selects_spec hsel
  cases hcls.symm.trans q1
  cases (State.methodFound?_of_named hnamed hy).symm.trans q2
  cases hnamed.symm.trans q3
  have hselP : selectMethod e.platform s.vm cellB.cls mk = .method mk := by rw [Launch.admits_selectMethod X.admits]; exact q4
  obtain ⟨vm₁, X₁, hstep₁⟩ := X.invokevirtual hexec hown hlink hnamed hmethM hstM hkP hkPi hy (a := b) (cell := cellB) hcell
    (fun z h => by rw [h] at hobj; cases hobj) hselP hmethM habM hkP hkPi (g := g) hg (argsL := argsL) (rest := rest) (hlen _ hsigM) hstack hdg
  rcases hK m meth c ⟨T.setVm vm₁, locs, cells, slots⟩ { g with stack := rest } (.invokevirtual index) mk (Value.ref b :: argsL).toArray X₁ hg hsize hdg hW (X₁.named hnamed) (hpre vm₁ X₁.warmed) with ⟨v, B, X', hpost, hsteps⟩ | ⟨q, B, X', hpost, hsteps⟩
  · exact Or.inl ⟨v, vm₁, B, X₁.warmed, X', hpost, fun target h => hstep₁ _ fun acts => by rw [doInvoke_state]; exact hsteps.trans h⟩
  · exact Or.inr ⟨q, vm₁, B, X₁.warmed, X', hpost, hstep₁ _ fun acts => by rw [doInvoke_state]; exact hsteps⟩
theorem vx_callS (X : Stand p l e R s m args below meth c T locs cells slots) (hexec : p.tables.exec = Jvm.exec) {own : String} {index : Nat} {y : MethodName} {bytes : ByteArray} {maxL : Nat} {ret : Option FieldType}
    (hown : s.vm.findClass own = some m.cls) (hlink : (Cond.methodLink own index y).before args s = true) (hstat : (Cond.static y).before args s = true) (hinit : (Cond.initialized y.cls).before args s = true)
    (hcode : (Cond.code y bytes maxL ret).before args s = true) (hy : y.cls ≠ "java/lang/invoke/MethodHandle" ∧ y.cls ≠ "java/lang/invoke/VarHandle")
    {W9 : Nat} {Pre : Pt → Array Value → Prop} {Post : Pt → Array Value → Option Value → Pt → Prop} {PostX : Pt → Array Value → Addr → Pt → Prop} (hK : vx_Back l R p e below s args y 3 W9 Pre Post PostX)
    {g : JFrame} (hg : g.method = m) (hsize : g.locals.size = c.maxLocals) {argsL rest : List Value} (hlen : ∀ sig, parseMethodDescriptor y.desc = some sig → argsL.length = sig.parameters.length)
    (hstack : g.stack = argsL.reverse ++ rest) (hW : 2 * g.monitorRoom + (rest.map fun v => v.category).sum ≤ W9) (hdg : decode c.code g.pc = .ok (.invokestatic index, 3))
    (hpre : ∀ vm₁, s.WarmedH vm₁ → Pre ⟨T.setVm vm₁, locs, cells, slots⟩ argsL.toArray) :
    (∃ (v : Option Value) (vm₁ : Vm) (B : Pt), s.WarmedH vm₁ ∧ Stand p l e R s m args below meth c B.U B.locs B.cells B.slots ∧ Post ⟨T.setVm vm₁, locs, cells, slots⟩ argsL.toArray v B ∧
      ∀ target, Steps p.tables e below (B.U.setTop { g with pc := g.pc + 3, stack := v.toList ++ rest }) target → Steps p.tables e below (T.setTop g) target) ∨
    (∃ (q : Addr) (vm₁ : Vm) (B : Pt), s.WarmedH vm₁ ∧ Stand p l e R s m args below meth c B.U B.locs B.cells B.slots ∧ PostX ⟨T.setVm vm₁, locs, cells, slots⟩ argsL.toArray q B ∧
      Steps p.tables e below (T.setTop g) ((B.U.setTop { g with stack := rest }).pushFrame (.throwing q))) := by
  obtain ⟨mk, hnamed⟩ := Cond.code_named hcode
  obtain ⟨methM, cM, hmethM, -, -, -, -, -, -, hsigM⟩ := Cond.code_spec hnamed hcode
  have hstatic : methM.isStatic = true := Cond.static_spec hnamed hmethM hstat
  obtain ⟨kP, hkP, -⟩ := className_of_methodNamed hnamed
  have hinitP : kP.init = .initialized := Cond.initialized_spec (findClass_of_methodNamed hnamed) hkP hinit
  obtain ⟨vm₁, X₁, hstep₁⟩ := X.invokestatic hexec hown hlink hnamed hmethM hstatic hkP hinitP hy (g := g) hg (argsL := argsL) (rest := rest) (hlen _ hsigM) hstack hdg
  rcases hK m meth c ⟨T.setVm vm₁, locs, cells, slots⟩ { g with stack := rest } (.invokestatic index) mk argsL.toArray X₁ hg hsize hdg hW (X₁.named hnamed) (hpre vm₁ X₁.warmed) with ⟨v, B, X', hpost, hsteps⟩ | ⟨q, B, X', hpost, hsteps⟩
  · exact Or.inl ⟨v, vm₁, B, X₁.warmed, X', hpost, fun target h => hstep₁ _ fun acts => by rw [doInvoke_state]; exact hsteps.trans h⟩
  · exact Or.inr ⟨q, vm₁, B, X₁.warmed, X', hpost, hstep₁ _ fun acts => by rw [doInvoke_state]; exact hsteps⟩
end Calls
theorem vx_cls {s : State} {T : State} {vm₁ : Vm} {E : String} {k : ClassId} (hW : s.WarmedH vm₁) (h : (T.setVm vm₁).vm.findClass E = some k) : s.vm.findClass E = some k := by
  have h1 : vm₁.findClass E = some k := h
  rw [hW.alike.findClass] at h1
  exact h1
/-- the method's frame g, with q thrown over it -/
def vx_W (p : Program) (l : Launch) (e : Env) (R : Room) (s : State) (m : MethodId) (args : Array Value) (below : List Frame) (meth : Method) (c : Code) (H : Heap) (locs : List Loc) (cells slots : Nat) (Q : State → Prop) (g : JFrame) (q : Addr) : Prop :=
  ∀ T : State, T.heap = H → Stand p l e R s m args below meth c T locs cells slots → ∃ t, Steps p.tables e below ((T.setTop g).pushFrame (.throwing q)) t ∧ Q t
def vx_Run (p : Program) (l : Launch) (e : Env) (R : Room) (s : State) (m : MethodId) (args : Array Value) (below : List Frame) (meth : Method) (c : Code) (H : Heap) (locs : List Loc) (cells slots mc ms : Nat) (g : JFrame) (rest : List Value) (Qa : State → Outcome → State → Prop) (XC : String → State → State → Prop) (free : Addr → Prop) : Prop :=
  ∀ T : State, T.heap = H → Stand p l e R s m args below meth c T locs cells slots →
    (∃ (v : Option Value) (st₀ t T' : State) (L : List Loc), st₀.heap = H ∧ Stand p l e R s m args below meth c T' (locs ++ L) (cells + mc) (slots + ms) ∧ (∀ q ∈ L, free q.base) ∧ T'.heap = t.heap ∧ T'.vm = t.vm ∧ Qa st₀ (.returned v) t ∧
      Goes p e below T g T' { g with pc := g.pc + 3, stack := v.toList ++ rest }) ∨
    (∃ (q : Addr) (st₀ t T' : State) (L : List Loc) (E : String) (ce : Cell), st₀.heap = H ∧ Stand p l e R s m args below meth c T' (locs ++ L) (cells + mc) (slots + ms) ∧ (∀ z ∈ L, free z.base) ∧ T'.heap = t.heap ∧ T'.vm = t.vm ∧ XC E st₀ t ∧ t.heap[q]? = some ce ∧ ce.vm = .none ∧ s.vm.findClass E = some ce.cls ∧
      Steps p.tables e below (T.setTop g) ((T'.setTop { g with stack := rest }).pushFrame (.throwing q)))
def vx_X {S : Type} (px : S → Prop) (B : String → S → State → Prop) (A : Nat → Prop) : String → State → State → Prop := fun E st t => ∃ u : S, px u ∧ B E u t ∧ va_F A st t
section Runs
variable {p : Program} {l : Launch} {e : Env} {R : Room} {s : State} {m : MethodId} {args : Array Value} {below : List Frame} {meth : Method} {c : Code} {H : Heap} {locs : List Loc} {cells slots : Nat}
variable {y : MethodName} {bytes cc : ByteArray} {maxL nL mc ms n index : Nat} {ret : Option FieldType} {ws : List Cond} {rm : Room} {Pc : Array Value → State → Prop} {Qc : Array Value → State → Outcome → State → Prop} {XC : String → State → State → Prop} {free : Addr → Prop} {Ts : List Cond} {own C : String} {b : Addr} {As rest : List Value} {g : JFrame}
theorem vx_callBack (cb : CallB R s args own index y bytes maxL ret ws rm mc ms n) (hM : vx_Met l y ws rm Pc Qc XC mc ms free) (hbl : FrameBlind Pc) : vx_Back l R p e below s args y 3 8 (PreOf R mc ms Pc) (PostOf Qc mc ms free) (vx_Post XC mc ms free) := by
  obtain ⟨hrc, hrs, hfr, hlo, hws, hcw, -, hini, -⟩ := cb
  exact vx_back (bytes := bytes) (maxL := maxL) (ret := ret) hM hbl hrc hrs hfr hlo hws hcw (fun a' U hW => word_at hW (Or.inl (by first | rfl | simp [Cond.onTables, Cond.keeps, Cond.steady])) hini)
theorem vx_runV (S : CallFix p m c cc nL s args Ts own) (hM : vx_Met l y ws rm Pc Qc XC mc ms free) (cw : CallW R s args own C index y bytes maxL ret ws rm mc ms n) (hp : PreV s H C b Pc As)
    (hg : g.method = m) (hn : As.length = n) (hsize : g.locals.size = nL) (hstack : g.stack = As.reverse ++ .ref b :: rest) (hW : 2 * g.monitorRoom + (rest.map fun v => v.category).sum ≤ 8) (hdg : decode cc g.pc = .ok (.invokevirtual index, 3)) (hf : cells + mc ≤ R.cells ∧ slots + ms ≤ R.slots) :
    vx_Run p l e R s m args below meth c H locs cells slots mc ms g rest (Qc (Value.ref b :: As).toArray) XC free := by
  have hK : vx_Back l R p e below s args y 3 8 (PreOf R mc ms Pc) (PostOf Qc mc ms free) (vx_Post XC mc ms free) := vx_callBack cw.1 hM hp.1
  obtain ⟨⟨-, -, -, -, -, -, hcode, -, hy, hlen, hl⟩, hin, hse⟩ := cw
  obtain ⟨hx, hb, hml, ho, -⟩ := S
  obtain ⟨-, ⟨cellB, hcB, hoB, hclB⟩, hPc⟩ := hp
  intro T hT X
  rcases vx_callV X hx (C := C) (bytes := bytes) (maxL := maxL) (ret := ret) ho hl hin hse hcode hy hK (by rw [hT]; exact hcB) hoB hclB hg (hsize.trans hml.symm) (argsL := As) (rest := rest) (fun sig h => hn.trans (hlen sig h)) hstack hW (by rw [hb]; exact hdg)
    (fun vm₁ hW₁ => ⟨hf.1, hf.2, hPc (T.setVm vm₁) hT hW₁⟩) with ⟨v, vm₁, ⟨U', l2, c2, s2⟩, hW₁, X', ⟨g', mk, t, L, e1, e2, hq, h1, hL, h2, h3⟩, st⟩ | ⟨q, vm₁, ⟨U', l2, c2, s2⟩, hW₁, X', ⟨g', mk, t, L, E, ce, e1, e2, hq, hce, hcv, hcl, h1, hL, h2, h3⟩, st⟩
  · dsimp only [Pt.U, Pt.locs, Pt.cells, Pt.slots] at X' e1 e2 h1 h2 h3 st
    subst h1; subst h2; subst h3
    exact Or.inl ⟨v, (T.setVm vm₁).calling g' mk (Value.ref b :: As).toArray, t, U', L, hT, X', hL, e1, e2, hq, st⟩
  · dsimp only [Pt.U, Pt.locs, Pt.cells, Pt.slots] at X' e1 e2 h1 h2 h3 st hcl
    subst h1; subst h2; subst h3
    exact Or.inr ⟨q, (T.setVm vm₁).calling g' mk (Value.ref b :: As).toArray, t, U', L, E, ce, hT, X', hL, e1, e2, hq, hce, hcv, vx_cls hW₁ hcl, st⟩
theorem vx_runS (S : CallFix p m c cc nL s args Ts own) (hM : vx_Met l y ws rm Pc Qc XC mc ms free) (cw : CallB R s args own index y bytes maxL ret ws rm mc ms n ∧ (Cond.static y).before args s = true) (hp : PreS s H Pc As)
    (hg : g.method = m) (hn : As.length = n) (hsize : g.locals.size = nL) (hstack : g.stack = As.reverse ++ rest) (hW : 2 * g.monitorRoom + (rest.map fun v => v.category).sum ≤ 8) (hdg : decode cc g.pc = .ok (.invokestatic index, 3)) (hf : cells + mc ≤ R.cells ∧ slots + ms ≤ R.slots) :
    vx_Run p l e R s m args below meth c H locs cells slots mc ms g rest (Qc As.toArray) XC free := by
  have hK : vx_Back l R p e below s args y 3 8 (PreOf R mc ms Pc) (PostOf Qc mc ms free) (vx_Post XC mc ms free) := vx_callBack cw.1 hM hp.1
  obtain ⟨⟨-, -, -, -, -, -, hcode, hini, hy, hlen, hl⟩, hstt⟩ := cw
  obtain ⟨hx, hb, hml, ho, -⟩ := S
  intro T hT X
  rcases vx_callS X hx (bytes := bytes) (maxL := maxL) (ret := ret) ho hl hstt hini hcode hy hK hg (hsize.trans hml.symm) (argsL := As) (rest := rest) (fun sig h => hn.trans (hlen sig h)) hstack hW (by rw [hb]; exact hdg)
    (fun vm₁ hW₁ => ⟨hf.1, hf.2, hp.2 (T.setVm vm₁) hT hW₁⟩) with ⟨v, vm₁, ⟨U', l2, c2, s2⟩, hW₁, X', ⟨g', mk, t, L, e1, e2, hq, h1, hL, h2, h3⟩, st⟩ | ⟨q, vm₁, ⟨U', l2, c2, s2⟩, hW₁, X', ⟨g', mk, t, L, E, ce, e1, e2, hq, hce, hcv, hcl, h1, hL, h2, h3⟩, st⟩
  · dsimp only [Pt.U, Pt.locs, Pt.cells, Pt.slots] at X' e1 e2 h1 h2 h3 st
    subst h1; subst h2; subst h3
    exact Or.inl ⟨v, (T.setVm vm₁).calling g' mk As.toArray, t, U', L, hT, X', hL, e1, e2, hq, st⟩
  · dsimp only [Pt.U, Pt.locs, Pt.cells, Pt.slots] at X' e1 e2 h1 h2 h3 st hcl
    subst h1; subst h2; subst h3
    exact Or.inr ⟨q, (T.setVm vm₁).calling g' mk As.toArray, t, U', L, E, ce, hT, X', hL, e1, e2, hq, hce, hcv, vx_cls hW₁ hcl, st⟩
end Runs
section Rows
variable {p : Program} {l : Launch} {e : Env} {R : Room} {s : State} {m : MethodId} {args : Array Value} {below : List Frame} {meth : Method} {c : Code} {H : Heap} {locs : List Loc} {cells slots : Nat} {Q : State → Prop}
variable {mc ms : Nat} {free : Addr → Prop} {A0 A1 : Nat → Prop} {H0 : Heap} {a : Array Value} {pc : Nat} {ls : Array Slot} {st0 rest : List Value}
theorem vx_keep {st₀ t T' : State} {L : List Loc} (h0 : st₀.heap = H) (e1 : T'.heap = t.heap) (hS : va_S A0 H0 H locs) (hA : ∀ q, q < H.size → A1 q → A0 q) (hf : ∀ q, free q → A0 q) (hL : ∀ q ∈ L, free q.base) (hF : va_F A1 st₀ t) :
    H.size ≤ T'.heap.size ∧ (∀ q : Nat, q < H.size → ¬ A1 q → T'.heap[q]? = H[q]?) ∧ va_S A0 H0 T'.heap (locs ++ L) := by
  obtain ⟨hz, hk⟩ := hF
  rw [h0] at hz hk
  exact ⟨by rw [e1]; exact hz, fun q h1 h2 => by rw [e1]; exact hk q h1 h2,
    ⟨Nat.le_trans hS.1 (by rw [e1]; exact hz), fun q h1 h2 => by rw [e1, hk q (Nat.lt_of_lt_of_le h1 hS.1) (fun z => h2 (hA q (Nat.lt_of_lt_of_le h1 hS.1) z))]; exact hS.2.1 q h1 h2, fun q hq => by
      rcases List.mem_append.mp hq with h | h
      · exact hS.2.2 q h
      · exact hf _ (hL q h)⟩⟩
theorem vx_calli {S SX : Type} {post : Int32 → S → Prop} {px : SX → Prop} {B : S → State → Prop} {BX : String → SX → State → Prop} {AX : Nat → Prop} (hr : vx_Run p l e R s m args below meth c H locs cells slots mc ms (F0 m pc ls st0) rest (va_Qi post B A1 a) (vx_X px BX AX) free) (hS : va_S A0 H0 H locs) (hA : ∀ q, q < H.size → A1 q → A0 q) (hf : ∀ q, free q → A0 q) (hAX : ∀ q, q < H.size → AX q → A0 q)
    (kx : ∀ (E : String) (ce : Cell) (q9 : Addr) (u : SX) (t : State) (H1 : Heap) (locs1 : List Loc), t.heap = H1 → s.vm.Alike t.vm → px u → BX E u t → H.size ≤ H1.size → (∀ q : Nat, q < H.size → ¬ AX q → H1[q]? = H[q]?) → va_S A0 H0 H1 locs1 → H1[q9]? = some ce → ce.vm = .none → s.vm.findClass E = some ce.cls → vx_W p l e R s m args below meth c H1 locs1 (cells + mc) (slots + ms) Q (F0 m pc ls rest) q9)
    (kk : ∀ (r : Int32) (u : S) (t : State) (H1 : Heap) (locs1 : List Loc), t.heap = H1 → s.vm.Alike t.vm → post r u → B u t → H.size ≤ H1.size → (∀ q : Nat, q < H.size → ¬ A1 q → H1[q]? = H[q]?) → va_S A0 H0 H1 locs1 → W p l e R s m args below meth c H1 locs1 (cells + mc) (slots + ms) Q (F0 m (pc + 3) ls (.int r :: rest))) : W p l e R s m args below meth c H locs cells slots Q (F0 m pc ls st0) := by
  intro T hT X
  rcases hr T hT X with ⟨v, st₀, t, T', L, h0, X', hL, e1, e2, ⟨⟨r, u, hv, hp, hb⟩, hF⟩, st⟩ | ⟨q, st₀, t, T', L, E, ce, h0, X', hL, e1, e2, ⟨u, hp, hb, hF⟩, hce, hcv, hcl, st⟩
  · cases hv
    obtain ⟨k1, k2, k3⟩ := vx_keep h0 e1 hS hA hf hL hF
    obtain ⟨t2, a1, b1⟩ := kk r u t T'.heap (locs ++ L) e1.symm (by rw [← e2]; exact X'.warmed.alike) hp hb k1 k2 k3 T' rfl X'
    exact ⟨t2, st t2 a1, b1⟩
  · obtain ⟨k1, k2, k3⟩ := vx_keep h0 e1 hS hAX hf hL hF
    obtain ⟨t2, a1, b1⟩ := kx E ce q u t T'.heap (locs ++ L) e1.symm (by rw [← e2]; exact X'.warmed.alike) hp hb k1 k2 k3 (by rw [e1]; exact hce) hcv hcl T' rfl X'
    exact ⟨t2, st.trans a1, b1⟩
theorem vx_calll {S SX : Type} {post : Int64 → S → Prop} {px : SX → Prop} {B : S → State → Prop} {BX : String → SX → State → Prop} {AX : Nat → Prop} (hr : vx_Run p l e R s m args below meth c H locs cells slots mc ms (F0 m pc ls st0) rest (va_Ql post B A1 a) (vx_X px BX AX) free) (hS : va_S A0 H0 H locs) (hA : ∀ q, q < H.size → A1 q → A0 q) (hf : ∀ q, free q → A0 q) (hAX : ∀ q, q < H.size → AX q → A0 q)
    (kx : ∀ (E : String) (ce : Cell) (q9 : Addr) (u : SX) (t : State) (H1 : Heap) (locs1 : List Loc), t.heap = H1 → s.vm.Alike t.vm → px u → BX E u t → H.size ≤ H1.size → (∀ q : Nat, q < H.size → ¬ AX q → H1[q]? = H[q]?) → va_S A0 H0 H1 locs1 → H1[q9]? = some ce → ce.vm = .none → s.vm.findClass E = some ce.cls → vx_W p l e R s m args below meth c H1 locs1 (cells + mc) (slots + ms) Q (F0 m pc ls rest) q9)
    (kk : ∀ (r : Int64) (u : S) (t : State) (H1 : Heap) (locs1 : List Loc), t.heap = H1 → s.vm.Alike t.vm → post r u → B u t → H.size ≤ H1.size → (∀ q : Nat, q < H.size → ¬ A1 q → H1[q]? = H[q]?) → va_S A0 H0 H1 locs1 → W p l e R s m args below meth c H1 locs1 (cells + mc) (slots + ms) Q (F0 m (pc + 3) ls (.long r :: rest))) : W p l e R s m args below meth c H locs cells slots Q (F0 m pc ls st0) := by
  intro T hT X
  rcases hr T hT X with ⟨v, st₀, t, T', L, h0, X', hL, e1, e2, ⟨⟨r, u, hv, hp, hb⟩, hF⟩, st⟩ | ⟨q, st₀, t, T', L, E, ce, h0, X', hL, e1, e2, ⟨u, hp, hb, hF⟩, hce, hcv, hcl, st⟩
  · cases hv
    obtain ⟨k1, k2, k3⟩ := vx_keep h0 e1 hS hA hf hL hF
    obtain ⟨t2, a1, b1⟩ := kk r u t T'.heap (locs ++ L) e1.symm (by rw [← e2]; exact X'.warmed.alike) hp hb k1 k2 k3 T' rfl X'
    exact ⟨t2, st t2 a1, b1⟩
  · obtain ⟨k1, k2, k3⟩ := vx_keep h0 e1 hS hAX hf hL hF
    obtain ⟨t2, a1, b1⟩ := kx E ce q u t T'.heap (locs ++ L) e1.symm (by rw [← e2]; exact X'.warmed.alike) hp hb k1 k2 k3 (by rw [e1]; exact hce) hcv hcl T' rfl X'
    exact ⟨t2, st.trans a1, b1⟩
theorem vx_callf {S SX : Type} {post : UInt32 → S → Prop} {px : SX → Prop} {B : S → State → Prop} {BX : String → SX → State → Prop} {AX : Nat → Prop} (hr : vx_Run p l e R s m args below meth c H locs cells slots mc ms (F0 m pc ls st0) rest (va_Qf post B A1 a) (vx_X px BX AX) free) (hS : va_S A0 H0 H locs) (hA : ∀ q, q < H.size → A1 q → A0 q) (hf : ∀ q, free q → A0 q) (hAX : ∀ q, q < H.size → AX q → A0 q)
    (kx : ∀ (E : String) (ce : Cell) (q9 : Addr) (u : SX) (t : State) (H1 : Heap) (locs1 : List Loc), t.heap = H1 → s.vm.Alike t.vm → px u → BX E u t → H.size ≤ H1.size → (∀ q : Nat, q < H.size → ¬ AX q → H1[q]? = H[q]?) → va_S A0 H0 H1 locs1 → H1[q9]? = some ce → ce.vm = .none → s.vm.findClass E = some ce.cls → vx_W p l e R s m args below meth c H1 locs1 (cells + mc) (slots + ms) Q (F0 m pc ls rest) q9)
    (kk : ∀ (r : UInt32) (u : S) (t : State) (H1 : Heap) (locs1 : List Loc), t.heap = H1 → s.vm.Alike t.vm → post r u → B u t → H.size ≤ H1.size → (∀ q : Nat, q < H.size → ¬ A1 q → H1[q]? = H[q]?) → va_S A0 H0 H1 locs1 → W p l e R s m args below meth c H1 locs1 (cells + mc) (slots + ms) Q (F0 m (pc + 3) ls (.float r :: rest))) : W p l e R s m args below meth c H locs cells slots Q (F0 m pc ls st0) := by
  intro T hT X
  rcases hr T hT X with ⟨v, st₀, t, T', L, h0, X', hL, e1, e2, ⟨⟨r, u, hv, hp, hb⟩, hF⟩, st⟩ | ⟨q, st₀, t, T', L, E, ce, h0, X', hL, e1, e2, ⟨u, hp, hb, hF⟩, hce, hcv, hcl, st⟩
  · cases hv
    obtain ⟨k1, k2, k3⟩ := vx_keep h0 e1 hS hA hf hL hF
    obtain ⟨t2, a1, b1⟩ := kk r u t T'.heap (locs ++ L) e1.symm (by rw [← e2]; exact X'.warmed.alike) hp hb k1 k2 k3 T' rfl X'
    exact ⟨t2, st t2 a1, b1⟩
  · obtain ⟨k1, k2, k3⟩ := vx_keep h0 e1 hS hAX hf hL hF
    obtain ⟨t2, a1, b1⟩ := kx E ce q u t T'.heap (locs ++ L) e1.symm (by rw [← e2]; exact X'.warmed.alike) hp hb k1 k2 k3 (by rw [e1]; exact hce) hcv hcl T' rfl X'
    exact ⟨t2, st.trans a1, b1⟩
theorem vx_calld {S SX : Type} {post : UInt64 → S → Prop} {px : SX → Prop} {B : S → State → Prop} {BX : String → SX → State → Prop} {AX : Nat → Prop} (hr : vx_Run p l e R s m args below meth c H locs cells slots mc ms (F0 m pc ls st0) rest (va_Qd post B A1 a) (vx_X px BX AX) free) (hS : va_S A0 H0 H locs) (hA : ∀ q, q < H.size → A1 q → A0 q) (hf : ∀ q, free q → A0 q) (hAX : ∀ q, q < H.size → AX q → A0 q)
    (kx : ∀ (E : String) (ce : Cell) (q9 : Addr) (u : SX) (t : State) (H1 : Heap) (locs1 : List Loc), t.heap = H1 → s.vm.Alike t.vm → px u → BX E u t → H.size ≤ H1.size → (∀ q : Nat, q < H.size → ¬ AX q → H1[q]? = H[q]?) → va_S A0 H0 H1 locs1 → H1[q9]? = some ce → ce.vm = .none → s.vm.findClass E = some ce.cls → vx_W p l e R s m args below meth c H1 locs1 (cells + mc) (slots + ms) Q (F0 m pc ls rest) q9)
    (kk : ∀ (r : UInt64) (u : S) (t : State) (H1 : Heap) (locs1 : List Loc), t.heap = H1 → s.vm.Alike t.vm → post r u → B u t → H.size ≤ H1.size → (∀ q : Nat, q < H.size → ¬ A1 q → H1[q]? = H[q]?) → va_S A0 H0 H1 locs1 → W p l e R s m args below meth c H1 locs1 (cells + mc) (slots + ms) Q (F0 m (pc + 3) ls (.double r :: rest))) : W p l e R s m args below meth c H locs cells slots Q (F0 m pc ls st0) := by
  intro T hT X
  rcases hr T hT X with ⟨v, st₀, t, T', L, h0, X', hL, e1, e2, ⟨⟨r, u, hv, hp, hb⟩, hF⟩, st⟩ | ⟨q, st₀, t, T', L, E, ce, h0, X', hL, e1, e2, ⟨u, hp, hb, hF⟩, hce, hcv, hcl, st⟩
  · cases hv
    obtain ⟨k1, k2, k3⟩ := vx_keep h0 e1 hS hA hf hL hF
    obtain ⟨t2, a1, b1⟩ := kk r u t T'.heap (locs ++ L) e1.symm (by rw [← e2]; exact X'.warmed.alike) hp hb k1 k2 k3 T' rfl X'
    exact ⟨t2, st t2 a1, b1⟩
  · obtain ⟨k1, k2, k3⟩ := vx_keep h0 e1 hS hAX hf hL hF
    obtain ⟨t2, a1, b1⟩ := kx E ce q u t T'.heap (locs ++ L) e1.symm (by rw [← e2]; exact X'.warmed.alike) hp hb k1 k2 k3 (by rw [e1]; exact hce) hcv hcl T' rfl X'
    exact ⟨t2, st.trans a1, b1⟩
theorem vx_callv {S SX : Type} {post : S → Prop} {px : SX → Prop} {B : S → State → Prop} {BX : String → SX → State → Prop} {AX : Nat → Prop} (hr : vx_Run p l e R s m args below meth c H locs cells slots mc ms (F0 m pc ls st0) rest (va_Qv post B A1 a) (vx_X px BX AX) free) (hS : va_S A0 H0 H locs) (hA : ∀ q, q < H.size → A1 q → A0 q) (hf : ∀ q, free q → A0 q) (hAX : ∀ q, q < H.size → AX q → A0 q)
    (kx : ∀ (E : String) (ce : Cell) (q9 : Addr) (u : SX) (t : State) (H1 : Heap) (locs1 : List Loc), t.heap = H1 → s.vm.Alike t.vm → px u → BX E u t → H.size ≤ H1.size → (∀ q : Nat, q < H.size → ¬ AX q → H1[q]? = H[q]?) → va_S A0 H0 H1 locs1 → H1[q9]? = some ce → ce.vm = .none → s.vm.findClass E = some ce.cls → vx_W p l e R s m args below meth c H1 locs1 (cells + mc) (slots + ms) Q (F0 m pc ls rest) q9)
    (kk : ∀ (u : S) (t : State) (H1 : Heap) (locs1 : List Loc), t.heap = H1 → s.vm.Alike t.vm → post u → B u t → H.size ≤ H1.size → (∀ q : Nat, q < H.size → ¬ A1 q → H1[q]? = H[q]?) → va_S A0 H0 H1 locs1 → W p l e R s m args below meth c H1 locs1 (cells + mc) (slots + ms) Q (F0 m (pc + 3) ls (rest))) : W p l e R s m args below meth c H locs cells slots Q (F0 m pc ls st0) := by
  intro T hT X
  rcases hr T hT X with ⟨v, st₀, t, T', L, h0, X', hL, e1, e2, ⟨⟨u, hv, hp, hb⟩, hF⟩, st⟩ | ⟨q, st₀, t, T', L, E, ce, h0, X', hL, e1, e2, ⟨u, hp, hb, hF⟩, hce, hcv, hcl, st⟩
  · cases hv
    obtain ⟨k1, k2, k3⟩ := vx_keep h0 e1 hS hA hf hL hF
    obtain ⟨t2, a1, b1⟩ := kk u t T'.heap (locs ++ L) e1.symm (by rw [← e2]; exact X'.warmed.alike) hp hb k1 k2 k3 T' rfl X'
    exact ⟨t2, st t2 a1, b1⟩
  · obtain ⟨k1, k2, k3⟩ := vx_keep h0 e1 hS hAX hf hL hF
    obtain ⟨t2, a1, b1⟩ := kx E ce q u t T'.heap (locs ++ L) e1.symm (by rw [← e2]; exact X'.warmed.alike) hp hb k1 k2 k3 (by rw [e1]; exact hce) hcv hcl T' rfl X'
    exact ⟨t2, st.trans a1, b1⟩
/-- caught by the row x of this method's table; the rows ahead don't take it -/
theorem vx_catch {own name : String} {E : String} {ce : Cell} {q : Addr} (hown : s.vm.findClass own = some m.cls) (pre : List ExceptionTableEntry) (x : ExceptionTableEntry) (suf : List ExceptionTableEntry) (hsplit : c.exceptionTable.toList = pre ++ x :: suf)
    (hpass : ∀ z ∈ pre, covers z pc = false ∨ (z.catchType ≠ 0 ∧ ∃ nm : String, (Cond.classLink own z.catchType nm).before args s = true ∧ va_Nc E nm s)) (hx : covers x pc = true) (h0 : x.catchType ≠ 0)
    (hlink : (Cond.classLink own x.catchType name).before args s = true) (hcast : (Cond.castable E name).before args s = true) (hcell : H[q]? = some ce) (hv : ce.vm = .none) (hcl : s.vm.findClass E = some ce.cls)
    (kk : W p l e R s m args below meth c H locs cells slots Q (F0 m x.handlerPc ls [.ref q])) : vx_W p l e R s m args below meth c H locs cells slots Q (F0 m pc ls rest) q := by
  intro T hT X
  have hpl : e.platform.magicAccessors = ({} : Platform).magicAccessors := by rw [X.admits.platform]
  obtain ⟨c3, c4, hc3, hc4, hasg⟩ := Cond.castable_spec hcast
  cases Option.some.inj (hc3.symm.trans hcl)
  obtain ⟨c5, hc5, hcl5⟩ := Cond.classLink_spec hown hlink e.platform hpl
  cases Option.some.inj (hc4.symm.trans hc5)
  obtain ⟨vm', X', st⟩ := X.thenCaughtThrough q (g := F0 m pc ls rest) rfl (Steps.refl _) (by rw [hT]; exact hcell) (by rw [hv]; rfl) (by obtain ⟨k9, h9, -⟩ := Vm.findClass_spec hcl; exact ⟨k9, h9⟩) pre x suf hsplit
    (fun z hz => by
      rcases hpass z hz with h | ⟨hz0, nm, hl1, hn1⟩
      · exact Or.inl h
      · obtain ⟨c6, hc6, hcl6⟩ := Cond.classLink_spec hown hl1 e.platform hpl
        obtain ⟨a8, b8, h1, h2, h3⟩ := hn1
        cases Option.some.inj (h1.symm.trans hcl)
        cases Option.some.inj (h2.symm.trans hc6)
        exact Or.inr ⟨hz0, _, hcl6, h3⟩) hx (Or.inr ⟨h0, c4, hcl5, hasg⟩)
  obtain ⟨t, a1, b1⟩ := kk (T.setVm vm') hT X'
  exact ⟨t, st.trans a1, b1⟩
end Rows
section Ends
variable {p : Program} {l : Launch} {e : Env} {R : Room} {s : State} {m : MethodId} {args : Array Value} {below : List Frame} {meth : Method} {c : Code} {H : Heap} {locs : List Loc} {cells slots : Nat} {Q : State → Prop}
variable {mc ms : Nat} {free : Addr → Prop} {A0 A1 : Nat → Prop} {H0 : Heap} {a : Array Value} {ls : Array Slot} {st0 rest : List Value}
variable {Qc : Array Value → State → Outcome → State → Prop} {XC : String → State → State → Prop}
/-- what a body that may throw owes at its end -/
def vx_MQ (below : List Frame) (Qc : Array Value → State → Outcome → State → Prop) (XC : String → State → State → Prop) (a : Array Value) (s : State) (mc ms : Nat) (free : Addr → Prop) : State → Prop := fun t =>
  ∃ o, t.status = .running ∧ Ended t below o ∧ vx_Q Qc XC mc ms free a s o t
theorem vx_ret {g : JFrame} {mc ms : Nat} (k : W p l e R s m args below meth c H locs cells slots (MQ below Qc args s mc ms free) g) : W p l e R s m args below meth c H locs cells slots (vx_MQ below Qc XC args s mc ms free) g := by
  intro T hT X
  obtain ⟨t, a1, o, b1, b2, b3, b4⟩ := k T hT X
  exact ⟨t, a1, o, b1, b2, Or.inl ⟨b3, b4⟩⟩
/-- not caught here: it goes on to the caller -/
theorem vx_widen {g : JFrame} {q : Addr} {k n : Nat} (h1 : cells ≤ k) (h2 : slots ≤ n) (kk : vx_W p l e R s m args below meth c H locs k n Q g q) : vx_W p l e R s m args below meth c H locs cells slots Q g q := fun T hT X => kk T hT (stand_widen X h1 h2)
theorem vx_out {pc : Nat} {E : String} {ce : Cell} {q : Addr} {mc ms : Nat} (hout : ∀ x ∈ c.exceptionTable.toList, covers x pc = false) (hlocks : meth.locks = false) (hcell : H[q]? = some ce) (hv : ce.vm = .none) (hcl : s.vm.findClass E = some ce.cls)
    (hx : ∀ t : State, t.heap = H → s.vm.Alike t.vm → XC E s t) (hf : ∀ z ∈ locs, free z.base) (hc : cells ≤ mc) (hs : slots ≤ ms) :
    vx_W p l e R s m args below meth c H locs cells slots (vx_MQ below Qc XC args s mc ms free) (F0 m pc ls rest) q := by
  intro T hT X
  obtain ⟨st1, hrun, hend, hW, hsm⟩ := X.leaveThrown q (g := F0 m pc ls rest) rfl rfl rfl hout hlocks
  have hcell9 : (T.setFrames (.throwing q :: below)).heap[q]? = some ce := by
    show T.heap[q]? = some ce
    rw [hT]; exact hcell
  exact ⟨_, st1, .threw q, hrun, hend, Or.inr ⟨q, rfl, E, ce, locs, hx _ hT hW.alike, hcell9, hv, hcl, hW, hsm.mono hc hs, hf⟩⟩
theorem vx_frame {U : State} {k n : Nat} (h : s.sameButNew ({ U with vm := s.vm } : State) locs k n) : s.heap.size ≤ U.heap.size ∧ ∀ q : Nat, q < s.heap.size → (∀ z ∈ locs, z.base ≠ q) → U.heap[q]? = s.heap[q]? := by
  obtain ⟨-, h2, -, -, -, h6⟩ := h
  refine ⟨h2, fun q hq hz => ?_⟩
  obtain ⟨c9, e1, e2, e3, e4⟩ := h6 q _ (Array.getElem?_eq_getElem hq)
  have hs : c9.slots = (s.heap[q]).slots := Array.ext_getElem? fun i => e4 i fun hm => hz _ hm rfl
  have h9 : c9 = s.heap[q] := by
    rw [hs] at e2
    exact e2
  have e5 : U.heap[q]? = some c9 := e1
  rw [e5, h9, Array.getElem?_eq_getElem hq]
/-- the words of a throw but the four that speak of the heap -/
def vx_no (w : Cond) : Bool := decide (w ≠ .isRef (.static Bundle.tN "UNASSIGNED_STACK" Bundle.steD)) && decide (w ≠ .isRef (.static Bundle.tN "SUPPRESSED_SENTINEL" Bundle.listD)) && decide (w ≠ .laysStatic Bundle.tN "UNASSIGNED_STACK" Bundle.steD) && decide (w ≠ .laysStatic Bundle.tN "SUPPRESSED_SENTINEL" Bundle.listD)
def vx_at0 (own : String) (ic : Nat) (X : String) (names : List String) : List Cond := (Bundle.ownAtoms0 own ic X names).filter vx_no
def vx_atS (own : String) (ic : Nat) (X : String) (names : List String) : List Cond := (Bundle.ownAtoms own ic X names).filter vx_no
/-- a word that the tables alone decide, or a good one -/
def vx_ot (w : Cond) : Bool := w.onTables || goodWord w
theorem vx_ot_at {args a' : Array Value} {s U : State} {w : Cond} (hW : s.WarmedH U.vm) (hvm : s.vm = U.vm) (hg : vx_ot w = true) (h : w.before args s = true) : w.before a' U = true := by
  simp only [vx_ot, Bool.or_eq_true] at hg
  rcases hg with hg | hg
  · exact va_tabs hg hvm h
  · exact word_at hW (good_of_word hg) h
/-- a list's words: the good ones out of the method's own list, the others by premises of their own -/
theorem vx_hat {args : Array Value} {s : State} {L B : List Cond} (h1 : ∀ w ∈ L.filter goodWord, w.before args s = true) (h2 : ∀ w ∈ L.filter (fun w => !goodWord w), w ∈ B) (h3 : ∀ w ∈ B, w.before args s = true) : ∀ w ∈ L, w.before args s = true := by
  intro w hw
  by_cases g : goodWord w = true
  · exact h1 w (List.mem_filter.mpr ⟨hw, g⟩)
  · refine h3 w (h2 w (List.mem_filter.mpr ⟨hw, ?_⟩))
    show (!goodWord w) = true
    cases hgw : goodWord w
    · rfl
    · exact absurd hgw g
theorem vx_c {args : Array Value} {s : State} {w : Cond} {B : List Cond} (h : w.before args s = true) (t : ∀ w ∈ B, w.before args s = true) : ∀ w' ∈ w :: B, w'.before args s = true := fun w' h' => (List.mem_cons.mp h').elim (fun e => by rw [e]; exact h) (t w')
theorem vx_n {args : Array Value} {s : State} : ∀ w ∈ ([] : List Cond), w.before args s = true := fun _ h => nomatch h
theorem vx_own {args : Array Value} {s : State} {L : List Cond} (h1 : ∀ w ∈ L.filter vx_no, w.before args s = true)
    (hU : (Cond.isRef (.static Bundle.tN "UNASSIGNED_STACK" Bundle.steD)).before args s = true) (hN : (Cond.isRef (.static Bundle.tN "SUPPRESSED_SENTINEL" Bundle.listD)).before args s = true)
    (lU : (Cond.laysStatic Bundle.tN "UNASSIGNED_STACK" Bundle.steD).before args s = true) (lN : (Cond.laysStatic Bundle.tN "SUPPRESSED_SENTINEL" Bundle.listD).before args s = true) : ∀ w ∈ L, w.before args s = true := by
  intro w hw
  by_cases e1 : w = .isRef (.static Bundle.tN "UNASSIGNED_STACK" Bundle.steD)
  · rw [e1]; exact hU
  · by_cases e2 : w = .isRef (.static Bundle.tN "SUPPRESSED_SENTINEL" Bundle.listD)
    · rw [e2]; exact hN
    · by_cases e3 : w = .laysStatic Bundle.tN "UNASSIGNED_STACK" Bundle.steD
      · rw [e3]; exact lU
      · by_cases e4 : w = .laysStatic Bundle.tN "SUPPRESSED_SENTINEL" Bundle.listD
        · rw [e4]; exact lN
        · exact h1 w (List.mem_filter.mpr ⟨hw, by unfold vx_no; rw [decide_eq_true e1, decide_eq_true e2, decide_eq_true e3, decide_eq_true e4]; rfl⟩)
/-- where a static field lies, its class's statics cell in H -/
def vx_L (C n d : String) (A : Nat → Prop) (U : State) (H : Heap) : Prop := ∃ (c : ClassId) (k : Class) (i : Nat) (f : Field) (a : Nat) (cell : Cell), U.vm.findClass C = some c ∧ U.fieldFound? C n d = some (c, k, i, f) ∧ f.isStatic = true ∧ k.statics = some a ∧ H[a]? = some cell ∧ cell.vm.isStatics = true ∧ cell.cls = c ∧ f.slot < cell.slots.size ∧ k.staticTypes[f.slot]? = some f.type ∧ ¬ A a
theorem vx_L.moved {C n d : String} {A : Nat → Prop} {u U : State} {H : Heap} (hvm : u.vm.Alike U.vm) (h : vx_L C n d A u H) : vx_L C n d A U H := by
  obtain ⟨c, k, i, f, a, cell, h1, h2, h3, h4, h5, h6, h7, h8, h9, h10⟩ := h
  obtain ⟨k', hi', he⟩ := State.fieldFound?_setVm hvm h2
  exact ⟨c, k', i, f, a, cell, by rw [hvm.findClass]; exact h1, hi', h3, by rw [he]; exact h4, h5, h6, h7, h8, by rw [he]; exact h9, h10⟩
theorem vx_L.kept {C n d : String} {A : Nat → Prop} {U : State} {H H1 : Heap} (h : vx_L C n d A U H) (hq : ∀ a : Nat, a < H.size → ¬ A a → H1[a]? = H[a]?) : vx_L C n d A U H1 := by
  obtain ⟨c, k, i, f, a, cell, h1, h2, h3, h4, h5, h6, h7, h8, h9, h10⟩ := h
  exact ⟨c, k, i, f, a, cell, h1, h2, h3, h4, by rw [hq a (Array.getElem?_eq_some_iff.mp h5).1 h10]; exact h5, h6, h7, h8, h9, h10⟩
theorem vx_L.narrow {C n d : String} {A B : Nat → Prop} {U : State} {H : Heap} (h : vx_L C n d A U H) (hAB : ∀ q, B q → A q) : vx_L C n d B U H := by
  obtain ⟨c, k, i, f, a, cell, h1, h2, h3, h4, h5, h6, h7, h8, h9, h10⟩ := h
  exact ⟨c, k, i, f, a, cell, h1, h2, h3, h4, h5, h6, h7, h8, h9, fun z => h10 (hAB _ z)⟩
theorem vx_L.word {C n d : String} {A : Nat → Prop} {s : State} {args : Array Value} (h : vx_L C n d A s s.heap) : (Cond.laysStatic C n d).before args s = true := by
  obtain ⟨c, k, i, f, a, cell, h1, h2, h3, h4, h5, h6, h7, h8, h9, -⟩ := h
  show (Cond.laysStatic C n d).holds args s none s [] = true
  exact Cond.laysStatic_of h1 h2 h3 h4 h5 h6 h7 h8 h9
/-- .. and what it holds: null or some reference -/
def vx_Zq (C n d : String) (A : Nat → Prop) (U : State) (H : Heap) : Prop := va_Zq C n d A U H ∧ vx_L C n d A U H
theorem vx_Zq.moved {C n d : String} {A : Nat → Prop} {u U : State} {H : Heap} (hvm : u.vm.Alike U.vm) (h : vx_Zq C n d A u H) : vx_Zq C n d A U H := ⟨va_Zq.moved hvm h.1, vx_L.moved hvm h.2⟩
theorem vx_Zq.kept {C n d : String} {A : Nat → Prop} {U : State} {H H1 : Heap} (h : vx_Zq C n d A U H) (hq : ∀ a : Nat, a < H.size → ¬ A a → H1[a]? = H[a]?) : vx_Zq C n d A U H1 := ⟨va_Zq.kept h.1 hq, vx_L.kept h.2 hq⟩
theorem vx_Zq.narrow {C n d : String} {A B : Nat → Prop} {U : State} {H : Heap} (h : vx_Zq C n d A U H) (hAB : ∀ q, B q → A q) : vx_Zq C n d B U H := ⟨va_Zq.narrow h.1 hAB, vx_L.narrow h.2 hAB⟩
theorem vx_Zqof {args : Array Value} {s : State} {C n d : String} {A : Nat → Prop} (hl : (Cond.laysStatic C n d).before args s = true) (hini : (Cond.initialized C).before args s = true) (h : (Cond.isRef (.static C n d)).before args s = true) (hA : ∀ a : Nat, a < s.heap.size → ¬ A a) : vx_Zq C n d A s s.heap := by
  refine ⟨va_Zqof hl hini h hA, ?_⟩
  obtain ⟨c, k, i, f, a, cell, h1, h2, h3, h4, h5, h6, h7, h8, h9⟩ := Cond.laysStatic_spec hl
  exact ⟨c, k, i, f, a, cell, h1, h2, h3, h4, h5, h6, h7, h8, h9, hA a (Array.getElem?_eq_some_iff.mp h5).1⟩
theorem vx_isRef {C n d : String} {v : Value} {A : Nat → Prop} {s : State} {args : Array Value} (h : va_Z C n d v A s s.heap) (hv : v.isRef = true) : (Cond.isRef (.static C n d)).before args s = true := by
  obtain ⟨cf, kf, fi, f, a, cell, h1, h2, h3, h4, h5, h6, h7, -⟩ := h
  have he : (Term.static C n d).eval args s none [] s = some v := by
    simp [Term.eval, State.fieldNamed?, h1, h2, h4, h5, h6, h7]
  simp only [Cond.before, Cond.holds, Cond.value, he]
  cases v <;> simp_all [Value.isRef]
theorem vx_isRefq {C n d : String} {A : Nat → Prop} {s : State} {args : Array Value} (h : va_Zq C n d A s s.heap) : (Cond.isRef (.static C n d)).before args s = true := by
  rcases h with h | ⟨t, h⟩
  · exact vx_isRef h rfl
  · exact vx_isRef h rfl
/-- the same frame, seen from here: as if the method were called anew in this heap -/
theorem vx_rebase {T : State} (X : Stand p l e R s m args below meth c T locs cells slots) {R' : Room} (hf : R'.frames ≤ R.frames) (hl : R'.locals ≤ R.locals) (hc : cells + R'.cells ≤ R.cells) (hs : slots + R'.slots ≤ R.slots) :
    Stand p l e R' ((T.setVm s.vm).setFrames (.invoking m args :: below)) m args below meth c T [] 0 0 := by
  have htop : (T.setVm s.vm).topJava?.isSome := X.here.top
  have hF : ((T.setVm s.vm).setFrames (.invoking m args :: below)).frames = .invoking m args :: below := State.frames_setFrames _ (State.cur_lt_of_top htop)
  obtain ⟨g₀, hg0⟩ := Option.isSome_iff_exists.mp htop
  obtain ⟨r, hr⟩ := State.topJava?_eq_some.mp hg0
  have hl9 : e.platform.stackLimits (T.setVm s.vm).me = e.platform.stackLimits s.me := X.limits
  have hb9 : (T.setVm s.vm).me.stackBytes = s.me.stackBytes := X.bytes
  refine ⟨X.admits, X.cas, X.clock, hF, ?_, X.hears, X.method, X.code, X.here, X.tail, X.warmed, ?_, ?_, ?_⟩
  · have h := X.room
    have hU : ((T.setVm s.vm).setFrames (.invoking m args :: below)).localsInUse = s.localsInUse := by
      rw [State.localsInUse_invoking hF (meth := meth) (c := c) X.method X.code, State.localsInUse_invoking X.frames X.method X.code]
    simp only [State.hasRoom, Bool.and_eq_true, decide_eq_true_eq] at h ⊢
    obtain ⟨⟨⟨⟨h1, h2, h3, h4, h5, h6⟩, h7⟩, h8⟩, h9⟩ := h
    rw [X.frames, List.length_cons] at h2 h3
    have q1 := X.heapSize
    have q2 := X.used
    simp only [hF, hU, List.length_cons, State.stackLimits_setFrames, State.stackBytes_setFrames, hl9, hb9]
    refine ⟨⟨⟨⟨by omega, by omega, by omega, by omega, by omega, h6⟩, ?_⟩, ?_⟩, X.book⟩
    · show T.heap.size + R'.cells ≤ e.platform.maxCells
      omega
    · show T.slotsUsed + R'.slots ≤ e.platform.maxSlots
      omega
  · rw [State.stackLimits_setFrames]; rfl
  · rw [State.stackBytes_setFrames]; rfl
  · refine ⟨?_, Nat.le_refl _, Nat.le_refl _, ?_, ?_, fun a c9 h9 => ⟨c9, h9, rfl, rfl, fun _ _ => rfl⟩⟩
    · obtain ⟨t, ht, -⟩ := State.frames_cons hr
      show T.setVm s.vm = { ((T.setVm s.vm).setFrames (.invoking m args :: below)).setFrames (T.setVm s.vm).frames with heap := T.heap, slotsUsed := T.slotsUsed }
      rw [State.setFrames_setFrames, State.setFrames_self ht]
      rfl
    · show T.slotsUsed = T.slotsUsed + ((T.heap.toList.drop T.heap.size).map (·.slots.size)).sum
      rw [List.drop_eq_nil_of_le (Nat.le_of_eq Array.length_toList)]
      rfl
    · show ((T.heap.toList.drop T.heap.size).map (·.slots.size)).sum ≤ 0
      rw [List.drop_eq_nil_of_le (Nat.le_of_eq Array.length_toList)]
      exact Nat.le_refl _
/-- 'throw new E()': new; dup; invokespecial; athrow -/
theorem vx_throw0 {cc : ByteArray} {pc : Nat} (hexec : p.tables.exec = Jvm.exec) (hb : c.code = cc) (hl : l.stackTraces = false) {own cls : String} {names : List String} {ik ic mc ms : Nat} {A : Nat → Prop}
    (hown : s.vm.findClass own = some m.cls) (hcls : Bundle.fit cls = true) (hnames : ∀ n ∈ names, Bundle.fit n = true)
    (hk : (Cond.classLink own ik cls).before args s = true) (hini : (Cond.initialized cls).before args s = true) (hat : ∀ w ∈ vx_at0 own ic cls names, w.before args s = true)
    (hgood : ∀ w ∈ Cond.classLink own ik cls :: Cond.initialized cls :: vx_at0 own ic cls names, vx_ot w = true)
    (hU : vx_Zq Bundle.tN "UNASSIGNED_STACK" Bundle.steD A s s.heap) (hN : vx_Zq Bundle.tN "SUPPRESSED_SENTINEL" Bundle.listD A s s.heap) (hS : va_S A s.heap H locs) (hsize : ls.size = c.maxLocals)
    (d0 : decode cc pc = .ok (.new ik, 3)) (d3 : decode cc (pc + 3) = .ok (.dup, 1)) (d4 : decode cc (pc + 4) = .ok (.invokespecial ic, 3)) (d7 : decode cc (pc + 7) = .ok (.athrow, 1))
    (hout : ∀ x ∈ c.exceptionTable.toList, covers x (pc + 7) = false)
    (hRframes : names.length + 3 < R.frames) (hRlocals : (rest.map fun v => v.category).sum + (13 * (names.length + 1) + 42) ≤ R.locals) (hRcells : cells + 1 ≤ R.cells) (hRslots : slots + 6 ≤ R.slots) (hlocks : meth.locks = false)
    (hx : ∀ t : State, s.vm.Alike t.vm → H.size ≤ t.heap.size → (∀ q : Nat, q < H.size → t.heap[q]? = H[q]?) → XC cls s t)
    (hf : ∀ z ∈ locs, free z.base) (hc : cells + 1 ≤ mc) (hs : slots + 6 ≤ ms) :
    W p l e R s m args below meth c H locs cells slots (vx_MQ below Qc XC args s mc ms free) (F0 m pc ls rest) := by
  intro T hT X
  have htr : e.platform.stackTraces = false := (show e.platform.stackTraces = l.stackTraces by rw [X.admits.platform]).trans hl
  have Y := vx_rebase X (R' := { frames := R.frames, locals := R.locals, cells := 1, slots := 6 }) (Nat.le_refl _) (Nat.le_refl _) hRcells hRslots
  obtain ⟨s', hA⟩ : ∃ z, z = (T.setVm s.vm).setFrames (.invoking m args :: below) := ⟨_, rfl⟩
  rw [← hA] at Y
  have hvm : s'.vm = s.vm := by rw [hA]; rfl
  have hhp : s'.heap = H := by rw [hA]; exact hT
  have hW0 : s.WarmedH s'.vm := by rw [hvm]; exact State.WarmedH.refl s
  have hat' : ∀ w ∈ vx_at0 own ic cls names, w.before args s' = true := fun w hw => vx_ot_at hW0 hvm.symm (hgood w (List.mem_cons_of_mem _ (List.mem_cons_of_mem _ hw))) (hat w hw)
  have hk' : (Cond.classLink own ik cls).before args s' = true := vx_ot_at hW0 hvm.symm (hgood _ List.mem_cons_self) hk
  have hini' : (Cond.initialized cls).before args s' = true := vx_ot_at hW0 hvm.symm (hgood _ (List.mem_cons_of_mem _ List.mem_cons_self)) hini
  have hU' : vx_Zq Bundle.tN "UNASSIGNED_STACK" Bundle.steD A s' s'.heap := by rw [hhp]; exact vx_Zq.moved hW0.alike (hU.kept hS.2.1)
  have hN' : vx_Zq Bundle.tN "SUPPRESSED_SENTINEL" Bundle.listD A s' s'.heap := by rw [hhp]; exact vx_Zq.moved hW0.alike (hN.kept hS.2.1)
  have h : ∀ w ∈ Bundle.ownAtoms0 own ic cls names, w.before args s' = true := vx_own hat' (vx_isRefq hU'.1) (vx_isRefq hN'.1) hU'.2.word hN'.2.word
  have hown' : s'.vm.findClass own = some m.cls := by rw [hvm]; exact hown
  have hins : (Cond.instantiable cls 6).before args s' = true := h _ (by simp [Bundle.ownAtoms0])
  obtain ⟨vm₁, cX, kX, hfX, hkX, -, -, X₁, st1⟩ := Y.newCold hexec (own := own) (C := cls) (index := ik) (n := 6) hown' hk' hins hini'
    (g := F0 m pc ls rest) rfl (by rw [hb]; exact d0) (Nat.le_refl _) (Nat.le_refl _)
  generalize hT1 : (T.setVm vm₁).pushCell { cls := cX, slots := kX.instanceTypes.map defaultValue, vm := .none } = T1 at X₁ st1
  have hcat : (Value.ref T.heap.size).category = 1 := rfl
  have hcellA : T1.heap[T.heap.size]? = some (freshCell cX kX) := by rw [← hT1]; exact State.heap_pushCell_size _ _
  have d3' : decode c.code (pc + 3) = .ok (.dup, 1) := by rw [hb]; exact d3
  obtain ⟨U, hsteps, hrun, hend, hW, hsame, ce, hce, hO⟩ := X₁.ctorThrow0 hexec htr (own := own) (cls := cls) (names := names) (ic := ic) hown' hcls hnames h (fun x hx => nomatch hx) hfX hkX hcellA (by rw [hhp, hT]; exact Nat.le_refl _)
    (g := { method := m, pc := pc + 4, locals := ls, stack := .ref T.heap.size :: .ref T.heap.size :: rest, locked := none }) rfl hsize rfl rfl (rest := rest) rfl
    (by rw [hb]; exact d4) (by rw [hb]; exact d7) hout hRframes (by simp only [List.map_cons, List.sum_cons, hcat]; omega) hlocks
  obtain ⟨f1, f2⟩ := vx_frame hsame
  rw [hhp] at f1 f2
  have hWs : s.WarmedH U.vm := State.WarmedH.trans hW0 hW
  have hcl : s.vm.findClass cls = some ce.cls := by
    have h9 := hO.cls
    rw [hvm] at h9
    exact h9
  have hall : s.sameButNew ({ U with vm := s.vm } : State) locs mc ms := by
    subst hA
    obtain ⟨e1, e2⟩ := hsame
    rw [State.setFrames_setFrames] at e1
    have h2 : (T.setVm s.vm).sameButNew ({ U with vm := s.vm } : State) [] (0 + 1) (0 + 6) := ⟨e1, e2⟩
    have h3 := X.same.trans h2
    rw [List.append_nil] at h3
    exact h3.mono hc hs
  refine ⟨U, ?_, .threw T.heap.size, hrun, hend, Or.inr ⟨T.heap.size, rfl, cls, ce, locs, hx U hWs.alike f1 (fun q hq => f2 q hq (fun z hz => nomatch hz)), hce, hO.vm, hcl, hWs, hall, hf⟩⟩
  refine st1 _ ?_
  show Steps p.tables e below (T1.setTop { method := m, pc := pc + 3, locals := ls, stack := .ref T.heap.size :: rest, locked := none }) _
  jvm_step X₁.here [X₁.here.top, hexec, d3', Value.category]
  exact hsteps
/-- 'throw new E("text")': new; dup; ldc; invokespecial; athrow -/
theorem vx_throwS {cc : ByteArray} {pc : Nat} (hexec : p.tables.exec = Jvm.exec) (hb : c.code = cc) (hl : l.stackTraces = false) {own cls text : String} {names : List String} {ik is ic mc ms sa : Nat} {A : Nat → Prop}
    (hown : s.vm.findClass own = some m.cls) (hcls : Bundle.fit cls = true) (hnames : ∀ n ∈ names, Bundle.fit n = true)
    (hk : (Cond.classLink own ik cls).before args s = true) (hini : (Cond.initialized cls).before args s = true) (hstr : vk_R own is text sa s) (hat : ∀ w ∈ vx_atS own ic cls names, w.before args s = true)
    (hgood : ∀ w ∈ Cond.classLink own ik cls :: Cond.initialized cls :: vx_atS own ic cls names, vx_ot w = true)
    (hU : vx_Zq Bundle.tN "UNASSIGNED_STACK" Bundle.steD A s s.heap) (hN : vx_Zq Bundle.tN "SUPPRESSED_SENTINEL" Bundle.listD A s s.heap) (hS : va_S A s.heap H locs) (hsize : ls.size = c.maxLocals)
    (d0 : decode cc pc = .ok (.new ik, 3)) (d3 : decode cc (pc + 3) = .ok (.dup, 1)) (d4 : decode cc (pc + 4) = .ok (.ldc is, 2)) (d6 : decode cc (pc + 6) = .ok (.invokespecial ic, 3)) (d9 : decode cc (pc + 9) = .ok (.athrow, 1))
    (hout : ∀ x ∈ c.exceptionTable.toList, covers x (pc + 9) = false)
    (hRframes : names.length + 3 < R.frames) (hRlocals : (rest.map fun v => v.category).sum + (13 * (names.length + 1) + 43) ≤ R.locals) (hRcells : cells + 1 ≤ R.cells) (hRslots : slots + 6 ≤ R.slots) (hlocks : meth.locks = false)
    (hx : ∀ t : State, s.vm.Alike t.vm → H.size ≤ t.heap.size → (∀ q : Nat, q < H.size → t.heap[q]? = H[q]?) → XC cls s t)
    (hf : ∀ z ∈ locs, free z.base) (hc : cells + 1 ≤ mc) (hs : slots + 6 ≤ ms) :
    W p l e R s m args below meth c H locs cells slots (vx_MQ below Qc XC args s mc ms free) (F0 m pc ls rest) := by
  intro T hT X
  have htr : e.platform.stackTraces = false := (show e.platform.stackTraces = l.stackTraces by rw [X.admits.platform]).trans hl
  have Y := vx_rebase X (R' := { frames := R.frames, locals := R.locals, cells := 1, slots := 6 }) (Nat.le_refl _) (Nat.le_refl _) hRcells hRslots
  obtain ⟨s', hA⟩ : ∃ z, z = (T.setVm s.vm).setFrames (.invoking m args :: below) := ⟨_, rfl⟩
  rw [← hA] at Y
  have hvm : s'.vm = s.vm := by rw [hA]; rfl
  have hhp : s'.heap = H := by rw [hA]; exact hT
  have hW0 : s.WarmedH s'.vm := by rw [hvm]; exact State.WarmedH.refl s
  have hat' : ∀ w ∈ vx_atS own ic cls names, w.before args s' = true := fun w hw => vx_ot_at hW0 hvm.symm (hgood w (List.mem_cons_of_mem _ (List.mem_cons_of_mem _ hw))) (hat w hw)
  have hk' : (Cond.classLink own ik cls).before args s' = true := vx_ot_at hW0 hvm.symm (hgood _ List.mem_cons_self) hk
  have hini' : (Cond.initialized cls).before args s' = true := vx_ot_at hW0 hvm.symm (hgood _ (List.mem_cons_of_mem _ List.mem_cons_self)) hini
  have hU' : vx_Zq Bundle.tN "UNASSIGNED_STACK" Bundle.steD A s' s'.heap := by rw [hhp]; exact vx_Zq.moved hW0.alike (hU.kept hS.2.1)
  have hN' : vx_Zq Bundle.tN "SUPPRESSED_SENTINEL" Bundle.listD A s' s'.heap := by rw [hhp]; exact vx_Zq.moved hW0.alike (hN.kept hS.2.1)
  have h : ∀ w ∈ Bundle.ownAtoms own ic cls names, w.before args s' = true := vx_own hat' (vx_isRefq hU'.1) (vx_isRefq hN'.1) hU'.2.word hN'.2.word
  have hown' : s'.vm.findClass own = some m.cls := by rw [hvm]; exact hown
  have hins : (Cond.instantiable cls 6).before args s' = true := h _ (by simp [Bundle.ownAtoms])
  obtain ⟨vm₁, cX, kX, hfX, hkX, -, -, X₁, st1⟩ := Y.newCold hexec (own := own) (C := cls) (index := ik) (n := 6) hown' hk' hins hini'
    (g := F0 m pc ls rest) rfl (by rw [hb]; exact d0) (Nat.le_refl _) (Nat.le_refl _)
  generalize hT1 : (T.setVm vm₁).pushCell { cls := cX, slots := kX.instanceTypes.map defaultValue, vm := .none } = T1 at X₁ st1
  have hcat : (Value.ref T.heap.size).category = 1 := rfl
  have hcellA : T1.heap[T.heap.size]? = some (freshCell cX kX) := by rw [← hT1]; exact State.heap_pushCell_size _ _
  have d3' : decode c.code (pc + 3) = .ok (.dup, 1) := by rw [hb]; exact d3
  have d4' : decode c.code (pc + 4) = .ok (.ldc is, 2) := by rw [hb]; exact d4
  have hstr' : vk_R own is text sa s' := vk_R.warm hW0 hstr
  obtain ⟨U, hsteps, hrun, hend, hW, hsame, ce, hce, hO⟩ := X₁.ctorThrowS hexec htr (own := own) (cls := cls) (names := names) (ic := ic) hown' hcls hnames h (fun x hx => nomatch hx) hfX hkX hcellA (by rw [hhp, hT]; exact Nat.le_refl _) (msg := .ref sa) rfl
    (g := { method := m, pc := pc + 6, locals := ls, stack := .ref sa :: .ref T.heap.size :: .ref T.heap.size :: rest, locked := none }) rfl hsize rfl rfl (rest := rest) rfl
    (by rw [hb]; exact d6) (by rw [hb]; exact d9) hout hRframes (by simp only [List.map_cons, List.sum_cons, hcat]; omega) hlocks
  obtain ⟨f1, f2⟩ := vx_frame hsame
  rw [hhp] at f1 f2
  have hWs : s.WarmedH U.vm := State.WarmedH.trans hW0 hW
  have hcl : s.vm.findClass cls = some ce.cls := by
    have h9 := hO.cls
    rw [hvm] at h9
    exact h9
  have hall : s.sameButNew ({ U with vm := s.vm } : State) locs mc ms := by
    subst hA
    obtain ⟨e1, e2⟩ := hsame
    rw [State.setFrames_setFrames] at e1
    have h2 : (T.setVm s.vm).sameButNew ({ U with vm := s.vm } : State) [] (0 + 1) (0 + 6) := ⟨e1, e2⟩
    have h3 := X.same.trans h2
    rw [List.append_nil] at h3
    exact h3.mono hc hs
  refine ⟨U, ?_, .threw T.heap.size, hrun, hend, Or.inr ⟨T.heap.size, rfl, cls, ce, locs, hx U hWs.alike f1 (fun q hq => f2 q hq (fun z hz => nomatch hz)), hce, hO.vm, hcl, hWs, hall, hf⟩⟩
  refine st1 _ ?_
  show Steps p.tables e below (T1.setTop { method := m, pc := pc + 3, locals := ls, stack := .ref T.heap.size :: rest, locked := none }) _
  jvm_step X₁.here [X₁.here.top, hexec, d3', Value.category]
  exact X₁.ldcString hexec (own := own) (text := text) (index := is) (a := sa) hown' hstr'.1 hstr'.2
    (g := { method := m, pc := pc + 4, locals := ls, stack := .ref T.heap.size :: .ref T.heap.size :: rest, locked := none }) rfl d4' _ hsteps
/-- 'throw new E("text")', the text by a wide index -/
theorem vx_throwSW {cc : ByteArray} {pc : Nat} (hexec : p.tables.exec = Jvm.exec) (hb : c.code = cc) (hl : l.stackTraces = false) {own cls text : String} {names : List String} {ik is ic mc ms sa : Nat} {A : Nat → Prop}
    (hown : s.vm.findClass own = some m.cls) (hcls : Bundle.fit cls = true) (hnames : ∀ n ∈ names, Bundle.fit n = true)
    (hk : (Cond.classLink own ik cls).before args s = true) (hini : (Cond.initialized cls).before args s = true) (hstr : vk_R own is text sa s) (hat : ∀ w ∈ vx_atS own ic cls names, w.before args s = true)
    (hgood : ∀ w ∈ Cond.classLink own ik cls :: Cond.initialized cls :: vx_atS own ic cls names, vx_ot w = true)
    (hU : vx_Zq Bundle.tN "UNASSIGNED_STACK" Bundle.steD A s s.heap) (hN : vx_Zq Bundle.tN "SUPPRESSED_SENTINEL" Bundle.listD A s s.heap) (hS : va_S A s.heap H locs) (hsize : ls.size = c.maxLocals)
    (d0 : decode cc pc = .ok (.new ik, 3)) (d3 : decode cc (pc + 3) = .ok (.dup, 1)) (d4 : decode cc (pc + 4) = .ok (.ldc_w is, 3)) (d7 : decode cc (pc + 7) = .ok (.invokespecial ic, 3)) (d10 : decode cc (pc + 10) = .ok (.athrow, 1))
    (hout : ∀ x ∈ c.exceptionTable.toList, covers x (pc + 10) = false)
    (hRframes : names.length + 3 < R.frames) (hRlocals : (rest.map fun v => v.category).sum + (13 * (names.length + 1) + 43) ≤ R.locals) (hRcells : cells + 1 ≤ R.cells) (hRslots : slots + 6 ≤ R.slots) (hlocks : meth.locks = false)
    (hx : ∀ t : State, s.vm.Alike t.vm → H.size ≤ t.heap.size → (∀ q : Nat, q < H.size → t.heap[q]? = H[q]?) → XC cls s t)
    (hf : ∀ z ∈ locs, free z.base) (hc : cells + 1 ≤ mc) (hs : slots + 6 ≤ ms) :
    W p l e R s m args below meth c H locs cells slots (vx_MQ below Qc XC args s mc ms free) (F0 m pc ls rest) := by
  intro T hT X
  have htr : e.platform.stackTraces = false := (show e.platform.stackTraces = l.stackTraces by rw [X.admits.platform]).trans hl
  have Y := vx_rebase X (R' := { frames := R.frames, locals := R.locals, cells := 1, slots := 6 }) (Nat.le_refl _) (Nat.le_refl _) hRcells hRslots
  obtain ⟨s', hA⟩ : ∃ z, z = (T.setVm s.vm).setFrames (.invoking m args :: below) := ⟨_, rfl⟩
  rw [← hA] at Y
  have hvm : s'.vm = s.vm := by rw [hA]; rfl
  have hhp : s'.heap = H := by rw [hA]; exact hT
  have hW0 : s.WarmedH s'.vm := by rw [hvm]; exact State.WarmedH.refl s
  have hat' : ∀ w ∈ vx_atS own ic cls names, w.before args s' = true := fun w hw => vx_ot_at hW0 hvm.symm (hgood w (List.mem_cons_of_mem _ (List.mem_cons_of_mem _ hw))) (hat w hw)
  have hk' : (Cond.classLink own ik cls).before args s' = true := vx_ot_at hW0 hvm.symm (hgood _ List.mem_cons_self) hk
  have hini' : (Cond.initialized cls).before args s' = true := vx_ot_at hW0 hvm.symm (hgood _ (List.mem_cons_of_mem _ List.mem_cons_self)) hini
  have hU' : vx_Zq Bundle.tN "UNASSIGNED_STACK" Bundle.steD A s' s'.heap := by rw [hhp]; exact vx_Zq.moved hW0.alike (hU.kept hS.2.1)
  have hN' : vx_Zq Bundle.tN "SUPPRESSED_SENTINEL" Bundle.listD A s' s'.heap := by rw [hhp]; exact vx_Zq.moved hW0.alike (hN.kept hS.2.1)
  have h : ∀ w ∈ Bundle.ownAtoms own ic cls names, w.before args s' = true := vx_own hat' (vx_isRefq hU'.1) (vx_isRefq hN'.1) hU'.2.word hN'.2.word
  have hown' : s'.vm.findClass own = some m.cls := by rw [hvm]; exact hown
  have hins : (Cond.instantiable cls 6).before args s' = true := h _ (by simp [Bundle.ownAtoms])
  obtain ⟨vm₁, cX, kX, hfX, hkX, -, -, X₁, st1⟩ := Y.newCold hexec (own := own) (C := cls) (index := ik) (n := 6) hown' hk' hins hini'
    (g := F0 m pc ls rest) rfl (by rw [hb]; exact d0) (Nat.le_refl _) (Nat.le_refl _)
  generalize hT1 : (T.setVm vm₁).pushCell { cls := cX, slots := kX.instanceTypes.map defaultValue, vm := .none } = T1 at X₁ st1
  have hcat : (Value.ref T.heap.size).category = 1 := rfl
  have hcellA : T1.heap[T.heap.size]? = some (freshCell cX kX) := by rw [← hT1]; exact State.heap_pushCell_size _ _
  have d3' : decode c.code (pc + 3) = .ok (.dup, 1) := by rw [hb]; exact d3
  have d4' : decode c.code (pc + 4) = .ok (.ldc_w is, 3) := by rw [hb]; exact d4
  have hstr' : vk_R own is text sa s' := vk_R.warm hW0 hstr
  obtain ⟨U, hsteps, hrun, hend, hW, hsame, ce, hce, hO⟩ := X₁.ctorThrowS hexec htr (own := own) (cls := cls) (names := names) (ic := ic) hown' hcls hnames h (fun x hx => nomatch hx) hfX hkX hcellA (by rw [hhp, hT]; exact Nat.le_refl _) (msg := .ref sa) rfl
    (g := { method := m, pc := pc + 7, locals := ls, stack := .ref sa :: .ref T.heap.size :: .ref T.heap.size :: rest, locked := none }) rfl hsize rfl rfl (rest := rest) rfl
    (by rw [hb]; exact d7) (by rw [hb]; exact d10) hout hRframes (by simp only [List.map_cons, List.sum_cons, hcat]; omega) hlocks
  obtain ⟨f1, f2⟩ := vx_frame hsame
  rw [hhp] at f1 f2
  have hWs : s.WarmedH U.vm := State.WarmedH.trans hW0 hW
  have hcl : s.vm.findClass cls = some ce.cls := by
    have h9 := hO.cls
    rw [hvm] at h9
    exact h9
  have hall : s.sameButNew ({ U with vm := s.vm } : State) locs mc ms := by
    subst hA
    obtain ⟨e1, e2⟩ := hsame
    rw [State.setFrames_setFrames] at e1
    have h2 : (T.setVm s.vm).sameButNew ({ U with vm := s.vm } : State) [] (0 + 1) (0 + 6) := ⟨e1, e2⟩
    have h3 := X.same.trans h2
    rw [List.append_nil] at h3
    exact h3.mono hc hs
  refine ⟨U, ?_, .threw T.heap.size, hrun, hend, Or.inr ⟨T.heap.size, rfl, cls, ce, locs, hx U hWs.alike f1 (fun q hq => f2 q hq (fun z hz => nomatch hz)), hce, hO.vm, hcl, hWs, hall, hf⟩⟩
  refine st1 _ ?_
  show Steps p.tables e below (T1.setTop { method := m, pc := pc + 3, locals := ls, stack := .ref T.heap.size :: rest, locked := none }) _
  jvm_step X₁.here [X₁.here.top, hexec, d3', Value.category]
  exact X₁.ldcStringW hexec (own := own) (text := text) (index := is) (a := sa) hown' hstr'.1 hstr'.2
    (g := { method := m, pc := pc + 4, locals := ls, stack := .ref T.heap.size :: .ref T.heap.size :: rest, locked := none }) rfl d4' _ hsteps
end Ends
section Bodies
variable {l : Launch}
theorem vx_ofW {y : MethodName} {ws ws' : List Cond} {rm : Room} {Pc : Array Value → State → Prop} {Qc : Array Value → State → Outcome → State → Prop} {XC : String → State → State → Prop} {mc ms : Nat} {free : Addr → Prop} {cc : ByteArray} {maxL : Nat} {ret : Option FieldType}
    (hy : plainName y.cls = true) (hw : ws = Cond.code y cc maxL ret :: ws')
    (body : ∀ p e s m args below meth c s₁, BodyLoose p l y (headSpec ws rm) cc maxL ret e s m args below meth c s₁ → c.maxLocals = maxL → (∀ x ∈ c.exceptionTable.toList, False) → Pc args s →
      W p l e (headSpec ws rm).room s m args below meth c s.heap [] 0 0 (vx_MQ below Qc XC args s mc ms free) (entryFrame m args maxL)) : vx_Met l y ws rm Pc Qc XC mc ms free := by
  refine MetFree.of_bodyS (code := cc) (maxLocals := maxL) (ret := ret) hy ?_ ?_
  · intro args s m h hn
    obtain ⟨meth, c, h1, h2, h3, h4, h5, h6, -, -⟩ := Cond.code_spec hn (atoms_spec (ws := ws) h _ (by rw [hw]; exact List.mem_cons_self))
    exact ⟨meth, c, h1, h2, h3, h4, h5, h6⟩
  · intro p e s m args below meth c s₁ B hml hP _
    have hh0 : s₁.heap = s.heap := by rw [B.state]; rfl
    have ht : ∀ x ∈ c.exceptionTable.toList, False := by
      obtain ⟨meth9, c9, h1, h2, -, -, -, -, h7, -⟩ := Cond.code_spec B.named (atoms_spec (ws := ws) B.pre _ (by rw [hw]; exact List.mem_cons_self))
      cases Option.some.inj (h1.symm.trans B.method)
      cases Option.some.inj (h2.symm.trans (Stand.of_body B).code)
      intro x hx
      rw [Array.isEmpty_iff.mp h7] at hx
      cases hx
    obtain ⟨t, a1, o, b1, b2, b3⟩ := body p e s m args below meth c s₁ B hml ht hP s₁ hh0 (Stand.of_body B)
    exact ⟨t, o, a1, b1, b2, b3⟩
/-- the table of a body with handlers -/
theorem vx_table {p : Program} {x y : MethodName} {S : Spec} {cc bytes : ByteArray} {maxL maxL' : Nat} {ret ret' : Option FieldType} {e : Env} {s s₁ : State} {m : MethodId} {args : Array Value} {below : List Frame} {meth : Method} {c : Code} {hh : List (Nat × Nat × Nat × Nat)}
    (B : BodyLoose p l y S cc maxL ret e s m args below meth c s₁) (h : (Cond.codeWith y bytes maxL' ret' hh).before args s = true) : c.exceptionTable.toList = tableOf hh := by
  obtain ⟨m9, meth9, c9, hn9, h1, h2, -, -, h6, -⟩ := Cond.codeWith_spec h
  cases Option.some.inj (hn9.symm.trans B.named)
  cases Option.some.inj (h1.symm.trans B.method)
  cases Option.some.inj (h2.symm.trans (Stand.of_body B).code)
  rw [← h6, table_eq]
end Bodies
end VXA
/-! ===== END ===== -/
/-! ===== BEGIN a static call of a method with an exception table ===== -/
section VXS
variable {p : Program} {l : Launch} {e : Env} {R : Room} {s : State} {m : MethodId} {args : Array Value} {below : List Frame} {meth : Method} {c : Code} {T : State} {H : Heap} {locs : List Loc} {cells slots : Nat}
abbrev vx_CSW (R : Room) (s : State) (args : Array Value) (own : String) (index : Nat) (y : MethodName) (bytes : ByteArray) (maxL : Nat) (ret : Option FieldType) (hh : List (Nat × Nat × Nat × Nat)) (ws : List Cond) (rm : Room) (mc ms n : Nat) : Prop :=
  (rm.cells = mc ∧ rm.slots = ms ∧ rm.frames + 1 ≤ R.frames ∧ 8 + (maxL + 11) + rm.locals ≤ R.locals ∧ (∀ w ∈ ws, ∀ (a' : Array Value) (U : State), s.WarmedH U.vm → w.before a' U = true) ∧ Cond.codeWith y bytes maxL ret hh ∈ ws) ∧
  (Cond.codeWith y bytes maxL ret hh).before args s = true ∧ (Cond.initialized y.cls).before args s = true ∧ (y.cls ≠ "java/lang/invoke/MethodHandle" ∧ y.cls ≠ "java/lang/invoke/VarHandle") ∧
  (∀ sig, parseMethodDescriptor y.desc = some sig → n = sig.parameters.length) ∧ (Cond.methodLink own index y).before args s = true ∧ (Cond.static y).before args s = true
theorem vx_cwSW {own : String} {index maxL mc ms : Nat} {y : MethodName} {bytes : ByteArray} {ret : Option FieldType} {hh : List (Nat × Nat × Nat × Nat)} {Ts ws ws' : List Cond} {rm : Room} (n : Nat) (ht : ∀ w ∈ Ts, w.before args s = true) (hT : GoodIn Ts (va_wsS own index y ws)) (hw : ws = Cond.codeWith y bytes maxL ret hh :: ws') (hrc : rm.cells = mc) (hrs : rm.slots = ms)
    (hd : y.cls ≠ "java/lang/invoke/MethodHandle" ∧ y.cls ≠ "java/lang/invoke/VarHandle" ∧ (parseMethodDescriptor y.desc).map (fun d => d.parameters.length) = some n) (hR : rm.frames + 1 ≤ R.frames ∧ 8 + (maxL + 11) + rm.locals ≤ R.locals) :
    vx_CSW R s args own index y bytes maxL ret hh ws rm mc ms n := by
  have ok : ∀ w ∈ va_wsS own index y ws, w.before args s = true := fun w h => ht w (hT w h).1
  have hG : GoodIn Ts ws := fun w h => hT w (by unfold va_wsS; exact List.mem_append_right _ h)
  have hc : Cond.codeWith y bytes maxL ret hh ∈ ws := by rw [hw]; exact List.mem_cons_self
  refine ⟨⟨hrc, hrs, hR.1, hR.2, pay_in ht hG, hc⟩, ht _ (hG _ hc).1, ok _ (by simp [va_wsS]), ⟨hd.1, hd.2.1⟩, fun sig h => ?_, ok _ (by simp [va_wsS]), ok _ (by simp [va_wsS])⟩
  have h2 := hd.2.2
  rw [h] at h2
  exact (Option.some.inj h2).symm
theorem vx_callSW (X : Stand p l e R s m args below meth c T locs cells slots) (hexec : p.tables.exec = Jvm.exec) {own : String} {index : Nat} {y : MethodName} {bytes : ByteArray} {maxL : Nat} {ret : Option FieldType} {hh : List (Nat × Nat × Nat × Nat)}
    (hown : s.vm.findClass own = some m.cls) (hlink : (Cond.methodLink own index y).before args s = true) (hstat : (Cond.static y).before args s = true) (hinit : (Cond.initialized y.cls).before args s = true)
    (hcode : (Cond.codeWith y bytes maxL ret hh).before args s = true) (hy : y.cls ≠ "java/lang/invoke/MethodHandle" ∧ y.cls ≠ "java/lang/invoke/VarHandle")
    {W9 : Nat} {Pre : Pt → Array Value → Prop} {Post : Pt → Array Value → Option Value → Pt → Prop} (hK : Back l R p e below s args y 3 W9 Pre Post)
    {g : JFrame} (hg : g.method = m) (hsize : g.locals.size = c.maxLocals) {argsL rest : List Value} (hlen : ∀ sig, parseMethodDescriptor y.desc = some sig → argsL.length = sig.parameters.length)
    (hstack : g.stack = argsL.reverse ++ rest) (hW : 2 * g.monitorRoom + (rest.map fun v => v.category).sum ≤ W9) (hdg : decode c.code g.pc = .ok (.invokestatic index, 3))
    (hpre : ∀ vm₁, s.WarmedH vm₁ → Pre ⟨T.setVm vm₁, locs, cells, slots⟩ argsL.toArray) :
    ∃ (v : Option Value) (vm₁ : Vm) (B : Pt), s.WarmedH vm₁ ∧ Stand p l e R s m args below meth c B.U B.locs B.cells B.slots ∧ Post ⟨T.setVm vm₁, locs, cells, slots⟩ argsL.toArray v B ∧
      ∀ target, Steps p.tables e below (B.U.setTop { g with pc := g.pc + 3, stack := v.toList ++ rest }) target → Steps p.tables e below (T.setTop g) target := by
  obtain ⟨mk, methM, cM, hnamed, hmethM, -, -, -, -, -, -, hsigM⟩ := Cond.codeWith_spec hcode
  have hstatic : methM.isStatic = true := Cond.static_spec hnamed hmethM hstat
  obtain ⟨kP, hkP, -⟩ := className_of_methodNamed hnamed
  have hinitP : kP.init = .initialized := Cond.initialized_spec (findClass_of_methodNamed hnamed) hkP hinit
  obtain ⟨vm₁, X₁, hstep₁⟩ := X.invokestatic hexec hown hlink hnamed hmethM hstatic hkP hinitP hy (g := g) hg (argsL := argsL) (rest := rest) (hlen _ hsigM) hstack hdg
  obtain ⟨v, B, X', hpost, hsteps⟩ := hK m meth c ⟨T.setVm vm₁, locs, cells, slots⟩ { g with stack := rest } (.invokestatic index) mk argsL.toArray X₁ hg hsize hdg hW (X₁.named hnamed) (hpre vm₁ X₁.warmed)
  exact ⟨v, vm₁, B, X₁.warmed, X', hpost, fun target h => hstep₁ _ fun acts => by rw [doInvoke_state]; exact hsteps.trans h⟩
theorem vx_runSW {y : MethodName} {bytes cc : ByteArray} {maxL nL mc ms n index : Nat} {ret : Option FieldType} {hh : List (Nat × Nat × Nat × Nat)} {ws : List Cond} {rm : Room} {Pc : Array Value → State → Prop} {Qc : Array Value → State → Outcome → State → Prop} {free : Addr → Prop} {Ts : List Cond} {own : String} {As rest : List Value} {g : JFrame}
    (S : CallFix p m c cc nL s args Ts own) (hM : Met l y ws rm Pc Qc mc ms free) (cw : vx_CSW R s args own index y bytes maxL ret hh ws rm mc ms n) (hp : PreS s H Pc As)
    (hg : g.method = m) (hn : As.length = n) (hsize : g.locals.size = nL) (hstack : g.stack = As.reverse ++ rest) (hW : 2 * g.monitorRoom + (rest.map fun v => v.category).sum ≤ 8) (hdg : decode cc g.pc = .ok (.invokestatic index, 3)) (hf : cells + mc ≤ R.cells ∧ slots + ms ≤ R.slots) :
    va_Run p l e R s m args below meth c H locs cells slots mc ms g rest (Qc As.toArray) (free) := by
  obtain ⟨⟨hrc, hrs, hfr, hlo, hws, hcw⟩, hcode, hini, hy, hlen, hl, hstt⟩ := cw
  have hK : Back l R p e below s args y 3 8 (PreOf R mc ms Pc) (PostOf Qc mc ms free) := va_backW (hh := hh) (bytes := bytes) (maxL := maxL) (ret := ret) hM hp.1 hrc hrs hfr hlo hws hcw (fun a' U hW => word_at hW (Or.inl (by first | rfl | simp [Cond.onTables, Cond.keeps, Cond.steady])) hini)
  obtain ⟨hx, hb, hml, ho, -⟩ := S
  intro T hT X
  obtain ⟨v, vm₁, ⟨U', l2, c2, s2⟩, hW₁, X', ⟨g', mk, t, L, e1, e2, hq, h1, hL, h2, h3⟩, st⟩ := vx_callSW X hx (hh := hh) (bytes := bytes) (maxL := maxL) (ret := ret) ho hl hstt hini hcode hy hK hg (hsize.trans hml.symm) (argsL := As) (rest := rest) (fun sig h => hn.trans (hlen sig h)) hstack hW (by rw [hb]; exact hdg)
    (fun vm₁ hW₁ => ⟨hf.1, hf.2, hp.2 (T.setVm vm₁) hT hW₁⟩)
  dsimp only [Pt.U, Pt.locs, Pt.cells, Pt.slots] at X' e1 e2 h1 h2 h3 st
  subst h1; subst h2; subst h3
  exact ⟨v, (T.setVm vm₁).calling g' mk As.toArray, t, U', L, hT, X', hL, e1, e2, hq, st⟩
/-- not caught here, past rows that name other classes: it goes on to the caller -/
theorem vx_outP {p : Program} {l : Launch} {e : Env} {R : Room} {s : State} {m : MethodId} {args : Array Value} {below : List Frame} {meth : Method} {c : Code} {H : Heap} {locs : List Loc} {cells slots : Nat} {free : Addr → Prop} {ls : Array Slot} {rest : List Value} {Qc : Array Value → State → Outcome → State → Prop} {XC : String → State → State → Prop}
    {pc : Nat} {own E : String} {ce : Cell} {q : Addr} {mc ms : Nat} (hown : s.vm.findClass own = some m.cls) (hlocks : meth.locks = false)
    (hpass : ∀ z ∈ c.exceptionTable.toList, covers z pc = false ∨ (z.catchType ≠ 0 ∧ ∃ nm : String, (Cond.classLink own z.catchType nm).before args s = true ∧ va_Nc E nm s)) (hcell : H[q]? = some ce) (hv : ce.vm = .none) (hcl : s.vm.findClass E = some ce.cls)
    (hx : ∀ t : State, t.heap = H → s.vm.Alike t.vm → XC E s t) (hf : ∀ z ∈ locs, free z.base) (hc : cells ≤ mc) (hs : slots ≤ ms) :
    vx_W p l e R s m args below meth c H locs cells slots (vx_MQ below Qc XC args s mc ms free) (F0 m pc ls rest) q := by
  intro T hT X
  have hpl : e.platform.magicAccessors = ({} : Platform).magicAccessors := by rw [X.admits.platform]
  obtain ⟨vm', hW', X', st⟩ := X.outThrough hlocks q (g := F0 m pc ls rest) rfl rfl rfl (cell := ce) (by rw [hT]; exact hcell) (by rw [hv]; rfl)
    (by obtain ⟨k9, h9, -⟩ := Vm.findClass_spec hcl; exact ⟨k9, h9⟩) (fun z hz => by
      rcases hpass z hz with h | ⟨hz0, nm, hl1, hn1⟩
      · exact Or.inl h
      · obtain ⟨c6, hc6, hcl6⟩ := Cond.classLink_spec hown hl1 e.platform hpl
        obtain ⟨a8, b8, h1, h2, h3⟩ := hn1
        cases Option.some.inj (h1.symm.trans hcl)
        cases Option.some.inj (h2.symm.trans hc6)
        exact Or.inr ⟨hz0, _, hcl6, h3⟩)
  obtain ⟨g₀, hfr⟩ := X'.frames_eq
  have hcell9 : ((T.setVm vm').setFrames (.throwing q :: below)).heap[q]? = some ce := by
    show T.heap[q]? = some ce
    rw [hT]; exact hcell
  have hend : Ended ((T.setVm vm').setFrames (.throwing q :: below)) below (.threw q) := State.frames_setFrames _ (State.cur_lt_of_frames hfr)
  refine ⟨(T.setVm vm').setFrames (.throwing q :: below), ?_, .threw q, X'.here.running, hend, Or.inr ⟨q, rfl, E, ce, locs, hx _ hT (X'.ends _).1.alike, hcell9, hv, hcl, (X'.ends _).1, (X'.ends _).2.mono hc hs, hf⟩⟩
  rw [X.pushThrowing_eq]
  exact st
/-- a thing of a world lies in the heap -/
theorem vx_lt {D : va_G} {cl : List vw_C} {ws : va_W} {H1 : Heap} (h : va_P D cl ws H1) {k : Nat} {q : Nat × va_E} (hk : ws[k]? = some q) : q.1 < H1.size := (h k q hk).lt
end VXS
/-! ===== END ===== -/
/-! ===== BEGIN methods with a table of their own: called by a name, returning or throwing ===== -/
section VXH
/-! vx_backW, vx_callVX, vx_callSX, vx_callVW, vx_runVW, vx_runVX, vx_runSX, vx_ofWH follow the same proofs as their sisters above (Free/Laws.lean, Shelf42/LK1.lean); vx_outP calls Shelf42/NT130.lean (outThrough). -/
section
variable {l : Launch} {R : Room} {p : Program} {e : Env} {below : List Frame} {s : State} {sargs : Array Value} {y : MethodName} {len W9 : Nat}
theorem vx_backW {ws : List Cond} {rm : Room} {Pc : Array Value → State → Prop} {Qc : Array Value → State → Outcome → State → Prop} {XC : String → State → State → Prop} {mc ms : Nat} {free : Addr → Prop} {bytes : ByteArray} {maxL : Nat} {ret : Option FieldType} {hh : List (Nat × Nat × Nat × Nat)}
    (hM : vx_Met l y ws rm Pc Qc XC mc ms free) (hblind : FrameBlind Pc) (hrc : rm.cells = mc) (hrs : rm.slots = ms)
    (hframes : rm.frames + 1 ≤ R.frames) (hlocals : W9 + (maxL + 11) + rm.locals ≤ R.locals)
    (hws : ∀ w ∈ ws, ∀ a' U, s.WarmedH U.vm → w.before a' U = true) (hcode : Cond.codeWith y bytes maxL ret hh ∈ ws) (hinit : ∀ a' U, s.WarmedH U.vm → (Cond.initialized y.cls).before a' U = true) :
    vx_Back l R p e below s sargs y len W9 (PreOf R mc ms Pc) (PostOf Qc mc ms free) (vx_Post XC mc ms free) := by
  intro m meth c A g ig mk a X hg hsize hdg hW hn hp
  have h1 : (headSpec ws rm).pre.before a A.U = true := atoms_intro fun w hw => hws w hw _ _ X.warmed
  have h2 : (Cond.codeWith y bytes maxL ret hh).before a A.U = true := hws _ hcode _ _ X.warmed
  have h3 : (Cond.initialized y.cls).before a A.U = true := hinit _ _ X.warmed
  have h4 : A.cells + (headSpec ws rm).room.cells ≤ R.cells := by rw [show (headSpec ws rm).room.cells = mc from hrc]; exact hp.1
  have h5 : A.slots + (headSpec ws rm).room.slots ≤ R.slots := by rw [show (headSpec ws rm).room.slots = ms from hrs]; exact hp.2.1
  have hPc : Pc a (A.U.calling g mk a) := hblind _ _ _ _ hp.2.2
  obtain ⟨U, Ls, c0, s0⟩ := A
  dsimp only [Pt.U, Pt.locs, Pt.cells, Pt.slots] at h1 h2 h3 h4 h5 X hn hPc ⊢
  obtain ⟨m9, methY, cY, hn9, hmY, hcY, -, hlY, -⟩ := Cond.codeWith_spec h2
  cases Option.some.inj (hn9.symm.trans hn)
  obtain ⟨kY, hkY, -⟩ := className_of_methodNamed hn
  have hinitY : kY.init = .initialized := Cond.initialized_spec (findClass_of_methodNamed hn) hkY h3
  have h : At U g.method c below := by rw [hg]; exact X.here
  have hlocals9 : W9 + (maxL + 11) + (headSpec ws rm).room.locals ≤ R.locals := hlocals
  have happ : (headSpec ws rm).appliesLoose y e.platform (U.calling g mk a) = true :=
    Spec.appliesLoose_calling (g := g) h hdg hn hkY hinitY
      (X.room_calling (g := g) (R' := (headSpec ws rm).room) hsize hmY hcY hframes (by rw [hlY]; omega) h4 h5) h1
  obtain ⟨mid, hmid⟩ := h.above
  have hfr : (U.setTop g).frames = (.java g :: mid) ++ below := by rw [State.frames_setTop' g h.top, hmid]; rfl
  obtain ⟨o, s₂, hsteps, -, hend, hq⟩ := Steps.callFree hM p X.admits X.cas X.clock (acts := []) hfr happ hPc trivial
  have hq' : vx_Q Qc XC mc ms free a (U.calling g mk a) o s₂ := hq
  rw [State.frames_setTop' g h.top] at hend
  obtain ⟨g₀, hg0⟩ := Option.isSome_iff_exists.mp h.top
  obtain ⟨r, hr⟩ := State.topJava?_eq_some.mp hg0
  have hr' : (({ U with heap := s₂.heap, slotsUsed := s₂.slotsUsed } : State).setVm s₂.vm).frames = .java g₀ :: r := hr
  rcases hq' with ⟨hqc, L, hfe, hL⟩ | ⟨q, rfl, E, ce, L, hx, hce, hcv, hcl, hW₂, hsm, hL⟩
  · obtain ⟨⟨v, rfl⟩, hW₂, e2, q2, q3, q4, q5, q6⟩ := id hfe
    have e3 : s₂ = ({ (U.calling g mk a).setFrames s₂.frames with heap := s₂.heap, slotsUsed := s₂.slotsUsed } : State).setVm s₂.vm := by
      have : s₂ = ({ s₂ with vm := (U.calling g mk a).vm } : State).setVm s₂.vm := rfl
      rw [e2] at this
      exact this
    obtain ⟨c₂, i₂, len₂, hc₂, hd₂, hf₂⟩ := hend
    have hW' : U.WarmedH s₂.vm := hW₂
    have hcc : c₂ = c := by
      have h1 : s₂.code? g.method = U.code? g.method := by
        rw [State.code?_eq, State.code?_eq, hW'.alike.method?]
      exact Option.some.inj (hc₂.symm.trans (h1.trans h.code))
    subst hcc
    have hlen : len₂ = len := by rw [hdg] at hd₂; cases hd₂; rfl
    subst hlen
    have hs₂ : s₂ = (({ U with heap := s₂.heap, slotsUsed := s₂.slotsUsed } : State).setVm s₂.vm).setTop { g with pc := g.pc + len₂, stack := v.toList ++ g.stack } := by
      refine e3.trans ?_
      rw [hf₂, State.calling_eq h.top, State.setFrames_setFrames, State.setTop_of_frames _ hr', hr]
      rfl
    have hsame : U.sameButNew ({ U with heap := s₂.heap, slotsUsed := s₂.slotsUsed } : State) L mc ms := by
      refine ⟨?_, q2, q3, q4, q5, q6⟩
      obtain ⟨t, ht, -⟩ := State.frames_cons hr
      show ({ U with heap := s₂.heap, slotsUsed := s₂.slotsUsed } : State) = { U.setFrames U.frames with heap := s₂.heap, slotsUsed := s₂.slotsUsed }
      rw [State.setFrames_self ht]
    subst hg
    refine Or.inl ⟨v, ⟨(({ U with heap := s₂.heap, slotsUsed := s₂.slotsUsed } : State).setVm s₂.vm), Ls ++ L, c0 + mc, s0 + ms⟩,
      ⟨X.admits, X.cas, X.clock, X.frames, X.room, X.hears, X.method, X.code, (X.here.setHeapUsed s₂.heap s₂.slotsUsed).setVm hW'.alike, X.tail, State.WarmedH.trans X.warmed hW', X.limits, X.bytes, X.same.trans (hsame.setVm s.vm)⟩,
      ⟨g, mk, s₂, L, rfl, rfl, hqc, rfl, hL, rfl, rfl⟩, ?_⟩
    show Steps p.tables e below _ ((({ U with heap := s₂.heap, slotsUsed := s₂.slotsUsed } : State).setVm s₂.vm).setTop { g with pc := g.pc + len₂, stack := v.toList ++ g.stack })
    rw [← hs₂]
    exact hsteps
  · obtain ⟨e2, q2, q3, q4, q5, q6⟩ := id hsm
    have e3 : s₂ = ({ (U.calling g mk a).setFrames s₂.frames with heap := s₂.heap, slotsUsed := s₂.slotsUsed } : State).setVm s₂.vm := by
      have : s₂ = ({ s₂ with vm := (U.calling g mk a).vm } : State).setVm s₂.vm := rfl
      rw [e2] at this
      exact this
    have hf₂ : s₂.frames = .throwing q :: .java g :: U.frames.tail := hend
    have hW' : U.WarmedH s₂.vm := hW₂
    have hs₂ : s₂ = ((({ U with heap := s₂.heap, slotsUsed := s₂.slotsUsed } : State).setVm s₂.vm).setTop g).pushFrame (.throwing q) := by
      refine e3.trans ?_
      rw [hf₂, State.calling_eq h.top, State.setFrames_setFrames, State.pushFrame, State.frames_setTop _ hr', State.setTop_of_frames _ hr', State.setFrames_setFrames, hr]
      rfl
    have hsame : U.sameButNew ({ U with heap := s₂.heap, slotsUsed := s₂.slotsUsed } : State) L mc ms := by
      refine ⟨?_, q2, q3, q4, q5, q6⟩
      obtain ⟨t, ht, -⟩ := State.frames_cons hr
      show ({ U with heap := s₂.heap, slotsUsed := s₂.slotsUsed } : State) = { U.setFrames U.frames with heap := s₂.heap, slotsUsed := s₂.slotsUsed }
      rw [State.setFrames_self ht]
    subst hg
    refine Or.inr ⟨q, ⟨(({ U with heap := s₂.heap, slotsUsed := s₂.slotsUsed } : State).setVm s₂.vm), Ls ++ L, c0 + mc, s0 + ms⟩,
      ⟨X.admits, X.cas, X.clock, X.frames, X.room, X.hears, X.method, X.code, (X.here.setHeapUsed s₂.heap s₂.slotsUsed).setVm hW'.alike, X.tail, State.WarmedH.trans X.warmed hW', X.limits, X.bytes, X.same.trans (hsame.setVm s.vm)⟩,
      ⟨g, mk, s₂, L, E, ce, rfl, rfl, hx, hce, hcv, hcl, rfl, hL, rfl, rfl⟩, ?_⟩
    show Steps p.tables e below _ (((({ U with heap := s₂.heap, slotsUsed := s₂.slotsUsed } : State).setVm s₂.vm).setTop g).pushFrame (.throwing q))
    rw [← hs₂]
    exact hsteps
end
variable {p : Program} {l : Launch} {e : Env} {R : Room} {s : State} {m : MethodId} {args : Array Value} {below : List Frame} {meth : Method} {c : Code} {T : State} {H : Heap} {locs : List Loc} {cells slots : Nat}
theorem vx_callVX (X : Stand p l e R s m args below meth c T locs cells slots) (hexec : p.tables.exec = Jvm.exec) {own C : String} {index : Nat} {y : MethodName} {bytes : ByteArray} {maxL : Nat} {ret : Option FieldType} {hh : List (Nat × Nat × Nat × Nat)}
    (hown : s.vm.findClass own = some m.cls) (hlink : (Cond.methodLink own index y).before args s = true) (hinst : (Cond.instanceMethod y).before args s = true) (hsel : (Cond.selects C y y).before args s = true)
    (hcode : (Cond.codeWith y bytes maxL ret hh).before args s = true) (hy : y.cls ≠ "java/lang/invoke/MethodHandle" ∧ y.cls ≠ "java/lang/invoke/VarHandle")
    {W9 : Nat} {Pre : Pt → Array Value → Prop} {Post : Pt → Array Value → Option Value → Pt → Prop} {PostX : Pt → Array Value → Addr → Pt → Prop} (hK : vx_Back l R p e below s args y 3 W9 Pre Post PostX)
    {b : Addr} {cellB : Cell} (hcell : T.heap[b]? = some cellB) (hobj : cellB.vm.isStatics = false) (hcls : s.vm.findClass C = some cellB.cls)
    {g : JFrame} (hg : g.method = m) (hsize : g.locals.size = c.maxLocals) {argsL rest : List Value} (hlen : ∀ sig, parseMethodDescriptor y.desc = some sig → argsL.length = sig.parameters.length)
    (hstack : g.stack = argsL.reverse ++ .ref b :: rest) (hW : 2 * g.monitorRoom + (rest.map fun v => v.category).sum ≤ W9) (hdg : decode c.code g.pc = .ok (.invokevirtual index, 3))
    (hpre : ∀ vm₁, s.WarmedH vm₁ → Pre ⟨T.setVm vm₁, locs, cells, slots⟩ (Value.ref b :: argsL).toArray) :
    (∃ (v : Option Value) (vm₁ : Vm) (B : Pt), s.WarmedH vm₁ ∧ Stand p l e R s m args below meth c B.U B.locs B.cells B.slots ∧ Post ⟨T.setVm vm₁, locs, cells, slots⟩ (Value.ref b :: argsL).toArray v B ∧
      ∀ target, Steps p.tables e below (B.U.setTop { g with pc := g.pc + 3, stack := v.toList ++ rest }) target → Steps p.tables e below (T.setTop g) target) ∨
    (∃ (q : Addr) (vm₁ : Vm) (B : Pt), s.WarmedH vm₁ ∧ Stand p l e R s m args below meth c B.U B.locs B.cells B.slots ∧ PostX ⟨T.setVm vm₁, locs, cells, slots⟩ (Value.ref b :: argsL).toArray q B ∧
      Steps p.tables e below (T.setTop g) ((B.U.setTop { g with stack := rest }).pushFrame (.throwing q))) := by
  obtain ⟨mk, methM, hnamed, hmethM, hstM, habM⟩ := Cond.instanceMethod_spec hinst
  obtain ⟨m8, methM', cM, hn8, hmethM', -, -, -, -, -, -, hsigM⟩ := Cond.codeWith_spec hcode
  cases Option.some.inj (hn8.symm.trans hnamed)
  cases hmethM.symm.trans hmethM'
  obtain ⟨c2, r2, m2, q1, q2, q3, q4, kP, hkP, hkPi⟩ := Cond.selects_spec hsel
  cases hcls.symm.trans q1
  cases (State.methodFound?_of_named hnamed hy).symm.trans q2
  cases hnamed.symm.trans q3
  have hselP : selectMethod e.platform s.vm cellB.cls mk = .method mk := by rw [Launch.admits_selectMethod X.admits]; exact q4
  obtain ⟨vm₁, X₁, hstep₁⟩ := X.invokevirtual hexec hown hlink hnamed hmethM hstM hkP hkPi hy (a := b) (cell := cellB) hcell
    (fun z h => by rw [h] at hobj; cases hobj) hselP hmethM habM hkP hkPi (g := g) hg (argsL := argsL) (rest := rest) (hlen _ hsigM) hstack hdg
  rcases hK m meth c ⟨T.setVm vm₁, locs, cells, slots⟩ { g with stack := rest } (.invokevirtual index) mk (Value.ref b :: argsL).toArray X₁ hg hsize hdg hW (X₁.named hnamed) (hpre vm₁ X₁.warmed) with ⟨v, B, X', hpost, hsteps⟩ | ⟨q, B, X', hpost, hsteps⟩
  · exact Or.inl ⟨v, vm₁, B, X₁.warmed, X', hpost, fun target h => hstep₁ _ fun acts => by rw [doInvoke_state]; exact hsteps.trans h⟩
  · exact Or.inr ⟨q, vm₁, B, X₁.warmed, X', hpost, hstep₁ _ fun acts => by rw [doInvoke_state]; exact hsteps⟩
theorem vx_callSX (X : Stand p l e R s m args below meth c T locs cells slots) (hexec : p.tables.exec = Jvm.exec) {own : String} {index : Nat} {y : MethodName} {bytes : ByteArray} {maxL : Nat} {ret : Option FieldType} {hh : List (Nat × Nat × Nat × Nat)}
    (hown : s.vm.findClass own = some m.cls) (hlink : (Cond.methodLink own index y).before args s = true) (hstat : (Cond.static y).before args s = true) (hinit : (Cond.initialized y.cls).before args s = true)
    (hcode : (Cond.codeWith y bytes maxL ret hh).before args s = true) (hy : y.cls ≠ "java/lang/invoke/MethodHandle" ∧ y.cls ≠ "java/lang/invoke/VarHandle")
    {W9 : Nat} {Pre : Pt → Array Value → Prop} {Post : Pt → Array Value → Option Value → Pt → Prop} {PostX : Pt → Array Value → Addr → Pt → Prop} (hK : vx_Back l R p e below s args y 3 W9 Pre Post PostX)
    {g : JFrame} (hg : g.method = m) (hsize : g.locals.size = c.maxLocals) {argsL rest : List Value} (hlen : ∀ sig, parseMethodDescriptor y.desc = some sig → argsL.length = sig.parameters.length)
    (hstack : g.stack = argsL.reverse ++ rest) (hW : 2 * g.monitorRoom + (rest.map fun v => v.category).sum ≤ W9) (hdg : decode c.code g.pc = .ok (.invokestatic index, 3))
    (hpre : ∀ vm₁, s.WarmedH vm₁ → Pre ⟨T.setVm vm₁, locs, cells, slots⟩ argsL.toArray) :
    (∃ (v : Option Value) (vm₁ : Vm) (B : Pt), s.WarmedH vm₁ ∧ Stand p l e R s m args below meth c B.U B.locs B.cells B.slots ∧ Post ⟨T.setVm vm₁, locs, cells, slots⟩ argsL.toArray v B ∧
      ∀ target, Steps p.tables e below (B.U.setTop { g with pc := g.pc + 3, stack := v.toList ++ rest }) target → Steps p.tables e below (T.setTop g) target) ∨
    (∃ (q : Addr) (vm₁ : Vm) (B : Pt), s.WarmedH vm₁ ∧ Stand p l e R s m args below meth c B.U B.locs B.cells B.slots ∧ PostX ⟨T.setVm vm₁, locs, cells, slots⟩ argsL.toArray q B ∧
      Steps p.tables e below (T.setTop g) ((B.U.setTop { g with stack := rest }).pushFrame (.throwing q))) := by
  obtain ⟨mk, methM, cM, hnamed, hmethM, -, -, -, -, -, -, hsigM⟩ := Cond.codeWith_spec hcode
  have hstatic : methM.isStatic = true := Cond.static_spec hnamed hmethM hstat
  obtain ⟨kP, hkP, -⟩ := className_of_methodNamed hnamed
  have hinitP : kP.init = .initialized := Cond.initialized_spec (findClass_of_methodNamed hnamed) hkP hinit
  obtain ⟨vm₁, X₁, hstep₁⟩ := X.invokestatic hexec hown hlink hnamed hmethM hstatic hkP hinitP hy (g := g) hg (argsL := argsL) (rest := rest) (hlen _ hsigM) hstack hdg
  rcases hK m meth c ⟨T.setVm vm₁, locs, cells, slots⟩ { g with stack := rest } (.invokestatic index) mk argsL.toArray X₁ hg hsize hdg hW (X₁.named hnamed) (hpre vm₁ X₁.warmed) with ⟨v, B, X', hpost, hsteps⟩ | ⟨q, B, X', hpost, hsteps⟩
  · exact Or.inl ⟨v, vm₁, B, X₁.warmed, X', hpost, fun target h => hstep₁ _ fun acts => by rw [doInvoke_state]; exact hsteps.trans h⟩
  · exact Or.inr ⟨q, vm₁, B, X₁.warmed, X', hpost, hstep₁ _ fun acts => by rw [doInvoke_state]; exact hsteps⟩
theorem vx_callVW (X : Stand p l e R s m args below meth c T locs cells slots) (hexec : p.tables.exec = Jvm.exec) {own C : String} {index : Nat} {y : MethodName} {bytes : ByteArray} {maxL : Nat} {ret : Option FieldType} {hh : List (Nat × Nat × Nat × Nat)}
    (hown : s.vm.findClass own = some m.cls) (hlink : (Cond.methodLink own index y).before args s = true) (hinst : (Cond.instanceMethod y).before args s = true) (hsel : (Cond.selects C y y).before args s = true)
    (hcode : (Cond.codeWith y bytes maxL ret hh).before args s = true) (hy : y.cls ≠ "java/lang/invoke/MethodHandle" ∧ y.cls ≠ "java/lang/invoke/VarHandle")
    {W9 : Nat} {Pre : Pt → Array Value → Prop} {Post : Pt → Array Value → Option Value → Pt → Prop} (hK : Back l R p e below s args y 3 W9 Pre Post)
    {b : Addr} {cellB : Cell} (hcell : T.heap[b]? = some cellB) (hobj : cellB.vm.isStatics = false) (hcls : s.vm.findClass C = some cellB.cls)
    {g : JFrame} (hg : g.method = m) (hsize : g.locals.size = c.maxLocals) {argsL rest : List Value} (hlen : ∀ sig, parseMethodDescriptor y.desc = some sig → argsL.length = sig.parameters.length)
    (hstack : g.stack = argsL.reverse ++ .ref b :: rest) (hW : 2 * g.monitorRoom + (rest.map fun v => v.category).sum ≤ W9) (hdg : decode c.code g.pc = .ok (.invokevirtual index, 3))
    (hpre : ∀ vm₁, s.WarmedH vm₁ → Pre ⟨T.setVm vm₁, locs, cells, slots⟩ (Value.ref b :: argsL).toArray) :
    ∃ (v : Option Value) (vm₁ : Vm) (B : Pt), s.WarmedH vm₁ ∧ Stand p l e R s m args below meth c B.U B.locs B.cells B.slots ∧ Post ⟨T.setVm vm₁, locs, cells, slots⟩ (Value.ref b :: argsL).toArray v B ∧
      ∀ target, Steps p.tables e below (B.U.setTop { g with pc := g.pc + 3, stack := v.toList ++ rest }) target → Steps p.tables e below (T.setTop g) target := by
  obtain ⟨mk, methM, hnamed, hmethM, hstM, habM⟩ := Cond.instanceMethod_spec hinst
  obtain ⟨m8, methM', cM, hn8, hmethM', -, -, -, -, -, -, hsigM⟩ := Cond.codeWith_spec hcode
  cases Option.some.inj (hn8.symm.trans hnamed)
  cases hmethM.symm.trans hmethM'
  obtain ⟨c2, r2, m2, q1, q2, q3, q4, kP, hkP, hkPi⟩ := Cond.selects_spec hsel
  cases hcls.symm.trans q1
  cases (State.methodFound?_of_named hnamed hy).symm.trans q2
  cases hnamed.symm.trans q3
  have hselP : selectMethod e.platform s.vm cellB.cls mk = .method mk := by rw [Launch.admits_selectMethod X.admits]; exact q4
  obtain ⟨vm₁, X₁, hstep₁⟩ := X.invokevirtual hexec hown hlink hnamed hmethM hstM hkP hkPi hy (a := b) (cell := cellB) hcell
    (fun z h => by rw [h] at hobj; cases hobj) hselP hmethM habM hkP hkPi (g := g) hg (argsL := argsL) (rest := rest) (hlen _ hsigM) hstack hdg
  obtain ⟨v, B, X', hpost, hsteps⟩ := hK m meth c ⟨T.setVm vm₁, locs, cells, slots⟩ { g with stack := rest } (.invokevirtual index) mk (Value.ref b :: argsL).toArray X₁ hg hsize hdg hW (X₁.named hnamed) (hpre vm₁ X₁.warmed)
  exact ⟨v, vm₁, B, X₁.warmed, X', hpost, fun target h => hstep₁ _ fun acts => by rw [doInvoke_state]; exact hsteps.trans h⟩
abbrev vx_CVW (R : Room) (s : State) (args : Array Value) (own C : String) (index : Nat) (y : MethodName) (bytes : ByteArray) (maxL : Nat) (ret : Option FieldType) (hh : List (Nat × Nat × Nat × Nat)) (ws : List Cond) (rm : Room) (mc ms n : Nat) : Prop :=
  (rm.cells = mc ∧ rm.slots = ms ∧ rm.frames + 1 ≤ R.frames ∧ 8 + (maxL + 11) + rm.locals ≤ R.locals ∧ (∀ w ∈ ws, ∀ (a' : Array Value) (U : State), s.WarmedH U.vm → w.before a' U = true) ∧ Cond.codeWith y bytes maxL ret hh ∈ ws) ∧
  (Cond.codeWith y bytes maxL ret hh).before args s = true ∧ (Cond.initialized y.cls).before args s = true ∧ (y.cls ≠ "java/lang/invoke/MethodHandle" ∧ y.cls ≠ "java/lang/invoke/VarHandle") ∧
  (∀ sig, parseMethodDescriptor y.desc = some sig → n = sig.parameters.length) ∧ (Cond.methodLink own index y).before args s = true ∧ (Cond.instanceMethod y).before args s = true ∧ (Cond.selects C y y).before args s = true
theorem vx_cwVW {own C : String} {index maxL mc ms : Nat} {y : MethodName} {bytes : ByteArray} {ret : Option FieldType} {hh : List (Nat × Nat × Nat × Nat)} {Ts ws ws' : List Cond} {rm : Room} (n : Nat) (ht : ∀ w ∈ Ts, w.before args s = true) (hT : GoodIn Ts (wsV own index C y ws)) (hw : ws = Cond.codeWith y bytes maxL ret hh :: ws') (hrc : rm.cells = mc) (hrs : rm.slots = ms)
    (hd : y.cls = C ∧ y.cls ≠ "java/lang/invoke/MethodHandle" ∧ y.cls ≠ "java/lang/invoke/VarHandle" ∧ (parseMethodDescriptor y.desc).map (fun d => d.parameters.length) = some n) (hR : rm.frames + 1 ≤ R.frames ∧ 8 + (maxL + 11) + rm.locals ≤ R.locals) :
    vx_CVW R s args own C index y bytes maxL ret hh ws rm mc ms n := by
  obtain ⟨hC, hd⟩ := hd
  subst hC
  have ok : ∀ w ∈ wsV own index y.cls y ws, w.before args s = true := fun w h => ht w (hT w h).1
  have hG : GoodIn Ts ws := fun w h => hT w (by unfold wsV; exact List.mem_append_right _ h)
  have hc : Cond.codeWith y bytes maxL ret hh ∈ ws := by rw [hw]; exact List.mem_cons_self
  refine ⟨⟨hrc, hrs, hR.1, hR.2, pay_in ht hG, hc⟩, ht _ (hG _ hc).1, ok _ (by simp [wsV]), ⟨hd.1, hd.2.1⟩, fun sig h => ?_, ok _ (by simp [wsV]), ok _ (by simp [wsV]), ok _ (by simp [wsV])⟩
  have h2 := hd.2.2
  rw [h] at h2
  exact (Option.some.inj h2).symm
theorem vx_runVW {y : MethodName} {bytes cc : ByteArray} {maxL nL mc ms n index : Nat} {ret : Option FieldType} {hh : List (Nat × Nat × Nat × Nat)} {ws : List Cond} {rm : Room} {Pc : Array Value → State → Prop} {Qc : Array Value → State → Outcome → State → Prop} {free : Addr → Prop} {Ts : List Cond} {own C : String} {b : Addr} {As rest : List Value} {g : JFrame}
    (S : CallFix p m c cc nL s args Ts own) (hM : Met l y ws rm Pc Qc mc ms free) (cw : vx_CVW R s args own C index y bytes maxL ret hh ws rm mc ms n) (hp : PreV s H C b Pc As)
    (hg : g.method = m) (hn : As.length = n) (hsize : g.locals.size = nL) (hstack : g.stack = As.reverse ++ .ref b :: rest) (hW : 2 * g.monitorRoom + (rest.map fun v => v.category).sum ≤ 8) (hdg : decode cc g.pc = .ok (.invokevirtual index, 3)) (hf : cells + mc ≤ R.cells ∧ slots + ms ≤ R.slots) :
    va_Run p l e R s m args below meth c H locs cells slots mc ms g rest (Qc (Value.ref b :: As).toArray) free := by
  obtain ⟨⟨hrc, hrs, hfr, hlo, hws, hcw⟩, hcode, hini, hy, hlen, hl, hin, hse⟩ := cw
  have hK : Back l R p e below s args y 3 8 (PreOf R mc ms Pc) (PostOf Qc mc ms free) := va_backW (hh := hh) (bytes := bytes) (maxL := maxL) (ret := ret) hM hp.1 hrc hrs hfr hlo hws hcw (fun a' U hW => word_at hW (Or.inl (by first | rfl | simp [Cond.onTables, Cond.keeps, Cond.steady])) hini)
  obtain ⟨hx, hb, hml, ho, -⟩ := S
  obtain ⟨-, ⟨cellB, hcB, hoB, hclB⟩, hPc⟩ := hp
  intro T hT X
  obtain ⟨v, vm₁, ⟨U', l2, c2, s2⟩, hW₁, X', ⟨g', mk, t, L, e1, e2, hq, h1, hL, h2, h3⟩, st⟩ := vx_callVW X hx (C := C) (hh := hh) (bytes := bytes) (maxL := maxL) (ret := ret) ho hl hin hse hcode hy hK (by rw [hT]; exact hcB) hoB hclB hg (hsize.trans hml.symm) (argsL := As) (rest := rest) (fun sig h => hn.trans (hlen sig h)) hstack hW (by rw [hb]; exact hdg)
    (fun vm₁ hW₁ => ⟨hf.1, hf.2, hPc (T.setVm vm₁) hT hW₁⟩)
  dsimp only [Pt.U, Pt.locs, Pt.cells, Pt.slots] at X' e1 e2 h1 h2 h3 st
  subst h1; subst h2; subst h3
  exact ⟨v, (T.setVm vm₁).calling g' mk (Value.ref b :: As).toArray, t, U', L, hT, X', hL, e1, e2, hq, st⟩
section
variable {y : MethodName} {bytes cc : ByteArray} {maxL nL mc ms n index : Nat} {ret : Option FieldType} {ws : List Cond} {rm : Room} {Pc : Array Value → State → Prop} {Qc : Array Value → State → Outcome → State → Prop} {XC : String → State → State → Prop} {free : Addr → Prop} {Ts : List Cond} {own C : String} {b : Addr} {As rest : List Value} {g : JFrame}
theorem vx_runVX {hh : List (Nat × Nat × Nat × Nat)} (S : CallFix p m c cc nL s args Ts own) (hM : vx_Met l y ws rm Pc Qc XC mc ms free) (cw : vx_CVW R s args own C index y bytes maxL ret hh ws rm mc ms n) (hp : PreV s H C b Pc As)
    (hg : g.method = m) (hn : As.length = n) (hsize : g.locals.size = nL) (hstack : g.stack = As.reverse ++ .ref b :: rest) (hW : 2 * g.monitorRoom + (rest.map fun v => v.category).sum ≤ 8) (hdg : decode cc g.pc = .ok (.invokevirtual index, 3)) (hf : cells + mc ≤ R.cells ∧ slots + ms ≤ R.slots) :
    vx_Run p l e R s m args below meth c H locs cells slots mc ms g rest (Qc (Value.ref b :: As).toArray) XC free := by
  obtain ⟨⟨hrc, hrs, hfr, hlo, hws, hcw⟩, hcode, hini, hy, hlen, hl, hin, hse⟩ := cw
  have hK : vx_Back l R p e below s args y 3 8 (PreOf R mc ms Pc) (PostOf Qc mc ms free) (vx_Post XC mc ms free) := vx_backW (hh := hh) (bytes := bytes) (maxL := maxL) (ret := ret) hM hp.1 hrc hrs hfr hlo hws hcw (fun a' U hW => word_at hW (Or.inl (by first | rfl | simp [Cond.onTables, Cond.keeps, Cond.steady])) hini)
  obtain ⟨hx, hb, hml, ho, -⟩ := S
  obtain ⟨-, ⟨cellB, hcB, hoB, hclB⟩, hPc⟩ := hp
  intro T hT X
  rcases vx_callVX X hx (C := C) (hh := hh) (bytes := bytes) (maxL := maxL) (ret := ret) ho hl hin hse hcode hy hK (by rw [hT]; exact hcB) hoB hclB hg (hsize.trans hml.symm) (argsL := As) (rest := rest) (fun sig h => hn.trans (hlen sig h)) hstack hW (by rw [hb]; exact hdg)
    (fun vm₁ hW₁ => ⟨hf.1, hf.2, hPc (T.setVm vm₁) hT hW₁⟩) with ⟨v, vm₁, ⟨U', l2, c2, s2⟩, hW₁, X', ⟨g', mk, t, L, e1, e2, hq, h1, hL, h2, h3⟩, st⟩ | ⟨q, vm₁, ⟨U', l2, c2, s2⟩, hW₁, X', ⟨g', mk, t, L, E, ce, e1, e2, hq, hce, hcv, hcl, h1, hL, h2, h3⟩, st⟩
  · dsimp only [Pt.U, Pt.locs, Pt.cells, Pt.slots] at X' e1 e2 h1 h2 h3 st
    subst h1; subst h2; subst h3
    exact Or.inl ⟨v, (T.setVm vm₁).calling g' mk (Value.ref b :: As).toArray, t, U', L, hT, X', hL, e1, e2, hq, st⟩
  · dsimp only [Pt.U, Pt.locs, Pt.cells, Pt.slots] at X' e1 e2 h1 h2 h3 st hcl
    subst h1; subst h2; subst h3
    exact Or.inr ⟨q, (T.setVm vm₁).calling g' mk (Value.ref b :: As).toArray, t, U', L, E, ce, hT, X', hL, e1, e2, hq, hce, hcv, vx_cls hW₁ hcl, st⟩
theorem vx_runSX {hh : List (Nat × Nat × Nat × Nat)} (S : CallFix p m c cc nL s args Ts own) (hM : vx_Met l y ws rm Pc Qc XC mc ms free) (cw : vx_CSW R s args own index y bytes maxL ret hh ws rm mc ms n) (hp : PreS s H Pc As)
    (hg : g.method = m) (hn : As.length = n) (hsize : g.locals.size = nL) (hstack : g.stack = As.reverse ++ rest) (hW : 2 * g.monitorRoom + (rest.map fun v => v.category).sum ≤ 8) (hdg : decode cc g.pc = .ok (.invokestatic index, 3)) (hf : cells + mc ≤ R.cells ∧ slots + ms ≤ R.slots) :
    vx_Run p l e R s m args below meth c H locs cells slots mc ms g rest (Qc As.toArray) XC free := by
  obtain ⟨⟨hrc, hrs, hfr, hlo, hws, hcw⟩, hcode, hini, hy, hlen, hl, hstt⟩ := cw
  have hK : vx_Back l R p e below s args y 3 8 (PreOf R mc ms Pc) (PostOf Qc mc ms free) (vx_Post XC mc ms free) := vx_backW (hh := hh) (bytes := bytes) (maxL := maxL) (ret := ret) hM hp.1 hrc hrs hfr hlo hws hcw (fun a' U hW => word_at hW (Or.inl (by first | rfl | simp [Cond.onTables, Cond.keeps, Cond.steady])) hini)
  obtain ⟨hx, hb, hml, ho, -⟩ := S
  intro T hT X
  rcases vx_callSX X hx (hh := hh) (bytes := bytes) (maxL := maxL) (ret := ret) ho hl hstt hini hcode hy hK hg (hsize.trans hml.symm) (argsL := As) (rest := rest) (fun sig h => hn.trans (hlen sig h)) hstack hW (by rw [hb]; exact hdg)
    (fun vm₁ hW₁ => ⟨hf.1, hf.2, hp.2 (T.setVm vm₁) hT hW₁⟩) with ⟨v, vm₁, ⟨U', l2, c2, s2⟩, hW₁, X', ⟨g', mk, t, L, e1, e2, hq, h1, hL, h2, h3⟩, st⟩ | ⟨q, vm₁, ⟨U', l2, c2, s2⟩, hW₁, X', ⟨g', mk, t, L, E, ce, e1, e2, hq, hce, hcv, hcl, h1, hL, h2, h3⟩, st⟩
  · dsimp only [Pt.U, Pt.locs, Pt.cells, Pt.slots] at X' e1 e2 h1 h2 h3 st
    subst h1; subst h2; subst h3
    exact Or.inl ⟨v, (T.setVm vm₁).calling g' mk As.toArray, t, U', L, hT, X', hL, e1, e2, hq, st⟩
  · dsimp only [Pt.U, Pt.locs, Pt.cells, Pt.slots] at X' e1 e2 h1 h2 h3 st hcl
    subst h1; subst h2; subst h3
    exact Or.inr ⟨q, (T.setVm vm₁).calling g' mk As.toArray, t, U', L, E, ce, hT, X', hL, e1, e2, hq, hce, hcv, vx_cls hW₁ hcl, st⟩
end
end VXH
theorem vx_ofWH {l : Launch} {y : MethodName} {ws ws' : List Cond} {rm : Room} {Pc : Array Value → State → Prop} {Qc : Array Value → State → Outcome → State → Prop} {XC : String → State → State → Prop} {mc ms : Nat} {free : Addr → Prop} {cc : ByteArray} {maxL : Nat} {ret : Option FieldType} {hh : List (Nat × Nat × Nat × Nat)}
    (hy : plainName y.cls = true) (hw : ws = Cond.codeWith y cc maxL ret hh :: ws')
    (body : ∀ p e s m args below meth c s₁, BodyLoose p l y (headSpec ws rm) cc maxL ret e s m args below meth c s₁ → c.maxLocals = maxL → Pc args s →
      W p l e (headSpec ws rm).room s m args below meth c s.heap [] 0 0 (vx_MQ below Qc XC args s mc ms free) (entryFrame m args maxL)) : vx_Met l y ws rm Pc Qc XC mc ms free := by
  refine MetFree.of_bodyS (code := cc) (maxLocals := maxL) (ret := ret) hy ?_ ?_
  · intro args s m h hn
    obtain ⟨m9, meth, c, hn9, h1, h2, h3, h4, -, h5, h6, -⟩ := Cond.codeWith_spec (atoms_spec (ws := ws) h _ (by rw [hw]; exact List.mem_cons_self))
    cases hn.symm.trans hn9
    exact ⟨meth, c, h1, h2, h3, h4, h5, h6⟩
  · intro p e s m args below meth c s₁ B hml hP _
    have hh0 : s₁.heap = s.heap := by rw [B.state]; rfl
    obtain ⟨t, a1, o, b1, b2, b3⟩ := body p e s m args below meth c s₁ B hml hP s₁ hh0 (Stand.of_body B)
    exact ⟨t, o, a1, b1, b2, b3⟩
/-! ===== END ===== -/
end
section
/-! ===== BEGIN printed: names, fields, word lists, decode rows ===== -/
def RX0 : String := "ConvexConduit$CheapestFlow"
def TX0 : u_T := fun k => match k with
  | 0 => ("ConvexConduit$CheapestFlow", "network", "LConvexConduit$Network;", true)
  | 1 => ("ConvexConduit$CheapestFlow", "on", "[I", true)
  | 2 => ("ConvexConduit$CheapestFlow", "low", "[I", true)
  | 3 => ("ConvexConduit$CheapestFlow", "high", "[I", true)
  | 4 => ("ConvexConduit$CheapestFlow", "distance", "[I", true)
  | _ => ("ConvexConduit$CheapestFlow", "cameBy", "[I", true)
def tyX0 : Nat → FieldType := fun k => match k with
  | 0 => .object "ConvexConduit$Network"
  | 1 => .array .int
  | 2 => .array .int
  | 3 => .array .int
  | 4 => .array .int
  | _ => .array .int
abbrev wsX00 : List Cond := u_ws RX0 TX0 6
theorem nmX0 : ∀ a, a < 6 → ∀ b, b < 6 → a ≠ b → (TX0 a).2.1 ≠ (TX0 b).2.1 := by decide +kernel
theorem tyX0_ok : ∀ k, k < 6 → parseFieldDescriptor (TX0 k).2.2.1 = some (tyX0 k) := by decide +kernel
abbrev cX0_init : ByteArray := prog_2_method_1_code
def yX0_init : MethodName := ⟨RX0, "<init>", "(LConvexConduit$Network;)V"⟩
abbrev cX0_meet : ByteArray := prog_2_method_2_code
def yX0_meet : MethodName := ⟨RX0, "meet", "(III)Z"⟩
abbrev cX0_greatestAmount : ByteArray := prog_2_method_3_code
def yX0_greatestAmount : MethodName := ⟨RX0, "greatestAmount", "(II)I"⟩
abbrev cX0_totalPrice : ByteArray := prog_2_method_4_code
def yX0_totalPrice : MethodName := ⟨RX0, "totalPrice", "()I"⟩
abbrev cX0_priceOfUnitMore : ByteArray := prog_2_method_5_code
def yX0_priceOfUnitMore : MethodName := ⟨RX0, "priceOfUnitMore", "(II)I"⟩
abbrev cX0_keepToCheapest : ByteArray := prog_2_method_6_code
def yX0_keepToCheapest : MethodName := ⟨RX0, "keepToCheapest", "()V"⟩
abbrev cX0_lower : ByteArray := prog_2_method_7_code
def yX0_lower : MethodName := ⟨RX0, "lower", "(I)I"⟩
abbrev cX0_raise : ByteArray := prog_2_method_8_code
def yX0_raise : MethodName := ⟨RX0, "raise", "(I)I"⟩
abbrev cX0_hold : ByteArray := prog_2_method_9_code
def yX0_hold : MethodName := ⟨RX0, "hold", "(I)V"⟩
abbrev cX0_empty : ByteArray := prog_2_method_10_code
def yX0_empty : MethodName := ⟨RX0, "empty", "()V"⟩
abbrev cX0_send : ByteArray := prog_2_method_11_code
def yX0_send : MethodName := ⟨RX0, "send", "(III)I"⟩
abbrev cX0_sendOnWay : ByteArray := prog_2_method_12_code
def yX0_sendOnWay : MethodName := ⟨RX0, "sendOnWay", "(III)I"⟩
abbrev cX0_roomOnWay : ByteArray := prog_2_method_13_code
def yX0_roomOnWay : MethodName := ⟨RX0, "roomOnWay", "(II)I"⟩
abbrev cX0_roomOf : ByteArray := prog_2_method_14_code
def yX0_roomOf : MethodName := ⟨RX0, "roomOf", "(I)I"⟩
abbrev cX0_priceOf : ByteArray := prog_2_method_15_code
def yX0_priceOf : MethodName := ⟨RX0, "priceOf", "(I)I"⟩
abbrev cX0_measureFrom : ByteArray := prog_2_method_16_code
def yX0_measureFrom : MethodName := ⟨RX0, "measureFrom", "(I)V"⟩
abbrev cX0_measureFromAll : ByteArray := prog_2_method_17_code
def yX0_measureFromAll : MethodName := ⟨RX0, "measureFromAll", "()V"⟩
abbrev cX0_measure : ByteArray := prog_2_method_18_code
def yX0_measure : MethodName := ⟨RX0, "measure", "()V"⟩
abbrev cX0_shorten : ByteArray := prog_2_method_19_code
def yX0_shorten : MethodName := ⟨RX0, "shorten", "(I)Z"⟩
abbrev cX0_spreadFrom : ByteArray := prog_2_method_20_code
def yX0_spreadFrom : MethodName := ⟨RX0, "spreadFrom", "(I)V"⟩
abbrev cX0_widen : ByteArray := prog_2_method_21_code
def yX0_widen : MethodName := ⟨RX0, "widen", "(II)Z"⟩
def RX1 : String := "ConvexConduit$Drivers"
def TX1 : u_T := fun k => match k with
  | 0 => ("ConvexConduit$Drivers", "network", "LConvexConduit$Network;", true)
  | 1 => ("ConvexConduit$Drivers", "taken", "[I", true)
  | 2 => ("ConvexConduit$Drivers", "weightToTarget", "[I", true)
  | 3 => ("ConvexConduit$Drivers", "found", "I", false)
  | 4 => ("ConvexConduit$Drivers", "paidByAll", "I", false)
  | _ => ("ConvexConduit$Drivers", "paidLast", "I", false)
def tyX1 : Nat → FieldType := fun k => match k with
  | 0 => .object "ConvexConduit$Network"
  | 1 => .array .int
  | 2 => .array .int
  | 3 => .int
  | 4 => .int
  | _ => .int
abbrev wsX10 : List Cond := u_ws RX1 TX1 6
theorem nmX1 : ∀ a, a < 6 → ∀ b, b < 6 → a ≠ b → (TX1 a).2.1 ≠ (TX1 b).2.1 := by decide +kernel
theorem tyX1_ok : ∀ k, k < 6 → parseFieldDescriptor (TX1 k).2.2.1 = some (tyX1 k) := by decide +kernel
abbrev cX1_init : ByteArray := prog_3_method_1_code
def yX1_init : MethodName := ⟨RX1, "<init>", "(LConvexConduit$Network;)V"⟩
abbrev cX1_comeOneByOne : ByteArray := prog_3_method_2_code
def yX1_comeOneByOne : MethodName := ⟨RX1, "comeOneByOne", "(III)V"⟩
abbrev cX1_weighWaysTo : ByteArray := prog_3_method_3_code
def yX1_weighWaysTo : MethodName := ⟨RX1, "weighWaysTo", "(I)V"⟩
abbrev cX1_weightBy : ByteArray := prog_3_method_4_code
def yX1_weightBy : MethodName := ⟨RX1, "weightBy", "(I)I"⟩
abbrev cX1_drive : ByteArray := prog_3_method_5_code
def yX1_drive : MethodName := ⟨RX1, "drive", "(II)I"⟩
abbrev cX1_bestArcFrom : ByteArray := prog_3_method_6_code
def yX1_bestArcFrom : MethodName := ⟨RX1, "bestArcFrom", "(I)I"⟩
abbrev cX1_nextPrice : ByteArray := prog_3_method_7_code
def yX1_nextPrice : MethodName := ⟨RX1, "nextPrice", "(I)I"⟩
def RX2 : String := "ConvexConduit$Network"
def TX2 : u_T := fun k => match k with
  | 0 => ("ConvexConduit$Network", "nodes", "I", true)
  | 1 => ("ConvexConduit$Network", "arcs", "I", false)
  | 2 => ("ConvexConduit$Network", "from", "[I", true)
  | 3 => ("ConvexConduit$Network", "to", "[I", true)
  | 4 => ("ConvexConduit$Network", "pieces", "[I", true)
  | 5 => ("ConvexConduit$Network", "capacity", "[I", true)
  | _ => ("ConvexConduit$Network", "prices", "[I", true)
def tyX2 : Nat → FieldType := fun k => match k with
  | 0 => .int
  | 1 => .int
  | 2 => .array .int
  | 3 => .array .int
  | 4 => .array .int
  | 5 => .array .int
  | _ => .array .int
abbrev wsX20 : List Cond := u_ws RX2 TX2 7
theorem nmX2 : ∀ a, a < 7 → ∀ b, b < 7 → a ≠ b → (TX2 a).2.1 ≠ (TX2 b).2.1 := by decide +kernel
theorem tyX2_ok : ∀ k, k < 7 → parseFieldDescriptor (TX2 k).2.2.1 = some (tyX2 k) := by decide +kernel
abbrev cX2_init : ByteArray := prog_4_method_1_code
def yX2_init : MethodName := ⟨RX2, "<init>", "(I)V"⟩
abbrev cX2_addArc : ByteArray := prog_4_method_2_code
def yX2_addArc : MethodName := ⟨RX2, "addArc", "(IIII)I"⟩
abbrev cX2_addPiece : ByteArray := prog_4_method_3_code
def yX2_addPiece : MethodName := ⟨RX2, "addPiece", "(III)V"⟩
abbrev cX2_unitPrice : ByteArray := prog_4_method_4_code
def yX2_unitPrice : MethodName := ⟨RX2, "unitPrice", "(II)I"⟩
abbrev cX2_lastPrice : ByteArray := prog_4_method_5_code
def yX2_lastPrice : MethodName := ⟨RX2, "lastPrice", "(I)I"⟩
abbrev cX2_steps : ByteArray := prog_4_method_6_code
def yX2_steps : MethodName := ⟨RX2, "steps", "()I"⟩
abbrev cX2_arcOf : ByteArray := prog_4_method_7_code
def yX2_arcOf : MethodName := ⟨RX2, "arcOf", "(I)I"⟩
abbrev cX2_goesAlong : ByteArray := prog_4_method_8_code
def yX2_goesAlong : MethodName := ⟨RX2, "goesAlong", "(I)Z"⟩
abbrev cX2_start : ByteArray := prog_4_method_9_code
def yX2_start : MethodName := ⟨RX2, "start", "(I)I"⟩
abbrev cX2_end : ByteArray := prog_4_method_10_code
def yX2_end : MethodName := ⟨RX2, "end", "(I)I"⟩
def RX3 : String := "ConvexConduit$UnitCircles"
def TX3 : u_T := fun k => match k with
  | 0 => ("ConvexConduit$UnitCircles", "network", "LConvexConduit$Network;", true)
  | 1 => ("ConvexConduit$UnitCircles", "taken", "[Z", true)
  | 2 => ("ConvexConduit$UnitCircles", "distance", "[I", true)
  | _ => ("ConvexConduit$UnitCircles", "cameBy", "[I", true)
def tyX3 : Nat → FieldType := fun k => match k with
  | 0 => .object "ConvexConduit$Network"
  | 1 => .array .boolean
  | 2 => .array .int
  | _ => .array .int
abbrev wsX30 : List Cond := u_ws RX3 TX3 4
theorem nmX3 : ∀ a, a < 4 → ∀ b, b < 4 → a ≠ b → (TX3 a).2.1 ≠ (TX3 b).2.1 := by decide +kernel
theorem tyX3_ok : ∀ k, k < 4 → parseFieldDescriptor (TX3 k).2.2.1 = some (tyX3 k) := by decide +kernel
abbrev cX3_init : ByteArray := prog_5_method_1_code
def yX3_init : MethodName := ⟨RX3, "<init>", "(LConvexConduit$Network;)V"⟩
abbrev cX3_leastPrice : ByteArray := prog_5_method_2_code
def yX3_leastPrice : MethodName := ⟨RX3, "leastPrice", "(III)I"⟩
abbrev cX3_takeWay : ByteArray := prog_5_method_3_code
def yX3_takeWay : MethodName := ⟨RX3, "takeWay", "(II)Z"⟩
abbrev cX3_takeOutCircles : ByteArray := prog_5_method_4_code
def yX3_takeOutCircles : MethodName := ⟨RX3, "takeOutCircles", "()V"⟩
abbrev cX3_takeOutCircle : ByteArray := prog_5_method_5_code
def yX3_takeOutCircle : MethodName := ⟨RX3, "takeOutCircle", "()Z"⟩
abbrev cX3_shortenAll : ByteArray := prog_5_method_6_code
def yX3_shortenAll : MethodName := ⟨RX3, "shortenAll", "(Z)I"⟩
abbrev cX3_turnBack : ByteArray := prog_5_method_7_code
def yX3_turnBack : MethodName := ⟨RX3, "turnBack", "(II)V"⟩
abbrev cX3_nodeBefore : ByteArray := prog_5_method_8_code
def yX3_nodeBefore : MethodName := ⟨RX3, "nodeBefore", "(I)I"⟩
abbrev cX3_priceOfTaken : ByteArray := prog_5_method_9_code
def yX3_priceOfTaken : MethodName := ⟨RX3, "priceOfTaken", "()I"⟩
def RX4 : String := "ConvexConduit"
def TX4 : u_T := fun k => match k with
  | 0 => ("ConvexConduit", "network", "LConvexConduit$Network;", true)
  | 1 => ("ConvexConduit", "cheapest", "LConvexConduit$CheapestFlow;", true)
  | 2 => ("ConvexConduit", "circles", "LConvexConduit$UnitCircles;", true)
  | 3 => ("ConvexConduit", "drivers", "LConvexConduit$Drivers;", true)
  | 4 => ("ConvexConduit", "source", "I", false)
  | 5 => ("ConvexConduit", "target", "I", false)
  | _ => ("ConvexConduit", "amount", "I", false)
def tyX4 : Nat → FieldType := fun k => match k with
  | 0 => .object "ConvexConduit$Network"
  | 1 => .object "ConvexConduit$CheapestFlow"
  | 2 => .object "ConvexConduit$UnitCircles"
  | 3 => .object "ConvexConduit$Drivers"
  | 4 => .int
  | 5 => .int
  | _ => .int
abbrev wsX40 : List Cond := u_ws RX4 TX4 7
theorem nmX4 : ∀ a, a < 7 → ∀ b, b < 7 → a ≠ b → (TX4 a).2.1 ≠ (TX4 b).2.1 := by decide +kernel
theorem tyX4_ok : ∀ k, k < 7 → parseFieldDescriptor (TX4 k).2.2.1 = some (tyX4 k) := by decide +kernel
abbrev cX4_init : ByteArray := prog_1_method_1_code
def yX4_init : MethodName := ⟨RX4, "<init>", "(I)V"⟩
abbrev cX4_arc : ByteArray := prog_1_method_2_code
def yX4_arc : MethodName := ⟨RX4, "arc", "(IIII)I"⟩
abbrev cX4_piece : ByteArray := prog_1_method_3_code
def yX4_piece : MethodName := ⟨RX4, "piece", "(III)I"⟩
abbrev cX4_demand : ByteArray := prog_1_method_4_code
def yX4_demand : MethodName := ⟨RX4, "demand", "(III)V"⟩
abbrev cX4_nodes : ByteArray := prog_1_method_5_code
def yX4_nodes : MethodName := ⟨RX4, "nodes", "()I"⟩
abbrev cX4_arcs : ByteArray := prog_1_method_6_code
def yX4_arcs : MethodName := ⟨RX4, "arcs", "()I"⟩
abbrev cX4_capacity : ByteArray := prog_1_method_7_code
def yX4_capacity : MethodName := ⟨RX4, "capacity", "(I)I"⟩
abbrev cX4_price : ByteArray := prog_1_method_8_code
def yX4_price : MethodName := ⟨RX4, "price", "(II)I"⟩
abbrev cX4_most : ByteArray := prog_1_method_9_code
def yX4_most : MethodName := ⟨RX4, "most", "()I"⟩
abbrev cX4_cost : ByteArray := prog_1_method_10_code
def yX4_cost : MethodName := ⟨RX4, "cost", "()I"⟩
abbrev cX4_costByCircles : ByteArray := prog_1_method_11_code
def yX4_costByCircles : MethodName := ⟨RX4, "costByCircles", "()I"⟩
abbrev cX4_more : ByteArray := prog_1_method_12_code
def yX4_more : MethodName := ⟨RX4, "more", "(I)I"⟩
abbrev cX4_flow : ByteArray := prog_1_method_13_code
def yX4_flow : MethodName := ⟨RX4, "flow", "(I)I"⟩
abbrev cX4_leastOn : ByteArray := prog_1_method_14_code
def yX4_leastOn : MethodName := ⟨RX4, "leastOn", "(I)I"⟩
abbrev cX4_mostOn : ByteArray := prog_1_method_15_code
def yX4_mostOn : MethodName := ⟨RX4, "mostOn", "(I)I"⟩
abbrev cX4_driven : ByteArray := prog_1_method_16_code
def yX4_driven : MethodName := ⟨RX4, "driven", "()I"⟩
abbrev cX4_drivenOn : ByteArray := prog_1_method_17_code
def yX4_drivenOn : MethodName := ⟨RX4, "drivenOn", "(I)I"⟩
abbrev cX4_lastPaid : ByteArray := prog_1_method_18_code
def yX4_lastPaid : MethodName := ⟨RX4, "lastPaid", "()I"⟩
abbrev cX4_refuseOtherThanNode : ByteArray := prog_1_method_19_code
def yX4_refuseOtherThanNode : MethodName := ⟨RX4, "refuseOtherThanNode", "(I)V"⟩
abbrev cX4_refuseOtherThanArc : ByteArray := prog_1_method_20_code
def yX4_refuseOtherThanArc : MethodName := ⟨RX4, "refuseOtherThanArc", "(I)V"⟩
abbrev cX4_isNoWidth : ByteArray := prog_1_method_21_code
def yX4_isNoWidth : MethodName := ⟨RX4, "isNoWidth", "(I)Z"⟩
def RX5 : String := "ConvexConduitModel"
def TX5 : u_T := fun k => match k with
  | 0 => ("ConvexConduitModel", "thrown", "I", false)
  | 1 => ("ConvexConduitModel", "nodes", "I", true)
  | 2 => ("ConvexConduitModel", "arcs", "I", false)
  | 3 => ("ConvexConduitModel", "froms", "[I", true)
  | 4 => ("ConvexConduitModel", "tos", "[I", true)
  | 5 => ("ConvexConduitModel", "widths", "[I", true)
  | 6 => ("ConvexConduitModel", "prices", "[I", true)
  | 7 => ("ConvexConduitModel", "pieces", "[I", true)
  | 8 => ("ConvexConduitModel", "source", "I", false)
  | 9 => ("ConvexConduitModel", "target", "I", false)
  | 10 => ("ConvexConduitModel", "amount", "I", false)
  | 11 => ("ConvexConduitModel", "least", "[I", true)
  | 12 => ("ConvexConduitModel", "most", "[I", true)
  | 13 => ("ConvexConduitModel", "on", "[I", true)
  | 14 => ("ConvexConduitModel", "rest", "[I", true)
  | 15 => ("ConvexConduitModel", "far", "[I", true)
  | 16 => ("ConvexConduitModel", "over", "[I", true)
  | 17 => ("ConvexConduitModel", "taken", "[I", true)
  | 18 => ("ConvexConduitModel", "ways", "I", false)
  | 19 => ("ConvexConduitModel", "paid", "I", false)
  | _ => ("ConvexConduitModel", "latest", "I", false)
def tyX5 : Nat → FieldType := fun k => match k with
  | 0 => .int
  | 1 => .int
  | 2 => .int
  | 3 => .array .int
  | 4 => .array .int
  | 5 => .array .int
  | 6 => .array .int
  | 7 => .array .int
  | 8 => .int
  | 9 => .int
  | 10 => .int
  | 11 => .array .int
  | 12 => .array .int
  | 13 => .array .int
  | 14 => .array .int
  | 15 => .array .int
  | 16 => .array .int
  | 17 => .array .int
  | 18 => .int
  | 19 => .int
  | _ => .int
abbrev wsX50 : List Cond := u_ws RX5 TX5 21
theorem nmX5 : ∀ a, a < 21 → ∀ b, b < 21 → a ≠ b → (TX5 a).2.1 ≠ (TX5 b).2.1 := by decide +kernel
theorem tyX5_ok : ∀ k, k < 21 → parseFieldDescriptor (TX5 k).2.2.1 = some (tyX5 k) := by decide +kernel
abbrev cX5_init : ByteArray := prog_7_method_1_code
def yX5_init : MethodName := ⟨RX5, "<init>", "(I)V"⟩
abbrev cX5_thrown : ByteArray := prog_7_method_2_code
def yX5_thrown : MethodName := ⟨RX5, "thrown", "()I"⟩
abbrev cX5_goesWell : ByteArray := prog_7_method_3_code
def yX5_goesWell : MethodName := ⟨RX5, "goesWell", "(I)Z"⟩
abbrev cX5_in : ByteArray := prog_7_method_4_code
def yX5_in : MethodName := ⟨RX5, "in", "(III)Z"⟩
abbrev cX5_isNode : ByteArray := prog_7_method_5_code
def yX5_isNode : MethodName := ⟨RX5, "isNode", "(I)Z"⟩
abbrev cX5_isArc : ByteArray := prog_7_method_6_code
def yX5_isArc : MethodName := ⟨RX5, "isArc", "(I)Z"⟩
abbrev cX5_capacityOf : ByteArray := prog_7_method_7_code
def yX5_capacityOf : MethodName := ⟨RX5, "capacityOf", "(I)I"⟩
abbrev cX5_put : ByteArray := prog_7_method_8_code
def yX5_put : MethodName := ⟨RX5, "put", "(III)V"⟩
abbrev cX5_arc : ByteArray := prog_7_method_9_code
def yX5_arc : MethodName := ⟨RX5, "arc", "(IIII)I"⟩
abbrev cX5_piece : ByteArray := prog_7_method_10_code
def yX5_piece : MethodName := ⟨RX5, "piece", "(III)I"⟩
abbrev cX5_demand : ByteArray := prog_7_method_11_code
def yX5_demand : MethodName := ⟨RX5, "demand", "(III)V"⟩
abbrev cX5_nodes : ByteArray := prog_7_method_12_code
def yX5_nodes : MethodName := ⟨RX5, "nodes", "()I"⟩
abbrev cX5_arcs : ByteArray := prog_7_method_13_code
def yX5_arcs : MethodName := ⟨RX5, "arcs", "()I"⟩
abbrev cX5_capacity : ByteArray := prog_7_method_14_code
def yX5_capacity : MethodName := ⟨RX5, "capacity", "(I)I"⟩
abbrev cX5_priceOf : ByteArray := prog_7_method_15_code
def yX5_priceOf : MethodName := ⟨RX5, "priceOf", "(II)I"⟩
abbrev cX5_price : ByteArray := prog_7_method_16_code
def yX5_price : MethodName := ⟨RX5, "price", "(II)I"⟩
abbrev cX5_open : ByteArray := prog_7_method_17_code
def yX5_open : MethodName := ⟨RX5, "open", "()V"⟩
abbrev cX5_begin : ByteArray := prog_7_method_18_code
def yX5_begin : MethodName := ⟨RX5, "begin", "(II)I"⟩
abbrev cX5_steps : ByteArray := prog_7_method_19_code
def yX5_steps : MethodName := ⟨RX5, "steps", "(IIII)Z"⟩
abbrev cX5_measure : ByteArray := prog_7_method_20_code
def yX5_measure : MethodName := ⟨RX5, "measure", "()V"⟩
abbrev cX5_send : ByteArray := prog_7_method_21_code
def yX5_send : MethodName := ⟨RX5, "send", "(I)V"⟩
abbrev cX5_cheapest : ByteArray := prog_7_method_22_code
def yX5_cheapest : MethodName := ⟨RX5, "cheapest", "(II)I"⟩
abbrev cX5_most : ByteArray := prog_7_method_23_code
def yX5_most : MethodName := ⟨RX5, "most", "()I"⟩
abbrev cX5_costOpen : ByteArray := prog_7_method_24_code
def yX5_costOpen : MethodName := ⟨RX5, "costOpen", "()I"⟩
abbrev cX5_cost : ByteArray := prog_7_method_25_code
def yX5_cost : MethodName := ⟨RX5, "cost", "()I"⟩
abbrev cX5_costByCircles : ByteArray := prog_7_method_26_code
def yX5_costByCircles : MethodName := ⟨RX5, "costByCircles", "()I"⟩
abbrev cX5_more : ByteArray := prog_7_method_27_code
def yX5_more : MethodName := ⟨RX5, "more", "(I)I"⟩
abbrev cX5_fit : ByteArray := prog_7_method_28_code
def yX5_fit : MethodName := ⟨RX5, "fit", "(IIII)I"⟩
abbrev cX5_flow : ByteArray := prog_7_method_29_code
def yX5_flow : MethodName := ⟨RX5, "flow", "(I)I"⟩
abbrev cX5_leastOn : ByteArray := prog_7_method_30_code
def yX5_leastOn : MethodName := ⟨RX5, "leastOn", "(I)I"⟩
abbrev cX5_mostOn : ByteArray := prog_7_method_31_code
def yX5_mostOn : MethodName := ⟨RX5, "mostOn", "(I)I"⟩
abbrev cX5_lookBack : ByteArray := prog_7_method_32_code
def yX5_lookBack : MethodName := ⟨RX5, "lookBack", "()V"⟩
abbrev cX5_isNext : ByteArray := prog_7_method_33_code
def yX5_isNext : MethodName := ⟨RX5, "isNext", "(II)Z"⟩
abbrev cX5_drive : ByteArray := prog_7_method_34_code
def yX5_drive : MethodName := ⟨RX5, "drive", "()V"⟩
abbrev cX5_takeWay : ByteArray := prog_7_method_35_code
def yX5_takeWay : MethodName := ⟨RX5, "takeWay", "()V"⟩
abbrev cX5_driven : ByteArray := prog_7_method_36_code
def yX5_driven : MethodName := ⟨RX5, "driven", "()I"⟩
abbrev cX5_drivenOn : ByteArray := prog_7_method_37_code
def yX5_drivenOn : MethodName := ⟨RX5, "drivenOn", "(I)I"⟩
abbrev cX5_lastPaid : ByteArray := prog_7_method_38_code
def yX5_lastPaid : MethodName := ⟨RX5, "lastPaid", "()I"⟩
def RJ9 : String := "java/lang/Math"
def TJ9 : u_T := fun k => match k with
  | _ => ("", "", "", false)
def tyJ9 : Nat → FieldType := fun k => match k with
  | _ => .int
abbrev wsJ90 : List Cond := u_ws RJ9 TJ9 0
theorem nmJ9 : ∀ a, a < 0 → ∀ b, b < 0 → a ≠ b → (TJ9 a).2.1 ≠ (TJ9 b).2.1 := by decide +kernel
theorem tyJ9_ok : ∀ k, k < 0 → parseFieldDescriptor (TJ9 k).2.2.1 = some (tyJ9 k) := by decide +kernel
abbrev cJ9_max_7cf53 : ByteArray := prog_12_method_65_code
def yJ9_max_7cf53 : MethodName := ⟨RJ9, "max", "(II)I"⟩
abbrev cJ9_min_7cf53 : ByteArray := prog_12_method_69_code
def yJ9_min_7cf53 : MethodName := ⟨RJ9, "min", "(II)I"⟩
def RL : String := "ConvexConduitLaw"
abbrev cL_cell : ByteArray := method_2_code
def yL_cell : MethodName := ⟨RL, "cell", "([II)I"⟩
abbrev cL_arc : ByteArray := method_3_code
def yL_arc : MethodName := ⟨RL, "arc", "(LConvexConduit;IIII[J)I"⟩
abbrev cL_piece : ByteArray := method_4_code
def yL_piece : MethodName := ⟨RL, "piece", "(LConvexConduit;III[J)I"⟩
abbrev cL_demand : ByteArray := method_5_code
def yL_demand : MethodName := ⟨RL, "demand", "(LConvexConduit;III)I"⟩
abbrev cL_capacity : ByteArray := method_6_code
def yL_capacity : MethodName := ⟨RL, "capacity", "(LConvexConduit;I[J)I"⟩
abbrev cL_price : ByteArray := method_7_code
def yL_price : MethodName := ⟨RL, "price", "(LConvexConduit;II[J)I"⟩
abbrev cL_more : ByteArray := method_8_code
def yL_more : MethodName := ⟨RL, "more", "(LConvexConduit;I[J)I"⟩
abbrev cL_flow : ByteArray := method_9_code
def yL_flow : MethodName := ⟨RL, "flow", "(LConvexConduit;I[J)I"⟩
abbrev cL_leastOn : ByteArray := method_10_code
def yL_leastOn : MethodName := ⟨RL, "leastOn", "(LConvexConduit;I[J)I"⟩
abbrev cL_mostOn : ByteArray := method_11_code
def yL_mostOn : MethodName := ⟨RL, "mostOn", "(LConvexConduit;I[J)I"⟩
abbrev cL_drivenOn : ByteArray := method_12_code
def yL_drivenOn : MethodName := ⟨RL, "drivenOn", "(LConvexConduit;I[J)I"⟩
abbrev cL_law : ByteArray := code
def yL_law : MethodName := ⟨RL, "law", "([I)Z"⟩
def wsX0_init : List Cond := .code yX0_init cX0_init 2 none :: ([.methodLink RX0 3 objectInit, .instanceMethod objectInit, .code objectInit ⟨#[0xb1]⟩ 1 none, .arrayClass .int, .fieldLink RX0 9 "ConvexConduit$CheapestFlow" "on" "[I", .fieldLink RX0 15 "ConvexConduit$CheapestFlow" "low" "[I", .fieldLink RX0 18 "ConvexConduit$CheapestFlow" "high" "[I", .fieldLink RX0 21 "ConvexConduit$CheapestFlow" "distance" "[I", .fieldLink RX0 24 "ConvexConduit$CheapestFlow" "cameBy" "[I", .fieldLink RX0 27 "ConvexConduit$CheapestFlow" "network" "LConvexConduit$Network;"] ++ wsX00)
def wsX0_empty : List Cond := .code yX0_empty cX0_empty 2 none :: ([.fieldLink RX0 27 "ConvexConduit$CheapestFlow" "network" "LConvexConduit$Network;", .fieldLink RX0 45 "ConvexConduit$Network" "arcs" "I", .fieldLink RX0 9 "ConvexConduit$CheapestFlow" "on" "[I", .fieldLink RX0 15 "ConvexConduit$CheapestFlow" "low" "[I", .fieldLink RX0 18 "ConvexConduit$CheapestFlow" "high" "[I", .fieldLink RX0 65 "ConvexConduit$Network" "capacity" "[I"] ++ wsX00 ++ wsX20)
def wsX2_steps : List Cond := .code yX2_steps cX2_steps 1 (some .int) :: ([.fieldLink RX2 9 "ConvexConduit$Network" "arcs" "I"] ++ wsX20)
def wsX2_goesAlong : List Cond := .code yX2_goesAlong cX2_goesAlong 1 (some .boolean) :: ([])
def wsX2_arcOf : List Cond := .code yX2_arcOf cX2_arcOf 1 (some .int) :: ([])
def wsX2_start : List Cond := .code yX2_start cX2_start 2 (some .int) :: ([.fieldLink RX2 15 "ConvexConduit$Network" "from" "[I", .fieldLink RX2 19 "ConvexConduit$Network" "to" "[I", .methodLink RX2 43 yX2_goesAlong, .static yX2_goesAlong, .initialized RX2, .code yX2_goesAlong cX2_goesAlong 1 (some .boolean), .methodLink RX2 47 yX2_arcOf, .static yX2_arcOf, .code yX2_arcOf cX2_arcOf 1 (some .int)] ++ wsX20)
def wsX2_end : List Cond := .code yX2_end cX2_end 2 (some .int) :: ([.fieldLink RX2 19 "ConvexConduit$Network" "to" "[I", .fieldLink RX2 15 "ConvexConduit$Network" "from" "[I", .methodLink RX2 43 yX2_goesAlong, .static yX2_goesAlong, .initialized RX2, .code yX2_goesAlong cX2_goesAlong 1 (some .boolean), .methodLink RX2 47 yX2_arcOf, .static yX2_arcOf, .code yX2_arcOf cX2_arcOf 1 (some .int)] ++ wsX20)
def wsX0_roomOf : List Cond := .code yX0_roomOf cX0_roomOf 3 (some .int) :: ([.fieldLink RX0 18 "ConvexConduit$CheapestFlow" "high" "[I", .fieldLink RX0 9 "ConvexConduit$CheapestFlow" "on" "[I", .fieldLink RX0 15 "ConvexConduit$CheapestFlow" "low" "[I", .methodLink RX0 85 yX2_arcOf, .static yX2_arcOf, .initialized RX2, .code yX2_arcOf cX2_arcOf 1 (some .int), .methodLink RX0 89 yX2_goesAlong, .static yX2_goesAlong, .code yX2_goesAlong cX2_goesAlong 1 (some .boolean)] ++ wsX00)
def wsX2_unitPrice : List Cond := .code yX2_unitPrice cX2_unitPrice 3 (some .int) :: ([.fieldLink RX2 25 "ConvexConduit$Network" "capacity" "[I", .constant RX2 38 (1000000), .fieldLink RX2 28 "ConvexConduit$Network" "prices" "[I"] ++ wsX20)
def wsX0_priceOf : List Cond := .code yX0_priceOf cX0_priceOf 3 (some .int) :: ([.fieldLink RX0 27 "ConvexConduit$CheapestFlow" "network" "LConvexConduit$Network;", .fieldLink RX0 9 "ConvexConduit$CheapestFlow" "on" "[I", .methodLink RX0 85 yX2_arcOf, .static yX2_arcOf, .initialized RX2, .code yX2_arcOf cX2_arcOf 1 (some .int), .methodLink RX0 89 yX2_goesAlong, .static yX2_goesAlong, .code yX2_goesAlong cX2_goesAlong 1 (some .boolean), .methodLink RX0 51 yX2_unitPrice, .instanceMethod yX2_unitPrice, .selects RX2 yX2_unitPrice yX2_unitPrice, .code yX2_unitPrice cX2_unitPrice 3 (some .int), .fieldLink RX2 25 "ConvexConduit$Network" "capacity" "[I", .constant RX2 38 (1000000), .fieldLink RX2 28 "ConvexConduit$Network" "prices" "[I"] ++ wsX00 ++ wsX20)
def wsX0_shorten_r1 : List Cond := [Cond.fieldLink RX0 27 "ConvexConduit$CheapestFlow" "network" "LConvexConduit$Network;", Cond.fieldLink RX0 21 "ConvexConduit$CheapestFlow" "distance" "[I", Cond.constant RX0 55 (1000000), Cond.fieldLink RX0 24 "ConvexConduit$CheapestFlow" "cameBy" "[I", Cond.methodLink RX0 93 yX2_start, Cond.instanceMethod yX2_start, Cond.selects RX2 yX2_start yX2_start, Cond.initialized RX2, Cond.code yX2_start cX2_start 2 (some .int), Cond.fieldLink RX2 15 "ConvexConduit$Network" "from" "[I", Cond.fieldLink RX2 19 "ConvexConduit$Network" "to" "[I", Cond.methodLink RX2 43 yX2_goesAlong, Cond.static yX2_goesAlong, Cond.code yX2_goesAlong cX2_goesAlong 1 (some .boolean), Cond.methodLink RX2 47 yX2_arcOf, Cond.static yX2_arcOf, Cond.code yX2_arcOf cX2_arcOf 1 (some .int), Cond.methodLink RX0 109 yX2_end, Cond.instanceMethod yX2_end, Cond.selects RX2 yX2_end yX2_end, Cond.code yX2_end cX2_end 2 (some .int), Cond.methodLink RX0 96 yX0_roomOf, Cond.instanceMethod yX0_roomOf, Cond.selects RX0 yX0_roomOf yX0_roomOf]
def wsX0_shorten_r2 : List Cond := [Cond.initialized RX0, Cond.code yX0_roomOf cX0_roomOf 3 (some .int), Cond.fieldLink RX0 18 "ConvexConduit$CheapestFlow" "high" "[I", Cond.fieldLink RX0 9 "ConvexConduit$CheapestFlow" "on" "[I", Cond.fieldLink RX0 15 "ConvexConduit$CheapestFlow" "low" "[I", Cond.methodLink RX0 85 yX2_arcOf, Cond.methodLink RX0 89 yX2_goesAlong, Cond.methodLink RX0 112 yX0_priceOf, Cond.instanceMethod yX0_priceOf, Cond.selects RX0 yX0_priceOf yX0_priceOf, Cond.code yX0_priceOf cX0_priceOf 3 (some .int), Cond.methodLink RX0 51 yX2_unitPrice, Cond.instanceMethod yX2_unitPrice, Cond.selects RX2 yX2_unitPrice yX2_unitPrice, Cond.code yX2_unitPrice cX2_unitPrice 3 (some .int), Cond.fieldLink RX2 25 "ConvexConduit$Network" "capacity" "[I", Cond.constant RX2 38 (1000000), Cond.fieldLink RX2 28 "ConvexConduit$Network" "prices" "[I"]
def wsX0_shorten : List Cond := .code yX0_shorten cX0_shorten 4 (some .boolean) :: ((wsX0_shorten_r1 ++ wsX0_shorten_r2) ++ wsX00 ++ wsX20)
def wsX0_measure_r1 : List Cond := [Cond.fieldLink RX0 27 "ConvexConduit$CheapestFlow" "network" "LConvexConduit$Network;", Cond.fieldLink RX0 82 "ConvexConduit$Network" "nodes" "I", Cond.methodLink RX0 102 yX2_steps, Cond.instanceMethod yX2_steps, Cond.selects RX2 yX2_steps yX2_steps, Cond.initialized RX2, Cond.code yX2_steps cX2_steps 1 (some .int), Cond.fieldLink RX2 9 "ConvexConduit$Network" "arcs" "I", Cond.methodLink RX0 106 yX0_shorten, Cond.instanceMethod yX0_shorten, Cond.selects RX0 yX0_shorten yX0_shorten, Cond.initialized RX0, Cond.code yX0_shorten cX0_shorten 4 (some .boolean), Cond.fieldLink RX0 21 "ConvexConduit$CheapestFlow" "distance" "[I", Cond.constant RX0 55 (1000000), Cond.fieldLink RX0 24 "ConvexConduit$CheapestFlow" "cameBy" "[I", Cond.methodLink RX0 93 yX2_start, Cond.instanceMethod yX2_start, Cond.selects RX2 yX2_start yX2_start, Cond.code yX2_start cX2_start 2 (some .int), Cond.fieldLink RX2 15 "ConvexConduit$Network" "from" "[I", Cond.fieldLink RX2 19 "ConvexConduit$Network" "to" "[I", Cond.methodLink RX2 43 yX2_goesAlong, Cond.static yX2_goesAlong]
def wsX0_measure_r2 : List Cond := [Cond.code yX2_goesAlong cX2_goesAlong 1 (some .boolean), Cond.methodLink RX2 47 yX2_arcOf, Cond.static yX2_arcOf, Cond.code yX2_arcOf cX2_arcOf 1 (some .int), Cond.methodLink RX0 109 yX2_end, Cond.instanceMethod yX2_end, Cond.selects RX2 yX2_end yX2_end, Cond.code yX2_end cX2_end 2 (some .int), Cond.methodLink RX0 96 yX0_roomOf, Cond.instanceMethod yX0_roomOf, Cond.selects RX0 yX0_roomOf yX0_roomOf, Cond.code yX0_roomOf cX0_roomOf 3 (some .int), Cond.fieldLink RX0 18 "ConvexConduit$CheapestFlow" "high" "[I", Cond.fieldLink RX0 9 "ConvexConduit$CheapestFlow" "on" "[I", Cond.fieldLink RX0 15 "ConvexConduit$CheapestFlow" "low" "[I", Cond.methodLink RX0 85 yX2_arcOf, Cond.methodLink RX0 89 yX2_goesAlong, Cond.methodLink RX0 112 yX0_priceOf, Cond.instanceMethod yX0_priceOf, Cond.selects RX0 yX0_priceOf yX0_priceOf, Cond.code yX0_priceOf cX0_priceOf 3 (some .int), Cond.methodLink RX0 51 yX2_unitPrice, Cond.instanceMethod yX2_unitPrice, Cond.selects RX2 yX2_unitPrice yX2_unitPrice]
def wsX0_measure_r3 : List Cond := [Cond.code yX2_unitPrice cX2_unitPrice 3 (some .int), Cond.fieldLink RX2 25 "ConvexConduit$Network" "capacity" "[I", Cond.constant RX2 38 (1000000), Cond.fieldLink RX2 28 "ConvexConduit$Network" "prices" "[I"]
def wsX0_measure : List Cond := .code yX0_measure cX0_measure 4 none :: ((wsX0_measure_r1 ++ (wsX0_measure_r2 ++ wsX0_measure_r3)) ++ wsX00 ++ wsX20)
def wsX0_measureFrom_r1 : List Cond := [Cond.fieldLink RX0 27 "ConvexConduit$CheapestFlow" "network" "LConvexConduit$Network;", Cond.fieldLink RX0 82 "ConvexConduit$Network" "nodes" "I", Cond.fieldLink RX0 21 "ConvexConduit$CheapestFlow" "distance" "[I", Cond.constant RX0 55 (1000000), Cond.fieldLink RX0 24 "ConvexConduit$CheapestFlow" "cameBy" "[I", Cond.methodLink RX0 99 yX0_measure, Cond.instanceMethod yX0_measure, Cond.selects RX0 yX0_measure yX0_measure, Cond.initialized RX0, Cond.code yX0_measure cX0_measure 4 none, Cond.methodLink RX0 102 yX2_steps, Cond.instanceMethod yX2_steps, Cond.selects RX2 yX2_steps yX2_steps, Cond.initialized RX2, Cond.code yX2_steps cX2_steps 1 (some .int), Cond.fieldLink RX2 9 "ConvexConduit$Network" "arcs" "I", Cond.methodLink RX0 106 yX0_shorten, Cond.instanceMethod yX0_shorten, Cond.selects RX0 yX0_shorten yX0_shorten, Cond.code yX0_shorten cX0_shorten 4 (some .boolean), Cond.methodLink RX0 93 yX2_start, Cond.instanceMethod yX2_start, Cond.selects RX2 yX2_start yX2_start, Cond.code yX2_start cX2_start 2 (some .int)]
def wsX0_measureFrom_r2 : List Cond := [Cond.fieldLink RX2 15 "ConvexConduit$Network" "from" "[I", Cond.fieldLink RX2 19 "ConvexConduit$Network" "to" "[I", Cond.methodLink RX2 43 yX2_goesAlong, Cond.static yX2_goesAlong, Cond.code yX2_goesAlong cX2_goesAlong 1 (some .boolean), Cond.methodLink RX2 47 yX2_arcOf, Cond.static yX2_arcOf, Cond.code yX2_arcOf cX2_arcOf 1 (some .int), Cond.methodLink RX0 109 yX2_end, Cond.instanceMethod yX2_end, Cond.selects RX2 yX2_end yX2_end, Cond.code yX2_end cX2_end 2 (some .int), Cond.methodLink RX0 96 yX0_roomOf, Cond.instanceMethod yX0_roomOf, Cond.selects RX0 yX0_roomOf yX0_roomOf, Cond.code yX0_roomOf cX0_roomOf 3 (some .int), Cond.fieldLink RX0 18 "ConvexConduit$CheapestFlow" "high" "[I", Cond.fieldLink RX0 9 "ConvexConduit$CheapestFlow" "on" "[I", Cond.fieldLink RX0 15 "ConvexConduit$CheapestFlow" "low" "[I", Cond.methodLink RX0 85 yX2_arcOf, Cond.methodLink RX0 89 yX2_goesAlong, Cond.methodLink RX0 112 yX0_priceOf, Cond.instanceMethod yX0_priceOf, Cond.selects RX0 yX0_priceOf yX0_priceOf]
def wsX0_measureFrom_r3 : List Cond := [Cond.code yX0_priceOf cX0_priceOf 3 (some .int), Cond.methodLink RX0 51 yX2_unitPrice, Cond.instanceMethod yX2_unitPrice, Cond.selects RX2 yX2_unitPrice yX2_unitPrice, Cond.code yX2_unitPrice cX2_unitPrice 3 (some .int), Cond.fieldLink RX2 25 "ConvexConduit$Network" "capacity" "[I", Cond.constant RX2 38 (1000000), Cond.fieldLink RX2 28 "ConvexConduit$Network" "prices" "[I"]
def wsX0_measureFrom : List Cond := .code yX0_measureFrom cX0_measureFrom 3 none :: ((wsX0_measureFrom_r1 ++ (wsX0_measureFrom_r2 ++ wsX0_measureFrom_r3)) ++ wsX00 ++ wsX20)
def wsX0_roomOnWay_r1 : List Cond := [Cond.constant RX0 55 (1000000), Cond.fieldLink RX0 27 "ConvexConduit$CheapestFlow" "network" "LConvexConduit$Network;", Cond.fieldLink RX0 82 "ConvexConduit$Network" "nodes" "I", Cond.fieldLink RX0 24 "ConvexConduit$CheapestFlow" "cameBy" "[I", Cond.methodLink RX0 77 Lib.Math.min.name, Cond.static Lib.Math.min.name, Cond.initialized "java/lang/Math", Cond.code Lib.Math.min.name Lib.Math.min.code 2 (some .int), Cond.methodLink RX0 96 yX0_roomOf, Cond.instanceMethod yX0_roomOf, Cond.selects RX0 yX0_roomOf yX0_roomOf, Cond.initialized RX0, Cond.code yX0_roomOf cX0_roomOf 3 (some .int), Cond.fieldLink RX0 18 "ConvexConduit$CheapestFlow" "high" "[I", Cond.fieldLink RX0 9 "ConvexConduit$CheapestFlow" "on" "[I", Cond.fieldLink RX0 15 "ConvexConduit$CheapestFlow" "low" "[I", Cond.methodLink RX0 85 yX2_arcOf, Cond.static yX2_arcOf, Cond.initialized RX2, Cond.code yX2_arcOf cX2_arcOf 1 (some .int), Cond.methodLink RX0 89 yX2_goesAlong, Cond.static yX2_goesAlong, Cond.code yX2_goesAlong cX2_goesAlong 1 (some .boolean), Cond.methodLink RX0 93 yX2_start]
def wsX0_roomOnWay_r2 : List Cond := [Cond.instanceMethod yX2_start, Cond.selects RX2 yX2_start yX2_start, Cond.code yX2_start cX2_start 2 (some .int), Cond.fieldLink RX2 15 "ConvexConduit$Network" "from" "[I", Cond.fieldLink RX2 19 "ConvexConduit$Network" "to" "[I", Cond.methodLink RX2 43 yX2_goesAlong, Cond.methodLink RX2 47 yX2_arcOf]
def wsX0_roomOnWay : List Cond := .code yX0_roomOnWay cX0_roomOnWay 7 (some .int) :: ((wsX0_roomOnWay_r1 ++ wsX0_roomOnWay_r2) ++ wsX00 ++ wsX20)
def wsX0_sendOnWay_r1 : List Cond := [Cond.methodLink RX0 77 Lib.Math.min.name, Cond.static Lib.Math.min.name, Cond.initialized "java/lang/Math", Cond.code Lib.Math.min.name Lib.Math.min.code 2 (some .int), Cond.fieldLink RX0 27 "ConvexConduit$CheapestFlow" "network" "LConvexConduit$Network;", Cond.fieldLink RX0 82 "ConvexConduit$Network" "nodes" "I", Cond.fieldLink RX0 24 "ConvexConduit$CheapestFlow" "cameBy" "[I", Cond.fieldLink RX0 9 "ConvexConduit$CheapestFlow" "on" "[I", Cond.methodLink RX0 74 yX0_roomOnWay, Cond.instanceMethod yX0_roomOnWay, Cond.selects RX0 yX0_roomOnWay yX0_roomOnWay, Cond.initialized RX0, Cond.code yX0_roomOnWay cX0_roomOnWay 7 (some .int), Cond.constant RX0 55 (1000000), Cond.methodLink RX0 96 yX0_roomOf, Cond.instanceMethod yX0_roomOf, Cond.selects RX0 yX0_roomOf yX0_roomOf, Cond.code yX0_roomOf cX0_roomOf 3 (some .int), Cond.fieldLink RX0 18 "ConvexConduit$CheapestFlow" "high" "[I", Cond.fieldLink RX0 15 "ConvexConduit$CheapestFlow" "low" "[I", Cond.methodLink RX0 85 yX2_arcOf, Cond.static yX2_arcOf, Cond.initialized RX2, Cond.code yX2_arcOf cX2_arcOf 1 (some .int)]
def wsX0_sendOnWay_r2 : List Cond := [Cond.methodLink RX0 89 yX2_goesAlong, Cond.static yX2_goesAlong, Cond.code yX2_goesAlong cX2_goesAlong 1 (some .boolean), Cond.methodLink RX0 93 yX2_start, Cond.instanceMethod yX2_start, Cond.selects RX2 yX2_start yX2_start, Cond.code yX2_start cX2_start 2 (some .int), Cond.fieldLink RX2 15 "ConvexConduit$Network" "from" "[I", Cond.fieldLink RX2 19 "ConvexConduit$Network" "to" "[I", Cond.methodLink RX2 43 yX2_goesAlong, Cond.methodLink RX2 47 yX2_arcOf]
def wsX0_sendOnWay : List Cond := .code yX0_sendOnWay cX0_sendOnWay 8 (some .int) :: ((wsX0_sendOnWay_r1 ++ wsX0_sendOnWay_r2) ++ wsX00 ++ wsX20)
def wsX0_meet_r1 : List Cond := [Cond.methodLink RX0 31 yX0_empty, Cond.instanceMethod yX0_empty, Cond.selects RX0 yX0_empty yX0_empty, Cond.initialized RX0, Cond.code yX0_empty cX0_empty 2 none, Cond.fieldLink RX0 27 "ConvexConduit$CheapestFlow" "network" "LConvexConduit$Network;", Cond.fieldLink RX0 45 "ConvexConduit$Network" "arcs" "I", Cond.fieldLink RX0 9 "ConvexConduit$CheapestFlow" "on" "[I", Cond.fieldLink RX0 15 "ConvexConduit$CheapestFlow" "low" "[I", Cond.fieldLink RX0 18 "ConvexConduit$CheapestFlow" "high" "[I", Cond.fieldLink RX0 65 "ConvexConduit$Network" "capacity" "[I", Cond.methodLink RX0 34 yX0_measureFrom, Cond.instanceMethod yX0_measureFrom, Cond.selects RX0 yX0_measureFrom yX0_measureFrom, Cond.code yX0_measureFrom cX0_measureFrom 3 none, Cond.fieldLink RX0 82 "ConvexConduit$Network" "nodes" "I", Cond.fieldLink RX0 21 "ConvexConduit$CheapestFlow" "distance" "[I", Cond.constant RX0 55 (1000000), Cond.fieldLink RX0 24 "ConvexConduit$CheapestFlow" "cameBy" "[I", Cond.methodLink RX0 99 yX0_measure, Cond.instanceMethod yX0_measure, Cond.selects RX0 yX0_measure yX0_measure, Cond.code yX0_measure cX0_measure 4 none, Cond.methodLink RX0 102 yX2_steps]
def wsX0_meet_r2 : List Cond := [Cond.instanceMethod yX2_steps, Cond.selects RX2 yX2_steps yX2_steps, Cond.initialized RX2, Cond.code yX2_steps cX2_steps 1 (some .int), Cond.fieldLink RX2 9 "ConvexConduit$Network" "arcs" "I", Cond.methodLink RX0 106 yX0_shorten, Cond.instanceMethod yX0_shorten, Cond.selects RX0 yX0_shorten yX0_shorten, Cond.code yX0_shorten cX0_shorten 4 (some .boolean), Cond.methodLink RX0 93 yX2_start, Cond.instanceMethod yX2_start, Cond.selects RX2 yX2_start yX2_start, Cond.code yX2_start cX2_start 2 (some .int), Cond.fieldLink RX2 15 "ConvexConduit$Network" "from" "[I", Cond.fieldLink RX2 19 "ConvexConduit$Network" "to" "[I", Cond.methodLink RX2 43 yX2_goesAlong, Cond.static yX2_goesAlong, Cond.code yX2_goesAlong cX2_goesAlong 1 (some .boolean), Cond.methodLink RX2 47 yX2_arcOf, Cond.static yX2_arcOf, Cond.code yX2_arcOf cX2_arcOf 1 (some .int), Cond.methodLink RX0 109 yX2_end, Cond.instanceMethod yX2_end, Cond.selects RX2 yX2_end yX2_end]
def wsX0_meet_r3 : List Cond := [Cond.code yX2_end cX2_end 2 (some .int), Cond.methodLink RX0 96 yX0_roomOf, Cond.instanceMethod yX0_roomOf, Cond.selects RX0 yX0_roomOf yX0_roomOf, Cond.code yX0_roomOf cX0_roomOf 3 (some .int), Cond.methodLink RX0 85 yX2_arcOf, Cond.methodLink RX0 89 yX2_goesAlong, Cond.methodLink RX0 112 yX0_priceOf, Cond.instanceMethod yX0_priceOf, Cond.selects RX0 yX0_priceOf yX0_priceOf, Cond.code yX0_priceOf cX0_priceOf 3 (some .int), Cond.methodLink RX0 51 yX2_unitPrice, Cond.instanceMethod yX2_unitPrice, Cond.selects RX2 yX2_unitPrice yX2_unitPrice, Cond.code yX2_unitPrice cX2_unitPrice 3 (some .int), Cond.fieldLink RX2 25 "ConvexConduit$Network" "capacity" "[I", Cond.constant RX2 38 (1000000), Cond.fieldLink RX2 28 "ConvexConduit$Network" "prices" "[I", Cond.methodLink RX0 38 yX0_sendOnWay, Cond.instanceMethod yX0_sendOnWay, Cond.selects RX0 yX0_sendOnWay yX0_sendOnWay, Cond.code yX0_sendOnWay cX0_sendOnWay 8 (some .int), Cond.methodLink RX0 77 Lib.Math.min.name, Cond.static Lib.Math.min.name]
def wsX0_meet_r4 : List Cond := [Cond.initialized "java/lang/Math", Cond.code Lib.Math.min.name Lib.Math.min.code 2 (some .int), Cond.methodLink RX0 74 yX0_roomOnWay, Cond.instanceMethod yX0_roomOnWay, Cond.selects RX0 yX0_roomOnWay yX0_roomOnWay, Cond.code yX0_roomOnWay cX0_roomOnWay 7 (some .int)]
def wsX0_meet : List Cond := .code yX0_meet cX0_meet 5 (some .boolean) :: ((wsX0_meet_r1 ++ (wsX0_meet_r2 ++ (wsX0_meet_r3 ++ wsX0_meet_r4))) ++ wsX00 ++ wsX20)
def wsX0_widen_r1 : List Cond := [Cond.fieldLink RX0 27 "ConvexConduit$CheapestFlow" "network" "LConvexConduit$Network;", Cond.fieldLink RX0 24 "ConvexConduit$CheapestFlow" "cameBy" "[I", Cond.methodLink RX0 93 yX2_start, Cond.instanceMethod yX2_start, Cond.selects RX2 yX2_start yX2_start, Cond.initialized RX2, Cond.code yX2_start cX2_start 2 (some .int), Cond.fieldLink RX2 15 "ConvexConduit$Network" "from" "[I", Cond.fieldLink RX2 19 "ConvexConduit$Network" "to" "[I", Cond.methodLink RX2 43 yX2_goesAlong, Cond.static yX2_goesAlong, Cond.code yX2_goesAlong cX2_goesAlong 1 (some .boolean), Cond.methodLink RX2 47 yX2_arcOf, Cond.static yX2_arcOf, Cond.code yX2_arcOf cX2_arcOf 1 (some .int), Cond.methodLink RX0 109 yX2_end, Cond.instanceMethod yX2_end, Cond.selects RX2 yX2_end yX2_end, Cond.code yX2_end cX2_end 2 (some .int), Cond.methodLink RX0 96 yX0_roomOf, Cond.instanceMethod yX0_roomOf, Cond.selects RX0 yX0_roomOf yX0_roomOf, Cond.initialized RX0, Cond.code yX0_roomOf cX0_roomOf 3 (some .int)]
def wsX0_widen_r2 : List Cond := [Cond.fieldLink RX0 18 "ConvexConduit$CheapestFlow" "high" "[I", Cond.fieldLink RX0 9 "ConvexConduit$CheapestFlow" "on" "[I", Cond.fieldLink RX0 15 "ConvexConduit$CheapestFlow" "low" "[I", Cond.methodLink RX0 85 yX2_arcOf, Cond.methodLink RX0 89 yX2_goesAlong]
def wsX0_widen : List Cond := .code yX0_widen cX0_widen 6 (some .boolean) :: ((wsX0_widen_r1 ++ wsX0_widen_r2) ++ wsX00 ++ wsX20)
def wsX0_spreadFrom_r1 : List Cond := [Cond.fieldLink RX0 27 "ConvexConduit$CheapestFlow" "network" "LConvexConduit$Network;", Cond.fieldLink RX0 82 "ConvexConduit$Network" "nodes" "I", Cond.fieldLink RX0 24 "ConvexConduit$CheapestFlow" "cameBy" "[I", Cond.methodLink RX0 102 yX2_steps, Cond.instanceMethod yX2_steps, Cond.selects RX2 yX2_steps yX2_steps, Cond.initialized RX2, Cond.code yX2_steps cX2_steps 1 (some .int), Cond.fieldLink RX2 9 "ConvexConduit$Network" "arcs" "I", Cond.methodLink RX0 115 yX0_widen, Cond.instanceMethod yX0_widen, Cond.selects RX0 yX0_widen yX0_widen, Cond.initialized RX0, Cond.code yX0_widen cX0_widen 6 (some .boolean), Cond.methodLink RX0 93 yX2_start, Cond.instanceMethod yX2_start, Cond.selects RX2 yX2_start yX2_start, Cond.code yX2_start cX2_start 2 (some .int), Cond.fieldLink RX2 15 "ConvexConduit$Network" "from" "[I", Cond.fieldLink RX2 19 "ConvexConduit$Network" "to" "[I", Cond.methodLink RX2 43 yX2_goesAlong, Cond.static yX2_goesAlong, Cond.code yX2_goesAlong cX2_goesAlong 1 (some .boolean), Cond.methodLink RX2 47 yX2_arcOf]
def wsX0_spreadFrom_r2 : List Cond := [Cond.static yX2_arcOf, Cond.code yX2_arcOf cX2_arcOf 1 (some .int), Cond.methodLink RX0 109 yX2_end, Cond.instanceMethod yX2_end, Cond.selects RX2 yX2_end yX2_end, Cond.code yX2_end cX2_end 2 (some .int), Cond.methodLink RX0 96 yX0_roomOf, Cond.instanceMethod yX0_roomOf, Cond.selects RX0 yX0_roomOf yX0_roomOf, Cond.code yX0_roomOf cX0_roomOf 3 (some .int), Cond.fieldLink RX0 18 "ConvexConduit$CheapestFlow" "high" "[I", Cond.fieldLink RX0 9 "ConvexConduit$CheapestFlow" "on" "[I", Cond.fieldLink RX0 15 "ConvexConduit$CheapestFlow" "low" "[I", Cond.methodLink RX0 85 yX2_arcOf, Cond.methodLink RX0 89 yX2_goesAlong]
def wsX0_spreadFrom : List Cond := .code yX0_spreadFrom cX0_spreadFrom 5 none :: ((wsX0_spreadFrom_r1 ++ wsX0_spreadFrom_r2) ++ wsX00 ++ wsX20)
def wsX0_send_r1 : List Cond := [Cond.methodLink RX0 71 yX0_spreadFrom, Cond.instanceMethod yX0_spreadFrom, Cond.selects RX0 yX0_spreadFrom yX0_spreadFrom, Cond.initialized RX0, Cond.code yX0_spreadFrom cX0_spreadFrom 5 none, Cond.fieldLink RX0 27 "ConvexConduit$CheapestFlow" "network" "LConvexConduit$Network;", Cond.fieldLink RX0 82 "ConvexConduit$Network" "nodes" "I", Cond.fieldLink RX0 24 "ConvexConduit$CheapestFlow" "cameBy" "[I", Cond.methodLink RX0 102 yX2_steps, Cond.instanceMethod yX2_steps, Cond.selects RX2 yX2_steps yX2_steps, Cond.initialized RX2, Cond.code yX2_steps cX2_steps 1 (some .int), Cond.fieldLink RX2 9 "ConvexConduit$Network" "arcs" "I", Cond.methodLink RX0 115 yX0_widen, Cond.instanceMethod yX0_widen, Cond.selects RX0 yX0_widen yX0_widen, Cond.code yX0_widen cX0_widen 6 (some .boolean), Cond.methodLink RX0 93 yX2_start, Cond.instanceMethod yX2_start, Cond.selects RX2 yX2_start yX2_start, Cond.code yX2_start cX2_start 2 (some .int), Cond.fieldLink RX2 15 "ConvexConduit$Network" "from" "[I", Cond.fieldLink RX2 19 "ConvexConduit$Network" "to" "[I"]
def wsX0_send_r2 : List Cond := [Cond.methodLink RX2 43 yX2_goesAlong, Cond.static yX2_goesAlong, Cond.code yX2_goesAlong cX2_goesAlong 1 (some .boolean), Cond.methodLink RX2 47 yX2_arcOf, Cond.static yX2_arcOf, Cond.code yX2_arcOf cX2_arcOf 1 (some .int), Cond.methodLink RX0 109 yX2_end, Cond.instanceMethod yX2_end, Cond.selects RX2 yX2_end yX2_end, Cond.code yX2_end cX2_end 2 (some .int), Cond.methodLink RX0 96 yX0_roomOf, Cond.instanceMethod yX0_roomOf, Cond.selects RX0 yX0_roomOf yX0_roomOf, Cond.code yX0_roomOf cX0_roomOf 3 (some .int), Cond.fieldLink RX0 18 "ConvexConduit$CheapestFlow" "high" "[I", Cond.fieldLink RX0 9 "ConvexConduit$CheapestFlow" "on" "[I", Cond.fieldLink RX0 15 "ConvexConduit$CheapestFlow" "low" "[I", Cond.methodLink RX0 85 yX2_arcOf, Cond.methodLink RX0 89 yX2_goesAlong, Cond.methodLink RX0 38 yX0_sendOnWay, Cond.instanceMethod yX0_sendOnWay, Cond.selects RX0 yX0_sendOnWay yX0_sendOnWay, Cond.code yX0_sendOnWay cX0_sendOnWay 8 (some .int), Cond.methodLink RX0 77 Lib.Math.min.name]
def wsX0_send_r3 : List Cond := [Cond.static Lib.Math.min.name, Cond.initialized "java/lang/Math", Cond.code Lib.Math.min.name Lib.Math.min.code 2 (some .int), Cond.methodLink RX0 74 yX0_roomOnWay, Cond.instanceMethod yX0_roomOnWay, Cond.selects RX0 yX0_roomOnWay yX0_roomOnWay, Cond.code yX0_roomOnWay cX0_roomOnWay 7 (some .int), Cond.constant RX0 55 (1000000)]
def wsX0_send : List Cond := .code yX0_send cX0_send 7 (some .int) :: ((wsX0_send_r1 ++ (wsX0_send_r2 ++ wsX0_send_r3)) ++ wsX00 ++ wsX20)
def wsX0_greatestAmount_r1 : List Cond := [Cond.methodLink RX0 31 yX0_empty, Cond.instanceMethod yX0_empty, Cond.selects RX0 yX0_empty yX0_empty, Cond.initialized RX0, Cond.code yX0_empty cX0_empty 2 none, Cond.fieldLink RX0 27 "ConvexConduit$CheapestFlow" "network" "LConvexConduit$Network;", Cond.fieldLink RX0 45 "ConvexConduit$Network" "arcs" "I", Cond.fieldLink RX0 9 "ConvexConduit$CheapestFlow" "on" "[I", Cond.fieldLink RX0 15 "ConvexConduit$CheapestFlow" "low" "[I", Cond.fieldLink RX0 18 "ConvexConduit$CheapestFlow" "high" "[I", Cond.fieldLink RX0 65 "ConvexConduit$Network" "capacity" "[I", Cond.methodLink RX0 42 yX0_send, Cond.instanceMethod yX0_send, Cond.selects RX0 yX0_send yX0_send, Cond.code yX0_send cX0_send 7 (some .int), Cond.methodLink RX0 71 yX0_spreadFrom, Cond.instanceMethod yX0_spreadFrom, Cond.selects RX0 yX0_spreadFrom yX0_spreadFrom, Cond.code yX0_spreadFrom cX0_spreadFrom 5 none, Cond.fieldLink RX0 82 "ConvexConduit$Network" "nodes" "I", Cond.fieldLink RX0 24 "ConvexConduit$CheapestFlow" "cameBy" "[I", Cond.methodLink RX0 102 yX2_steps, Cond.instanceMethod yX2_steps, Cond.selects RX2 yX2_steps yX2_steps]
def wsX0_greatestAmount_r2 : List Cond := [Cond.initialized RX2, Cond.code yX2_steps cX2_steps 1 (some .int), Cond.fieldLink RX2 9 "ConvexConduit$Network" "arcs" "I", Cond.methodLink RX0 115 yX0_widen, Cond.instanceMethod yX0_widen, Cond.selects RX0 yX0_widen yX0_widen, Cond.code yX0_widen cX0_widen 6 (some .boolean), Cond.methodLink RX0 93 yX2_start, Cond.instanceMethod yX2_start, Cond.selects RX2 yX2_start yX2_start, Cond.code yX2_start cX2_start 2 (some .int), Cond.fieldLink RX2 15 "ConvexConduit$Network" "from" "[I", Cond.fieldLink RX2 19 "ConvexConduit$Network" "to" "[I", Cond.methodLink RX2 43 yX2_goesAlong, Cond.static yX2_goesAlong, Cond.code yX2_goesAlong cX2_goesAlong 1 (some .boolean), Cond.methodLink RX2 47 yX2_arcOf, Cond.static yX2_arcOf, Cond.code yX2_arcOf cX2_arcOf 1 (some .int), Cond.methodLink RX0 109 yX2_end, Cond.instanceMethod yX2_end, Cond.selects RX2 yX2_end yX2_end, Cond.code yX2_end cX2_end 2 (some .int), Cond.methodLink RX0 96 yX0_roomOf]
def wsX0_greatestAmount_r3 : List Cond := [Cond.instanceMethod yX0_roomOf, Cond.selects RX0 yX0_roomOf yX0_roomOf, Cond.code yX0_roomOf cX0_roomOf 3 (some .int), Cond.methodLink RX0 85 yX2_arcOf, Cond.methodLink RX0 89 yX2_goesAlong, Cond.methodLink RX0 38 yX0_sendOnWay, Cond.instanceMethod yX0_sendOnWay, Cond.selects RX0 yX0_sendOnWay yX0_sendOnWay, Cond.code yX0_sendOnWay cX0_sendOnWay 8 (some .int), Cond.methodLink RX0 77 Lib.Math.min.name, Cond.static Lib.Math.min.name, Cond.initialized "java/lang/Math", Cond.code Lib.Math.min.name Lib.Math.min.code 2 (some .int), Cond.methodLink RX0 74 yX0_roomOnWay, Cond.instanceMethod yX0_roomOnWay, Cond.selects RX0 yX0_roomOnWay yX0_roomOnWay, Cond.code yX0_roomOnWay cX0_roomOnWay 7 (some .int), Cond.constant RX0 55 (1000000)]
def wsX0_greatestAmount : List Cond := .code yX0_greatestAmount cX0_greatestAmount 3 (some .int) :: ((wsX0_greatestAmount_r1 ++ (wsX0_greatestAmount_r2 ++ wsX0_greatestAmount_r3)) ++ wsX00 ++ wsX20)
def wsX0_totalPrice : List Cond := .code yX0_totalPrice cX0_totalPrice 4 (some .int) :: ([.fieldLink RX0 27 "ConvexConduit$CheapestFlow" "network" "LConvexConduit$Network;", .fieldLink RX0 45 "ConvexConduit$Network" "arcs" "I", .fieldLink RX0 9 "ConvexConduit$CheapestFlow" "on" "[I", .methodLink RX0 51 yX2_unitPrice, .instanceMethod yX2_unitPrice, .selects RX2 yX2_unitPrice yX2_unitPrice, .initialized RX2, .code yX2_unitPrice cX2_unitPrice 3 (some .int), .fieldLink RX2 25 "ConvexConduit$Network" "capacity" "[I", .constant RX2 38 (1000000), .fieldLink RX2 28 "ConvexConduit$Network" "prices" "[I"] ++ wsX00 ++ wsX20)
def wsX0_priceOfUnitMore_r1 : List Cond := [Cond.fieldLink RX0 21 "ConvexConduit$CheapestFlow" "distance" "[I", Cond.constant RX0 55 (1000000), Cond.methodLink RX0 34 yX0_measureFrom, Cond.instanceMethod yX0_measureFrom, Cond.selects RX0 yX0_measureFrom yX0_measureFrom, Cond.initialized RX0, Cond.code yX0_measureFrom cX0_measureFrom 3 none, Cond.fieldLink RX0 27 "ConvexConduit$CheapestFlow" "network" "LConvexConduit$Network;", Cond.fieldLink RX0 82 "ConvexConduit$Network" "nodes" "I", Cond.fieldLink RX0 24 "ConvexConduit$CheapestFlow" "cameBy" "[I", Cond.methodLink RX0 99 yX0_measure, Cond.instanceMethod yX0_measure, Cond.selects RX0 yX0_measure yX0_measure, Cond.code yX0_measure cX0_measure 4 none, Cond.methodLink RX0 102 yX2_steps, Cond.instanceMethod yX2_steps, Cond.selects RX2 yX2_steps yX2_steps, Cond.initialized RX2, Cond.code yX2_steps cX2_steps 1 (some .int), Cond.fieldLink RX2 9 "ConvexConduit$Network" "arcs" "I", Cond.methodLink RX0 106 yX0_shorten, Cond.instanceMethod yX0_shorten, Cond.selects RX0 yX0_shorten yX0_shorten, Cond.code yX0_shorten cX0_shorten 4 (some .boolean)]
def wsX0_priceOfUnitMore_r2 : List Cond := [Cond.methodLink RX0 93 yX2_start, Cond.instanceMethod yX2_start, Cond.selects RX2 yX2_start yX2_start, Cond.code yX2_start cX2_start 2 (some .int), Cond.fieldLink RX2 15 "ConvexConduit$Network" "from" "[I", Cond.fieldLink RX2 19 "ConvexConduit$Network" "to" "[I", Cond.methodLink RX2 43 yX2_goesAlong, Cond.static yX2_goesAlong, Cond.code yX2_goesAlong cX2_goesAlong 1 (some .boolean), Cond.methodLink RX2 47 yX2_arcOf, Cond.static yX2_arcOf, Cond.code yX2_arcOf cX2_arcOf 1 (some .int), Cond.methodLink RX0 109 yX2_end, Cond.instanceMethod yX2_end, Cond.selects RX2 yX2_end yX2_end, Cond.code yX2_end cX2_end 2 (some .int), Cond.methodLink RX0 96 yX0_roomOf, Cond.instanceMethod yX0_roomOf, Cond.selects RX0 yX0_roomOf yX0_roomOf, Cond.code yX0_roomOf cX0_roomOf 3 (some .int), Cond.fieldLink RX0 18 "ConvexConduit$CheapestFlow" "high" "[I", Cond.fieldLink RX0 9 "ConvexConduit$CheapestFlow" "on" "[I", Cond.fieldLink RX0 15 "ConvexConduit$CheapestFlow" "low" "[I", Cond.methodLink RX0 85 yX2_arcOf]
def wsX0_priceOfUnitMore_r3 : List Cond := [Cond.methodLink RX0 89 yX2_goesAlong, Cond.methodLink RX0 112 yX0_priceOf, Cond.instanceMethod yX0_priceOf, Cond.selects RX0 yX0_priceOf yX0_priceOf, Cond.code yX0_priceOf cX0_priceOf 3 (some .int), Cond.methodLink RX0 51 yX2_unitPrice, Cond.instanceMethod yX2_unitPrice, Cond.selects RX2 yX2_unitPrice yX2_unitPrice, Cond.code yX2_unitPrice cX2_unitPrice 3 (some .int), Cond.fieldLink RX2 25 "ConvexConduit$Network" "capacity" "[I", Cond.constant RX2 38 (1000000), Cond.fieldLink RX2 28 "ConvexConduit$Network" "prices" "[I"]
def wsX0_priceOfUnitMore : List Cond := .code yX0_priceOfUnitMore cX0_priceOfUnitMore 3 (some .int) :: ((wsX0_priceOfUnitMore_r1 ++ (wsX0_priceOfUnitMore_r2 ++ wsX0_priceOfUnitMore_r3)) ++ wsX00 ++ wsX20)
def wsX0_measureFromAll_r1 : List Cond := [Cond.fieldLink RX0 27 "ConvexConduit$CheapestFlow" "network" "LConvexConduit$Network;", Cond.fieldLink RX0 82 "ConvexConduit$Network" "nodes" "I", Cond.fieldLink RX0 21 "ConvexConduit$CheapestFlow" "distance" "[I", Cond.fieldLink RX0 24 "ConvexConduit$CheapestFlow" "cameBy" "[I", Cond.methodLink RX0 99 yX0_measure, Cond.instanceMethod yX0_measure, Cond.selects RX0 yX0_measure yX0_measure, Cond.initialized RX0, Cond.code yX0_measure cX0_measure 4 none, Cond.methodLink RX0 102 yX2_steps, Cond.instanceMethod yX2_steps, Cond.selects RX2 yX2_steps yX2_steps, Cond.initialized RX2, Cond.code yX2_steps cX2_steps 1 (some .int), Cond.fieldLink RX2 9 "ConvexConduit$Network" "arcs" "I", Cond.methodLink RX0 106 yX0_shorten, Cond.instanceMethod yX0_shorten, Cond.selects RX0 yX0_shorten yX0_shorten, Cond.code yX0_shorten cX0_shorten 4 (some .boolean), Cond.constant RX0 55 (1000000), Cond.methodLink RX0 93 yX2_start, Cond.instanceMethod yX2_start, Cond.selects RX2 yX2_start yX2_start, Cond.code yX2_start cX2_start 2 (some .int)]
def wsX0_measureFromAll_r2 : List Cond := [Cond.fieldLink RX2 15 "ConvexConduit$Network" "from" "[I", Cond.fieldLink RX2 19 "ConvexConduit$Network" "to" "[I", Cond.methodLink RX2 43 yX2_goesAlong, Cond.static yX2_goesAlong, Cond.code yX2_goesAlong cX2_goesAlong 1 (some .boolean), Cond.methodLink RX2 47 yX2_arcOf, Cond.static yX2_arcOf, Cond.code yX2_arcOf cX2_arcOf 1 (some .int), Cond.methodLink RX0 109 yX2_end, Cond.instanceMethod yX2_end, Cond.selects RX2 yX2_end yX2_end, Cond.code yX2_end cX2_end 2 (some .int), Cond.methodLink RX0 96 yX0_roomOf, Cond.instanceMethod yX0_roomOf, Cond.selects RX0 yX0_roomOf yX0_roomOf, Cond.code yX0_roomOf cX0_roomOf 3 (some .int), Cond.fieldLink RX0 18 "ConvexConduit$CheapestFlow" "high" "[I", Cond.fieldLink RX0 9 "ConvexConduit$CheapestFlow" "on" "[I", Cond.fieldLink RX0 15 "ConvexConduit$CheapestFlow" "low" "[I", Cond.methodLink RX0 85 yX2_arcOf, Cond.methodLink RX0 89 yX2_goesAlong, Cond.methodLink RX0 112 yX0_priceOf, Cond.instanceMethod yX0_priceOf, Cond.selects RX0 yX0_priceOf yX0_priceOf]
def wsX0_measureFromAll_r3 : List Cond := [Cond.code yX0_priceOf cX0_priceOf 3 (some .int), Cond.methodLink RX0 51 yX2_unitPrice, Cond.instanceMethod yX2_unitPrice, Cond.selects RX2 yX2_unitPrice yX2_unitPrice, Cond.code yX2_unitPrice cX2_unitPrice 3 (some .int), Cond.fieldLink RX2 25 "ConvexConduit$Network" "capacity" "[I", Cond.constant RX2 38 (1000000), Cond.fieldLink RX2 28 "ConvexConduit$Network" "prices" "[I"]
def wsX0_measureFromAll : List Cond := .code yX0_measureFromAll cX0_measureFromAll 2 none :: ((wsX0_measureFromAll_r1 ++ (wsX0_measureFromAll_r2 ++ wsX0_measureFromAll_r3)) ++ wsX00 ++ wsX20)
def wsX0_keepToCheapest_r1 : List Cond := [Cond.fieldLink RX0 27 "ConvexConduit$CheapestFlow" "network" "LConvexConduit$Network;", Cond.fieldLink RX0 45 "ConvexConduit$Network" "arcs" "I", Cond.fieldLink RX0 21 "ConvexConduit$CheapestFlow" "distance" "[I", Cond.fieldLink RX0 59 "ConvexConduit$Network" "to" "[I", Cond.fieldLink RX0 62 "ConvexConduit$Network" "from" "[I", Cond.fieldLink RX0 15 "ConvexConduit$CheapestFlow" "low" "[I", Cond.fieldLink RX0 18 "ConvexConduit$CheapestFlow" "high" "[I", Cond.fieldLink RX0 65 "ConvexConduit$Network" "capacity" "[I", Cond.methodLink RX0 56 yX0_measureFromAll, Cond.instanceMethod yX0_measureFromAll, Cond.selects RX0 yX0_measureFromAll yX0_measureFromAll, Cond.initialized RX0, Cond.code yX0_measureFromAll cX0_measureFromAll 2 none, Cond.fieldLink RX0 82 "ConvexConduit$Network" "nodes" "I", Cond.fieldLink RX0 24 "ConvexConduit$CheapestFlow" "cameBy" "[I", Cond.methodLink RX0 99 yX0_measure, Cond.instanceMethod yX0_measure, Cond.selects RX0 yX0_measure yX0_measure, Cond.code yX0_measure cX0_measure 4 none, Cond.methodLink RX0 102 yX2_steps, Cond.instanceMethod yX2_steps, Cond.selects RX2 yX2_steps yX2_steps, Cond.initialized RX2, Cond.code yX2_steps cX2_steps 1 (some .int)]
def wsX0_keepToCheapest_r2 : List Cond := [Cond.fieldLink RX2 9 "ConvexConduit$Network" "arcs" "I", Cond.methodLink RX0 106 yX0_shorten, Cond.instanceMethod yX0_shorten, Cond.selects RX0 yX0_shorten yX0_shorten, Cond.code yX0_shorten cX0_shorten 4 (some .boolean), Cond.constant RX0 55 (1000000), Cond.methodLink RX0 93 yX2_start, Cond.instanceMethod yX2_start, Cond.selects RX2 yX2_start yX2_start, Cond.code yX2_start cX2_start 2 (some .int), Cond.fieldLink RX2 15 "ConvexConduit$Network" "from" "[I", Cond.fieldLink RX2 19 "ConvexConduit$Network" "to" "[I", Cond.methodLink RX2 43 yX2_goesAlong, Cond.static yX2_goesAlong, Cond.code yX2_goesAlong cX2_goesAlong 1 (some .boolean), Cond.methodLink RX2 47 yX2_arcOf, Cond.static yX2_arcOf, Cond.code yX2_arcOf cX2_arcOf 1 (some .int), Cond.methodLink RX0 109 yX2_end, Cond.instanceMethod yX2_end, Cond.selects RX2 yX2_end yX2_end, Cond.code yX2_end cX2_end 2 (some .int), Cond.methodLink RX0 96 yX0_roomOf, Cond.instanceMethod yX0_roomOf]
def wsX0_keepToCheapest_r3 : List Cond := [Cond.selects RX0 yX0_roomOf yX0_roomOf, Cond.code yX0_roomOf cX0_roomOf 3 (some .int), Cond.fieldLink RX0 9 "ConvexConduit$CheapestFlow" "on" "[I", Cond.methodLink RX0 85 yX2_arcOf, Cond.methodLink RX0 89 yX2_goesAlong, Cond.methodLink RX0 112 yX0_priceOf, Cond.instanceMethod yX0_priceOf, Cond.selects RX0 yX0_priceOf yX0_priceOf, Cond.code yX0_priceOf cX0_priceOf 3 (some .int), Cond.methodLink RX0 51 yX2_unitPrice, Cond.instanceMethod yX2_unitPrice, Cond.selects RX2 yX2_unitPrice yX2_unitPrice, Cond.code yX2_unitPrice cX2_unitPrice 3 (some .int), Cond.fieldLink RX2 25 "ConvexConduit$Network" "capacity" "[I", Cond.constant RX2 38 (1000000), Cond.fieldLink RX2 28 "ConvexConduit$Network" "prices" "[I"]
def wsX0_keepToCheapest : List Cond := .code yX0_keepToCheapest cX0_keepToCheapest 5 none :: ((wsX0_keepToCheapest_r1 ++ (wsX0_keepToCheapest_r2 ++ wsX0_keepToCheapest_r3)) ++ wsX00 ++ wsX20)
def wsX0_hold : List Cond := .code yX0_hold cX0_hold 2 none :: ([.fieldLink RX0 15 "ConvexConduit$CheapestFlow" "low" "[I", .fieldLink RX0 9 "ConvexConduit$CheapestFlow" "on" "[I", .fieldLink RX0 18 "ConvexConduit$CheapestFlow" "high" "[I"] ++ wsX00)
def wsX0_lower_r1 : List Cond := [Cond.fieldLink RX0 9 "ConvexConduit$CheapestFlow" "on" "[I", Cond.fieldLink RX0 15 "ConvexConduit$CheapestFlow" "low" "[I", Cond.fieldLink RX0 27 "ConvexConduit$CheapestFlow" "network" "LConvexConduit$Network;", Cond.fieldLink RX0 62 "ConvexConduit$Network" "from" "[I", Cond.fieldLink RX0 59 "ConvexConduit$Network" "to" "[I", Cond.methodLink RX0 68 yX0_hold, Cond.instanceMethod yX0_hold, Cond.selects RX0 yX0_hold yX0_hold, Cond.initialized RX0, Cond.code yX0_hold cX0_hold 2 none, Cond.fieldLink RX0 18 "ConvexConduit$CheapestFlow" "high" "[I", Cond.methodLink RX0 42 yX0_send, Cond.instanceMethod yX0_send, Cond.selects RX0 yX0_send yX0_send, Cond.code yX0_send cX0_send 7 (some .int), Cond.methodLink RX0 71 yX0_spreadFrom, Cond.instanceMethod yX0_spreadFrom, Cond.selects RX0 yX0_spreadFrom yX0_spreadFrom, Cond.code yX0_spreadFrom cX0_spreadFrom 5 none, Cond.fieldLink RX0 82 "ConvexConduit$Network" "nodes" "I", Cond.fieldLink RX0 24 "ConvexConduit$CheapestFlow" "cameBy" "[I", Cond.methodLink RX0 102 yX2_steps, Cond.instanceMethod yX2_steps, Cond.selects RX2 yX2_steps yX2_steps]
def wsX0_lower_r2 : List Cond := [Cond.initialized RX2, Cond.code yX2_steps cX2_steps 1 (some .int), Cond.fieldLink RX2 9 "ConvexConduit$Network" "arcs" "I", Cond.methodLink RX0 115 yX0_widen, Cond.instanceMethod yX0_widen, Cond.selects RX0 yX0_widen yX0_widen, Cond.code yX0_widen cX0_widen 6 (some .boolean), Cond.methodLink RX0 93 yX2_start, Cond.instanceMethod yX2_start, Cond.selects RX2 yX2_start yX2_start, Cond.code yX2_start cX2_start 2 (some .int), Cond.fieldLink RX2 15 "ConvexConduit$Network" "from" "[I", Cond.fieldLink RX2 19 "ConvexConduit$Network" "to" "[I", Cond.methodLink RX2 43 yX2_goesAlong, Cond.static yX2_goesAlong, Cond.code yX2_goesAlong cX2_goesAlong 1 (some .boolean), Cond.methodLink RX2 47 yX2_arcOf, Cond.static yX2_arcOf, Cond.code yX2_arcOf cX2_arcOf 1 (some .int), Cond.methodLink RX0 109 yX2_end, Cond.instanceMethod yX2_end, Cond.selects RX2 yX2_end yX2_end, Cond.code yX2_end cX2_end 2 (some .int), Cond.methodLink RX0 96 yX0_roomOf]
def wsX0_lower_r3 : List Cond := [Cond.instanceMethod yX0_roomOf, Cond.selects RX0 yX0_roomOf yX0_roomOf, Cond.code yX0_roomOf cX0_roomOf 3 (some .int), Cond.methodLink RX0 85 yX2_arcOf, Cond.methodLink RX0 89 yX2_goesAlong, Cond.methodLink RX0 38 yX0_sendOnWay, Cond.instanceMethod yX0_sendOnWay, Cond.selects RX0 yX0_sendOnWay yX0_sendOnWay, Cond.code yX0_sendOnWay cX0_sendOnWay 8 (some .int), Cond.methodLink RX0 77 Lib.Math.min.name, Cond.static Lib.Math.min.name, Cond.initialized "java/lang/Math", Cond.code Lib.Math.min.name Lib.Math.min.code 2 (some .int), Cond.methodLink RX0 74 yX0_roomOnWay, Cond.instanceMethod yX0_roomOnWay, Cond.selects RX0 yX0_roomOnWay yX0_roomOnWay, Cond.code yX0_roomOnWay cX0_roomOnWay 7 (some .int), Cond.constant RX0 55 (1000000)]
def wsX0_lower : List Cond := .code yX0_lower cX0_lower 3 (some .int) :: ((wsX0_lower_r1 ++ (wsX0_lower_r2 ++ wsX0_lower_r3)) ++ wsX00 ++ wsX20)
def wsX0_raise_r1 : List Cond := [Cond.fieldLink RX0 18 "ConvexConduit$CheapestFlow" "high" "[I", Cond.fieldLink RX0 9 "ConvexConduit$CheapestFlow" "on" "[I", Cond.fieldLink RX0 27 "ConvexConduit$CheapestFlow" "network" "LConvexConduit$Network;", Cond.fieldLink RX0 59 "ConvexConduit$Network" "to" "[I", Cond.fieldLink RX0 62 "ConvexConduit$Network" "from" "[I", Cond.methodLink RX0 68 yX0_hold, Cond.instanceMethod yX0_hold, Cond.selects RX0 yX0_hold yX0_hold, Cond.initialized RX0, Cond.code yX0_hold cX0_hold 2 none, Cond.fieldLink RX0 15 "ConvexConduit$CheapestFlow" "low" "[I", Cond.methodLink RX0 42 yX0_send, Cond.instanceMethod yX0_send, Cond.selects RX0 yX0_send yX0_send, Cond.code yX0_send cX0_send 7 (some .int), Cond.methodLink RX0 71 yX0_spreadFrom, Cond.instanceMethod yX0_spreadFrom, Cond.selects RX0 yX0_spreadFrom yX0_spreadFrom, Cond.code yX0_spreadFrom cX0_spreadFrom 5 none, Cond.fieldLink RX0 82 "ConvexConduit$Network" "nodes" "I", Cond.fieldLink RX0 24 "ConvexConduit$CheapestFlow" "cameBy" "[I", Cond.methodLink RX0 102 yX2_steps, Cond.instanceMethod yX2_steps, Cond.selects RX2 yX2_steps yX2_steps]
def wsX0_raise_r2 : List Cond := [Cond.initialized RX2, Cond.code yX2_steps cX2_steps 1 (some .int), Cond.fieldLink RX2 9 "ConvexConduit$Network" "arcs" "I", Cond.methodLink RX0 115 yX0_widen, Cond.instanceMethod yX0_widen, Cond.selects RX0 yX0_widen yX0_widen, Cond.code yX0_widen cX0_widen 6 (some .boolean), Cond.methodLink RX0 93 yX2_start, Cond.instanceMethod yX2_start, Cond.selects RX2 yX2_start yX2_start, Cond.code yX2_start cX2_start 2 (some .int), Cond.fieldLink RX2 15 "ConvexConduit$Network" "from" "[I", Cond.fieldLink RX2 19 "ConvexConduit$Network" "to" "[I", Cond.methodLink RX2 43 yX2_goesAlong, Cond.static yX2_goesAlong, Cond.code yX2_goesAlong cX2_goesAlong 1 (some .boolean), Cond.methodLink RX2 47 yX2_arcOf, Cond.static yX2_arcOf, Cond.code yX2_arcOf cX2_arcOf 1 (some .int), Cond.methodLink RX0 109 yX2_end, Cond.instanceMethod yX2_end, Cond.selects RX2 yX2_end yX2_end, Cond.code yX2_end cX2_end 2 (some .int), Cond.methodLink RX0 96 yX0_roomOf]
def wsX0_raise_r3 : List Cond := [Cond.instanceMethod yX0_roomOf, Cond.selects RX0 yX0_roomOf yX0_roomOf, Cond.code yX0_roomOf cX0_roomOf 3 (some .int), Cond.methodLink RX0 85 yX2_arcOf, Cond.methodLink RX0 89 yX2_goesAlong, Cond.methodLink RX0 38 yX0_sendOnWay, Cond.instanceMethod yX0_sendOnWay, Cond.selects RX0 yX0_sendOnWay yX0_sendOnWay, Cond.code yX0_sendOnWay cX0_sendOnWay 8 (some .int), Cond.methodLink RX0 77 Lib.Math.min.name, Cond.static Lib.Math.min.name, Cond.initialized "java/lang/Math", Cond.code Lib.Math.min.name Lib.Math.min.code 2 (some .int), Cond.methodLink RX0 74 yX0_roomOnWay, Cond.instanceMethod yX0_roomOnWay, Cond.selects RX0 yX0_roomOnWay yX0_roomOnWay, Cond.code yX0_roomOnWay cX0_roomOnWay 7 (some .int), Cond.constant RX0 55 (1000000)]
def wsX0_raise : List Cond := .code yX0_raise cX0_raise 3 (some .int) :: ((wsX0_raise_r1 ++ (wsX0_raise_r2 ++ wsX0_raise_r3)) ++ wsX00 ++ wsX20)
def wsX1_init : List Cond := .code yX1_init cX1_init 2 none :: ([.methodLink RX1 3 objectInit, .instanceMethod objectInit, .code objectInit ⟨#[0xb1]⟩ 1 none, .arrayClass .int, .fieldLink RX1 9 "ConvexConduit$Drivers" "taken" "[I", .fieldLink RX1 15 "ConvexConduit$Drivers" "weightToTarget" "[I", .fieldLink RX1 18 "ConvexConduit$Drivers" "found" "I", .fieldLink RX1 22 "ConvexConduit$Drivers" "paidByAll" "I", .fieldLink RX1 25 "ConvexConduit$Drivers" "paidLast" "I", .fieldLink RX1 28 "ConvexConduit$Drivers" "network" "LConvexConduit$Network;"] ++ wsX10)
def wsX1_nextPrice : List Cond := .code yX1_nextPrice cX1_nextPrice 2 (some .int) :: ([.fieldLink RX1 28 "ConvexConduit$Drivers" "network" "LConvexConduit$Network;", .fieldLink RX1 9 "ConvexConduit$Drivers" "taken" "[I", .methodLink RX1 68 yX2_unitPrice, .instanceMethod yX2_unitPrice, .selects RX2 yX2_unitPrice yX2_unitPrice, .initialized RX2, .code yX2_unitPrice cX2_unitPrice 3 (some .int), .fieldLink RX2 25 "ConvexConduit$Network" "capacity" "[I", .constant RX2 38 (1000000), .fieldLink RX2 28 "ConvexConduit$Network" "prices" "[I"] ++ wsX10 ++ wsX20)
def wsX1_weightBy : List Cond := .code yX1_weightBy cX1_weightBy 2 (some .int) :: ([.fieldLink RX1 9 "ConvexConduit$Drivers" "taken" "[I", .fieldLink RX1 28 "ConvexConduit$Drivers" "network" "LConvexConduit$Network;", .fieldLink RX1 56 "ConvexConduit$Network" "capacity" "[I", .fieldLink RX1 15 "ConvexConduit$Drivers" "weightToTarget" "[I", .fieldLink RX1 59 "ConvexConduit$Network" "to" "[I", .constant RX1 41 (1000000), .methodLink RX1 62 yX1_nextPrice, .instanceMethod yX1_nextPrice, .selects RX1 yX1_nextPrice yX1_nextPrice, .initialized RX1, .code yX1_nextPrice cX1_nextPrice 2 (some .int), .methodLink RX1 68 yX2_unitPrice, .instanceMethod yX2_unitPrice, .selects RX2 yX2_unitPrice yX2_unitPrice, .initialized RX2, .code yX2_unitPrice cX2_unitPrice 3 (some .int), .fieldLink RX2 25 "ConvexConduit$Network" "capacity" "[I", .constant RX2 38 (1000000), .fieldLink RX2 28 "ConvexConduit$Network" "prices" "[I"] ++ wsX10 ++ wsX20)
def wsX1_weighWaysTo_r1 : List Cond := [Cond.fieldLink RX1 28 "ConvexConduit$Drivers" "network" "LConvexConduit$Network;", Cond.fieldLink RX1 46 "ConvexConduit$Network" "nodes" "I", Cond.fieldLink RX1 15 "ConvexConduit$Drivers" "weightToTarget" "[I", Cond.constant RX1 41 (1000000), Cond.fieldLink RX1 32 "ConvexConduit$Network" "arcs" "I", Cond.fieldLink RX1 53 "ConvexConduit$Network" "from" "[I", Cond.methodLink RX1 49 yX1_weightBy, Cond.instanceMethod yX1_weightBy, Cond.selects RX1 yX1_weightBy yX1_weightBy, Cond.initialized RX1, Cond.code yX1_weightBy cX1_weightBy 2 (some .int), Cond.fieldLink RX1 9 "ConvexConduit$Drivers" "taken" "[I", Cond.fieldLink RX1 56 "ConvexConduit$Network" "capacity" "[I", Cond.fieldLink RX1 59 "ConvexConduit$Network" "to" "[I", Cond.methodLink RX1 62 yX1_nextPrice, Cond.instanceMethod yX1_nextPrice, Cond.selects RX1 yX1_nextPrice yX1_nextPrice, Cond.code yX1_nextPrice cX1_nextPrice 2 (some .int), Cond.methodLink RX1 68 yX2_unitPrice, Cond.instanceMethod yX2_unitPrice, Cond.selects RX2 yX2_unitPrice yX2_unitPrice, Cond.initialized RX2, Cond.code yX2_unitPrice cX2_unitPrice 3 (some .int), Cond.fieldLink RX2 25 "ConvexConduit$Network" "capacity" "[I"]
def wsX1_weighWaysTo_r2 : List Cond := [Cond.constant RX2 38 (1000000), Cond.fieldLink RX2 28 "ConvexConduit$Network" "prices" "[I"]
def wsX1_weighWaysTo : List Cond := .code yX1_weighWaysTo cX1_weighWaysTo 6 none :: ((wsX1_weighWaysTo_r1 ++ wsX1_weighWaysTo_r2) ++ wsX10 ++ wsX20)
def wsX1_bestArcFrom_r1 : List Cond := [Cond.fieldLink RX1 28 "ConvexConduit$Drivers" "network" "LConvexConduit$Network;", Cond.fieldLink RX1 32 "ConvexConduit$Network" "arcs" "I", Cond.fieldLink RX1 53 "ConvexConduit$Network" "from" "[I", Cond.fieldLink RX1 15 "ConvexConduit$Drivers" "weightToTarget" "[I", Cond.methodLink RX1 49 yX1_weightBy, Cond.instanceMethod yX1_weightBy, Cond.selects RX1 yX1_weightBy yX1_weightBy, Cond.initialized RX1, Cond.code yX1_weightBy cX1_weightBy 2 (some .int), Cond.fieldLink RX1 9 "ConvexConduit$Drivers" "taken" "[I", Cond.fieldLink RX1 56 "ConvexConduit$Network" "capacity" "[I", Cond.fieldLink RX1 59 "ConvexConduit$Network" "to" "[I", Cond.constant RX1 41 (1000000), Cond.methodLink RX1 62 yX1_nextPrice, Cond.instanceMethod yX1_nextPrice, Cond.selects RX1 yX1_nextPrice yX1_nextPrice, Cond.code yX1_nextPrice cX1_nextPrice 2 (some .int), Cond.methodLink RX1 68 yX2_unitPrice, Cond.instanceMethod yX2_unitPrice, Cond.selects RX2 yX2_unitPrice yX2_unitPrice, Cond.initialized RX2, Cond.code yX2_unitPrice cX2_unitPrice 3 (some .int), Cond.fieldLink RX2 25 "ConvexConduit$Network" "capacity" "[I", Cond.constant RX2 38 (1000000)]
def wsX1_bestArcFrom_r2 : List Cond := [Cond.fieldLink RX2 28 "ConvexConduit$Network" "prices" "[I"]
def wsX1_bestArcFrom : List Cond := .code yX1_bestArcFrom cX1_bestArcFrom 3 (some .int) :: ((wsX1_bestArcFrom_r1 ++ wsX1_bestArcFrom_r2) ++ wsX10 ++ wsX20)
def wsX1_drive_r1 : List Cond := [Cond.fieldLink RX1 28 "ConvexConduit$Drivers" "network" "LConvexConduit$Network;", Cond.fieldLink RX1 46 "ConvexConduit$Network" "nodes" "I", Cond.fieldLink RX1 59 "ConvexConduit$Network" "to" "[I", Cond.fieldLink RX1 9 "ConvexConduit$Drivers" "taken" "[I", Cond.methodLink RX1 65 yX1_bestArcFrom, Cond.instanceMethod yX1_bestArcFrom, Cond.selects RX1 yX1_bestArcFrom yX1_bestArcFrom, Cond.initialized RX1, Cond.code yX1_bestArcFrom cX1_bestArcFrom 3 (some .int), Cond.fieldLink RX1 32 "ConvexConduit$Network" "arcs" "I", Cond.fieldLink RX1 53 "ConvexConduit$Network" "from" "[I", Cond.fieldLink RX1 15 "ConvexConduit$Drivers" "weightToTarget" "[I", Cond.methodLink RX1 49 yX1_weightBy, Cond.instanceMethod yX1_weightBy, Cond.selects RX1 yX1_weightBy yX1_weightBy, Cond.code yX1_weightBy cX1_weightBy 2 (some .int), Cond.fieldLink RX1 56 "ConvexConduit$Network" "capacity" "[I", Cond.constant RX1 41 (1000000), Cond.methodLink RX1 62 yX1_nextPrice, Cond.instanceMethod yX1_nextPrice, Cond.selects RX1 yX1_nextPrice yX1_nextPrice, Cond.code yX1_nextPrice cX1_nextPrice 2 (some .int), Cond.methodLink RX1 68 yX2_unitPrice, Cond.instanceMethod yX2_unitPrice]
def wsX1_drive_r2 : List Cond := [Cond.selects RX2 yX2_unitPrice yX2_unitPrice, Cond.initialized RX2, Cond.code yX2_unitPrice cX2_unitPrice 3 (some .int), Cond.fieldLink RX2 25 "ConvexConduit$Network" "capacity" "[I", Cond.constant RX2 38 (1000000), Cond.fieldLink RX2 28 "ConvexConduit$Network" "prices" "[I"]
def wsX1_drive : List Cond := .code yX1_drive cX1_drive 7 (some .int) :: ((wsX1_drive_r1 ++ wsX1_drive_r2) ++ wsX10 ++ wsX20)
def wsX1_comeOneByOne_r1 : List Cond := [Cond.fieldLink RX1 28 "ConvexConduit$Drivers" "network" "LConvexConduit$Network;", Cond.fieldLink RX1 32 "ConvexConduit$Network" "arcs" "I", Cond.fieldLink RX1 9 "ConvexConduit$Drivers" "taken" "[I", Cond.fieldLink RX1 18 "ConvexConduit$Drivers" "found" "I", Cond.fieldLink RX1 22 "ConvexConduit$Drivers" "paidByAll" "I", Cond.fieldLink RX1 25 "ConvexConduit$Drivers" "paidLast" "I", Cond.fieldLink RX1 15 "ConvexConduit$Drivers" "weightToTarget" "[I", Cond.constant RX1 41 (1000000), Cond.methodLink RX1 37 yX1_weighWaysTo, Cond.instanceMethod yX1_weighWaysTo, Cond.selects RX1 yX1_weighWaysTo yX1_weighWaysTo, Cond.initialized RX1, Cond.code yX1_weighWaysTo cX1_weighWaysTo 6 none, Cond.fieldLink RX1 46 "ConvexConduit$Network" "nodes" "I", Cond.fieldLink RX1 53 "ConvexConduit$Network" "from" "[I", Cond.methodLink RX1 49 yX1_weightBy, Cond.instanceMethod yX1_weightBy, Cond.selects RX1 yX1_weightBy yX1_weightBy, Cond.code yX1_weightBy cX1_weightBy 2 (some .int), Cond.fieldLink RX1 56 "ConvexConduit$Network" "capacity" "[I", Cond.fieldLink RX1 59 "ConvexConduit$Network" "to" "[I", Cond.methodLink RX1 62 yX1_nextPrice, Cond.instanceMethod yX1_nextPrice, Cond.selects RX1 yX1_nextPrice yX1_nextPrice]
def wsX1_comeOneByOne_r2 : List Cond := [Cond.code yX1_nextPrice cX1_nextPrice 2 (some .int), Cond.methodLink RX1 68 yX2_unitPrice, Cond.instanceMethod yX2_unitPrice, Cond.selects RX2 yX2_unitPrice yX2_unitPrice, Cond.initialized RX2, Cond.code yX2_unitPrice cX2_unitPrice 3 (some .int), Cond.fieldLink RX2 25 "ConvexConduit$Network" "capacity" "[I", Cond.constant RX2 38 (1000000), Cond.fieldLink RX2 28 "ConvexConduit$Network" "prices" "[I", Cond.methodLink RX1 42 yX1_drive, Cond.instanceMethod yX1_drive, Cond.selects RX1 yX1_drive yX1_drive, Cond.code yX1_drive cX1_drive 7 (some .int), Cond.methodLink RX1 65 yX1_bestArcFrom, Cond.instanceMethod yX1_bestArcFrom, Cond.selects RX1 yX1_bestArcFrom yX1_bestArcFrom, Cond.code yX1_bestArcFrom cX1_bestArcFrom 3 (some .int)]
def wsX1_comeOneByOne : List Cond := .code yX1_comeOneByOne cX1_comeOneByOne 5 none :: ((wsX1_comeOneByOne_r1 ++ wsX1_comeOneByOne_r2) ++ wsX10 ++ wsX20)
def wsX2_init : List Cond := .code yX2_init cX2_init 2 none :: ([.methodLink RX2 3 objectInit, .instanceMethod objectInit, .code objectInit ⟨#[0xb1]⟩ 1 none, .fieldLink RX2 9 "ConvexConduit$Network" "arcs" "I", .arrayClass .int, .fieldLink RX2 15 "ConvexConduit$Network" "from" "[I", .fieldLink RX2 19 "ConvexConduit$Network" "to" "[I", .fieldLink RX2 22 "ConvexConduit$Network" "pieces" "[I", .fieldLink RX2 25 "ConvexConduit$Network" "capacity" "[I", .fieldLink RX2 28 "ConvexConduit$Network" "prices" "[I", .fieldLink RX2 31 "ConvexConduit$Network" "nodes" "I"] ++ wsX20)
def wsX2_addPiece : List Cond := .code yX2_addPiece cX2_addPiece 5 none :: ([.fieldLink RX2 25 "ConvexConduit$Network" "capacity" "[I", .fieldLink RX2 28 "ConvexConduit$Network" "prices" "[I", .fieldLink RX2 22 "ConvexConduit$Network" "pieces" "[I"] ++ wsX20)
def wsX2_addArc : List Cond := .code yX2_addArc cX2_addArc 6 (some .int) :: ([.fieldLink RX2 9 "ConvexConduit$Network" "arcs" "I", .fieldLink RX2 15 "ConvexConduit$Network" "from" "[I", .fieldLink RX2 19 "ConvexConduit$Network" "to" "[I", .methodLink RX2 34 yX2_addPiece, .instanceMethod yX2_addPiece, .selects RX2 yX2_addPiece yX2_addPiece, .initialized RX2, .code yX2_addPiece cX2_addPiece 5 none, .fieldLink RX2 25 "ConvexConduit$Network" "capacity" "[I", .fieldLink RX2 28 "ConvexConduit$Network" "prices" "[I", .fieldLink RX2 22 "ConvexConduit$Network" "pieces" "[I"] ++ wsX20)
def wsX2_lastPrice : List Cond := .code yX2_lastPrice cX2_lastPrice 2 (some .int) :: ([.fieldLink RX2 25 "ConvexConduit$Network" "capacity" "[I", .methodLink RX2 39 yX2_unitPrice, .instanceMethod yX2_unitPrice, .selects RX2 yX2_unitPrice yX2_unitPrice, .initialized RX2, .code yX2_unitPrice cX2_unitPrice 3 (some .int), .constant RX2 38 (1000000), .fieldLink RX2 28 "ConvexConduit$Network" "prices" "[I"] ++ wsX20)
def wsX3_init : List Cond := .code yX3_init cX3_init 2 none :: ([.methodLink RX3 3 objectInit, .instanceMethod objectInit, .code objectInit ⟨#[0xb1]⟩ 1 none, .arrayClass .boolean, .fieldLink RX3 9 "ConvexConduit$UnitCircles" "taken" "[Z", .arrayClass .int, .fieldLink RX3 15 "ConvexConduit$UnitCircles" "distance" "[I", .fieldLink RX3 19 "ConvexConduit$UnitCircles" "cameBy" "[I", .fieldLink RX3 22 "ConvexConduit$UnitCircles" "network" "LConvexConduit$Network;"] ++ wsX30)
def wsX3_shortenAll : List Cond := .code yX3_shortenAll cX3_shortenAll 10 (some .int) :: ([.fieldLink RX3 22 "ConvexConduit$UnitCircles" "network" "LConvexConduit$Network;", .fieldLink RX3 60 "ConvexConduit$Network" "arcs" "I", .fieldLink RX3 63 "ConvexConduit$Network" "capacity" "[I", .fieldLink RX3 9 "ConvexConduit$UnitCircles" "taken" "[Z", .fieldLink RX3 66 "ConvexConduit$Network" "to" "[I", .fieldLink RX3 69 "ConvexConduit$Network" "from" "[I", .fieldLink RX3 15 "ConvexConduit$UnitCircles" "distance" "[I", .constant RX3 43 (1000000), .fieldLink RX3 19 "ConvexConduit$UnitCircles" "cameBy" "[I", .methodLink RX3 72 yX2_unitPrice, .instanceMethod yX2_unitPrice, .selects RX2 yX2_unitPrice yX2_unitPrice, .initialized RX2, .code yX2_unitPrice cX2_unitPrice 3 (some .int), .fieldLink RX2 25 "ConvexConduit$Network" "capacity" "[I", .constant RX2 38 (1000000), .fieldLink RX2 28 "ConvexConduit$Network" "prices" "[I"] ++ wsX30 ++ wsX20)
def wsX3_nodeBefore : List Cond := .code yX3_nodeBefore cX3_nodeBefore 4 (some .int) :: ([.fieldLink RX3 19 "ConvexConduit$UnitCircles" "cameBy" "[I", .fieldLink RX3 9 "ConvexConduit$UnitCircles" "taken" "[Z", .fieldLink RX3 22 "ConvexConduit$UnitCircles" "network" "LConvexConduit$Network;", .fieldLink RX3 66 "ConvexConduit$Network" "to" "[I", .fieldLink RX3 69 "ConvexConduit$Network" "from" "[I"] ++ wsX30 ++ wsX20)
def wsX3_turnBack : List Cond := .code yX3_turnBack cX3_turnBack 7 none :: ([.fieldLink RX3 22 "ConvexConduit$UnitCircles" "network" "LConvexConduit$Network;", .fieldLink RX3 37 "ConvexConduit$Network" "nodes" "I", .fieldLink RX3 19 "ConvexConduit$UnitCircles" "cameBy" "[I", .fieldLink RX3 9 "ConvexConduit$UnitCircles" "taken" "[Z", .methodLink RX3 56 yX3_nodeBefore, .instanceMethod yX3_nodeBefore, .selects RX3 yX3_nodeBefore yX3_nodeBefore, .initialized RX3, .code yX3_nodeBefore cX3_nodeBefore 4 (some .int), .fieldLink RX3 66 "ConvexConduit$Network" "to" "[I", .fieldLink RX3 69 "ConvexConduit$Network" "from" "[I"] ++ wsX30 ++ wsX20)
def wsX3_takeWay_r1 : List Cond := [Cond.fieldLink RX3 22 "ConvexConduit$UnitCircles" "network" "LConvexConduit$Network;", Cond.fieldLink RX3 37 "ConvexConduit$Network" "nodes" "I", Cond.fieldLink RX3 15 "ConvexConduit$UnitCircles" "distance" "[I", Cond.constant RX3 43 (1000000), Cond.fieldLink RX3 19 "ConvexConduit$UnitCircles" "cameBy" "[I", Cond.methodLink RX3 44 yX3_shortenAll, Cond.instanceMethod yX3_shortenAll, Cond.selects RX3 yX3_shortenAll yX3_shortenAll, Cond.initialized RX3, Cond.code yX3_shortenAll cX3_shortenAll 10 (some .int), Cond.fieldLink RX3 60 "ConvexConduit$Network" "arcs" "I", Cond.fieldLink RX3 63 "ConvexConduit$Network" "capacity" "[I", Cond.fieldLink RX3 9 "ConvexConduit$UnitCircles" "taken" "[Z", Cond.fieldLink RX3 66 "ConvexConduit$Network" "to" "[I", Cond.fieldLink RX3 69 "ConvexConduit$Network" "from" "[I", Cond.methodLink RX3 72 yX2_unitPrice, Cond.instanceMethod yX2_unitPrice, Cond.selects RX2 yX2_unitPrice yX2_unitPrice, Cond.initialized RX2, Cond.code yX2_unitPrice cX2_unitPrice 3 (some .int), Cond.fieldLink RX2 25 "ConvexConduit$Network" "capacity" "[I", Cond.constant RX2 38 (1000000), Cond.fieldLink RX2 28 "ConvexConduit$Network" "prices" "[I", Cond.methodLink RX3 48 yX3_turnBack]
def wsX3_takeWay_r2 : List Cond := [Cond.instanceMethod yX3_turnBack, Cond.selects RX3 yX3_turnBack yX3_turnBack, Cond.code yX3_turnBack cX3_turnBack 7 none, Cond.methodLink RX3 56 yX3_nodeBefore, Cond.instanceMethod yX3_nodeBefore, Cond.selects RX3 yX3_nodeBefore yX3_nodeBefore, Cond.code yX3_nodeBefore cX3_nodeBefore 4 (some .int)]
def wsX3_takeWay : List Cond := .code yX3_takeWay cX3_takeWay 5 (some .boolean) :: ((wsX3_takeWay_r1 ++ wsX3_takeWay_r2) ++ wsX30 ++ wsX20)
def wsX3_takeOutCircle_r1 : List Cond := [Cond.fieldLink RX3 22 "ConvexConduit$UnitCircles" "network" "LConvexConduit$Network;", Cond.fieldLink RX3 37 "ConvexConduit$Network" "nodes" "I", Cond.fieldLink RX3 15 "ConvexConduit$UnitCircles" "distance" "[I", Cond.fieldLink RX3 19 "ConvexConduit$UnitCircles" "cameBy" "[I", Cond.fieldLink RX3 9 "ConvexConduit$UnitCircles" "taken" "[Z", Cond.methodLink RX3 44 yX3_shortenAll, Cond.instanceMethod yX3_shortenAll, Cond.selects RX3 yX3_shortenAll yX3_shortenAll, Cond.initialized RX3, Cond.code yX3_shortenAll cX3_shortenAll 10 (some .int), Cond.fieldLink RX3 60 "ConvexConduit$Network" "arcs" "I", Cond.fieldLink RX3 63 "ConvexConduit$Network" "capacity" "[I", Cond.fieldLink RX3 66 "ConvexConduit$Network" "to" "[I", Cond.fieldLink RX3 69 "ConvexConduit$Network" "from" "[I", Cond.constant RX3 43 (1000000), Cond.methodLink RX3 72 yX2_unitPrice, Cond.instanceMethod yX2_unitPrice, Cond.selects RX2 yX2_unitPrice yX2_unitPrice, Cond.initialized RX2, Cond.code yX2_unitPrice cX2_unitPrice 3 (some .int), Cond.fieldLink RX2 25 "ConvexConduit$Network" "capacity" "[I", Cond.constant RX2 38 (1000000), Cond.fieldLink RX2 28 "ConvexConduit$Network" "prices" "[I", Cond.methodLink RX3 56 yX3_nodeBefore]
def wsX3_takeOutCircle_r2 : List Cond := [Cond.instanceMethod yX3_nodeBefore, Cond.selects RX3 yX3_nodeBefore yX3_nodeBefore, Cond.code yX3_nodeBefore cX3_nodeBefore 4 (some .int), Cond.methodLink RX3 48 yX3_turnBack, Cond.instanceMethod yX3_turnBack, Cond.selects RX3 yX3_turnBack yX3_turnBack, Cond.code yX3_turnBack cX3_turnBack 7 none]
def wsX3_takeOutCircle : List Cond := .code yX3_takeOutCircle cX3_takeOutCircle 4 (some .boolean) :: ((wsX3_takeOutCircle_r1 ++ wsX3_takeOutCircle_r2) ++ wsX30 ++ wsX20)
def wsX3_takeOutCircles_r1 : List Cond := [Cond.methodLink RX3 52 yX3_takeOutCircle, Cond.instanceMethod yX3_takeOutCircle, Cond.selects RX3 yX3_takeOutCircle yX3_takeOutCircle, Cond.initialized RX3, Cond.code yX3_takeOutCircle cX3_takeOutCircle 4 (some .boolean), Cond.fieldLink RX3 22 "ConvexConduit$UnitCircles" "network" "LConvexConduit$Network;", Cond.fieldLink RX3 37 "ConvexConduit$Network" "nodes" "I", Cond.fieldLink RX3 15 "ConvexConduit$UnitCircles" "distance" "[I", Cond.fieldLink RX3 19 "ConvexConduit$UnitCircles" "cameBy" "[I", Cond.fieldLink RX3 9 "ConvexConduit$UnitCircles" "taken" "[Z", Cond.methodLink RX3 44 yX3_shortenAll, Cond.instanceMethod yX3_shortenAll, Cond.selects RX3 yX3_shortenAll yX3_shortenAll, Cond.code yX3_shortenAll cX3_shortenAll 10 (some .int), Cond.fieldLink RX3 60 "ConvexConduit$Network" "arcs" "I", Cond.fieldLink RX3 63 "ConvexConduit$Network" "capacity" "[I", Cond.fieldLink RX3 66 "ConvexConduit$Network" "to" "[I", Cond.fieldLink RX3 69 "ConvexConduit$Network" "from" "[I", Cond.constant RX3 43 (1000000), Cond.methodLink RX3 72 yX2_unitPrice, Cond.instanceMethod yX2_unitPrice, Cond.selects RX2 yX2_unitPrice yX2_unitPrice, Cond.initialized RX2, Cond.code yX2_unitPrice cX2_unitPrice 3 (some .int)]
def wsX3_takeOutCircles_r2 : List Cond := [Cond.fieldLink RX2 25 "ConvexConduit$Network" "capacity" "[I", Cond.constant RX2 38 (1000000), Cond.fieldLink RX2 28 "ConvexConduit$Network" "prices" "[I", Cond.methodLink RX3 56 yX3_nodeBefore, Cond.instanceMethod yX3_nodeBefore, Cond.selects RX3 yX3_nodeBefore yX3_nodeBefore, Cond.code yX3_nodeBefore cX3_nodeBefore 4 (some .int), Cond.methodLink RX3 48 yX3_turnBack, Cond.instanceMethod yX3_turnBack, Cond.selects RX3 yX3_turnBack yX3_turnBack, Cond.code yX3_turnBack cX3_turnBack 7 none]
def wsX3_takeOutCircles : List Cond := .code yX3_takeOutCircles cX3_takeOutCircles 3 none :: ((wsX3_takeOutCircles_r1 ++ wsX3_takeOutCircles_r2) ++ wsX30 ++ wsX20)
def wsX3_priceOfTaken : List Cond := .code yX3_priceOfTaken cX3_priceOfTaken 4 (some .int) :: ([.fieldLink RX3 22 "ConvexConduit$UnitCircles" "network" "LConvexConduit$Network;", .fieldLink RX3 60 "ConvexConduit$Network" "arcs" "I", .fieldLink RX3 63 "ConvexConduit$Network" "capacity" "[I", .fieldLink RX3 9 "ConvexConduit$UnitCircles" "taken" "[Z", .methodLink RX3 72 yX2_unitPrice, .instanceMethod yX2_unitPrice, .selects RX2 yX2_unitPrice yX2_unitPrice, .initialized RX2, .code yX2_unitPrice cX2_unitPrice 3 (some .int), .fieldLink RX2 25 "ConvexConduit$Network" "capacity" "[I", .constant RX2 38 (1000000), .fieldLink RX2 28 "ConvexConduit$Network" "prices" "[I"] ++ wsX30 ++ wsX20)
def wsX3_leastPrice_r1 : List Cond := [Cond.fieldLink RX3 9 "ConvexConduit$UnitCircles" "taken" "[Z", Cond.methodLink RX3 26 yX3_takeWay, Cond.instanceMethod yX3_takeWay, Cond.selects RX3 yX3_takeWay yX3_takeWay, Cond.initialized RX3, Cond.code yX3_takeWay cX3_takeWay 5 (some .boolean), Cond.fieldLink RX3 22 "ConvexConduit$UnitCircles" "network" "LConvexConduit$Network;", Cond.fieldLink RX3 37 "ConvexConduit$Network" "nodes" "I", Cond.fieldLink RX3 15 "ConvexConduit$UnitCircles" "distance" "[I", Cond.constant RX3 43 (1000000), Cond.fieldLink RX3 19 "ConvexConduit$UnitCircles" "cameBy" "[I", Cond.methodLink RX3 44 yX3_shortenAll, Cond.instanceMethod yX3_shortenAll, Cond.selects RX3 yX3_shortenAll yX3_shortenAll, Cond.code yX3_shortenAll cX3_shortenAll 10 (some .int), Cond.fieldLink RX3 60 "ConvexConduit$Network" "arcs" "I", Cond.fieldLink RX3 63 "ConvexConduit$Network" "capacity" "[I", Cond.fieldLink RX3 66 "ConvexConduit$Network" "to" "[I", Cond.fieldLink RX3 69 "ConvexConduit$Network" "from" "[I", Cond.methodLink RX3 72 yX2_unitPrice, Cond.instanceMethod yX2_unitPrice, Cond.selects RX2 yX2_unitPrice yX2_unitPrice, Cond.initialized RX2, Cond.code yX2_unitPrice cX2_unitPrice 3 (some .int)]
def wsX3_leastPrice_r2 : List Cond := [Cond.fieldLink RX2 25 "ConvexConduit$Network" "capacity" "[I", Cond.constant RX2 38 (1000000), Cond.fieldLink RX2 28 "ConvexConduit$Network" "prices" "[I", Cond.methodLink RX3 48 yX3_turnBack, Cond.instanceMethod yX3_turnBack, Cond.selects RX3 yX3_turnBack yX3_turnBack, Cond.code yX3_turnBack cX3_turnBack 7 none, Cond.methodLink RX3 56 yX3_nodeBefore, Cond.instanceMethod yX3_nodeBefore, Cond.selects RX3 yX3_nodeBefore yX3_nodeBefore, Cond.code yX3_nodeBefore cX3_nodeBefore 4 (some .int), Cond.methodLink RX3 30 yX3_takeOutCircles, Cond.instanceMethod yX3_takeOutCircles, Cond.selects RX3 yX3_takeOutCircles yX3_takeOutCircles, Cond.code yX3_takeOutCircles cX3_takeOutCircles 3 none, Cond.methodLink RX3 52 yX3_takeOutCircle, Cond.instanceMethod yX3_takeOutCircle, Cond.selects RX3 yX3_takeOutCircle yX3_takeOutCircle, Cond.code yX3_takeOutCircle cX3_takeOutCircle 4 (some .boolean), Cond.methodLink RX3 33 yX3_priceOfTaken, Cond.instanceMethod yX3_priceOfTaken, Cond.selects RX3 yX3_priceOfTaken yX3_priceOfTaken, Cond.code yX3_priceOfTaken cX3_priceOfTaken 4 (some .int)]
def wsX3_leastPrice : List Cond := .code yX3_leastPrice cX3_leastPrice 5 (some .int) :: ((wsX3_leastPrice_r1 ++ wsX3_leastPrice_r2) ++ wsX30 ++ wsX20)
def wsX4_init_r1 : List Cond := [Cond.methodLink RX4 3 objectInit, Cond.instanceMethod objectInit, Cond.code objectInit ⟨#[0xb1]⟩ 1 none, Cond.fieldLink RX4 9 "ConvexConduit" "source" "I", Cond.fieldLink RX4 13 "ConvexConduit" "target" "I", Cond.fieldLink RX4 16 "ConvexConduit" "amount" "I", Cond.classLink RX4 19 RX2, Cond.instantiable RX2 7, Cond.initialized RX2, Cond.methodLink RX4 21 Lib.Math.min.name, Cond.static Lib.Math.min.name, Cond.initialized "java/lang/Math", Cond.code Lib.Math.min.name Lib.Math.min.code 2 (some .int), Cond.methodLink RX4 27 Lib.Math.max.name, Cond.static Lib.Math.max.name, Cond.code Lib.Math.max.name Lib.Math.max.code 2 (some .int), Cond.fieldLink RX4 33 "ConvexConduit" "network" "LConvexConduit$Network;", Cond.classLink RX4 37 RX0, Cond.instantiable RX0 6, Cond.initialized RX0, Cond.fieldLink RX4 42 "ConvexConduit" "cheapest" "LConvexConduit$CheapestFlow;", Cond.classLink RX4 46 RX3, Cond.instantiable RX3 4, Cond.initialized RX3]
def wsX4_init_r2 : List Cond := [Cond.fieldLink RX4 49 "ConvexConduit" "circles" "LConvexConduit$UnitCircles;", Cond.classLink RX4 53 RX1, Cond.instantiable RX1 6, Cond.initialized RX1, Cond.fieldLink RX4 56 "ConvexConduit" "drivers" "LConvexConduit$Drivers;", Cond.methodLink RX4 30 yX2_init, Cond.instanceMethod yX2_init, Cond.code yX2_init cX2_init 2 none, Cond.methodLink RX2 3 objectInit, Cond.fieldLink RX2 9 "ConvexConduit$Network" "arcs" "I", Cond.arrayClass .int, Cond.fieldLink RX2 15 "ConvexConduit$Network" "from" "[I", Cond.fieldLink RX2 19 "ConvexConduit$Network" "to" "[I", Cond.fieldLink RX2 22 "ConvexConduit$Network" "pieces" "[I", Cond.fieldLink RX2 25 "ConvexConduit$Network" "capacity" "[I", Cond.fieldLink RX2 28 "ConvexConduit$Network" "prices" "[I", Cond.fieldLink RX2 31 "ConvexConduit$Network" "nodes" "I", Cond.methodLink RX4 39 yX0_init, Cond.instanceMethod yX0_init, Cond.code yX0_init cX0_init 2 none, Cond.methodLink RX0 3 objectInit, Cond.fieldLink RX0 9 "ConvexConduit$CheapestFlow" "on" "[I", Cond.fieldLink RX0 15 "ConvexConduit$CheapestFlow" "low" "[I", Cond.fieldLink RX0 18 "ConvexConduit$CheapestFlow" "high" "[I"]
def wsX4_init_r3 : List Cond := [Cond.fieldLink RX0 21 "ConvexConduit$CheapestFlow" "distance" "[I", Cond.fieldLink RX0 24 "ConvexConduit$CheapestFlow" "cameBy" "[I", Cond.fieldLink RX0 27 "ConvexConduit$CheapestFlow" "network" "LConvexConduit$Network;", Cond.methodLink RX4 48 yX3_init, Cond.instanceMethod yX3_init, Cond.code yX3_init cX3_init 2 none, Cond.methodLink RX3 3 objectInit, Cond.arrayClass .boolean, Cond.fieldLink RX3 9 "ConvexConduit$UnitCircles" "taken" "[Z", Cond.fieldLink RX3 15 "ConvexConduit$UnitCircles" "distance" "[I", Cond.fieldLink RX3 19 "ConvexConduit$UnitCircles" "cameBy" "[I", Cond.fieldLink RX3 22 "ConvexConduit$UnitCircles" "network" "LConvexConduit$Network;", Cond.methodLink RX4 55 yX1_init, Cond.instanceMethod yX1_init, Cond.code yX1_init cX1_init 2 none, Cond.methodLink RX1 3 objectInit, Cond.fieldLink RX1 9 "ConvexConduit$Drivers" "taken" "[I", Cond.fieldLink RX1 15 "ConvexConduit$Drivers" "weightToTarget" "[I", Cond.fieldLink RX1 18 "ConvexConduit$Drivers" "found" "I", Cond.fieldLink RX1 22 "ConvexConduit$Drivers" "paidByAll" "I", Cond.fieldLink RX1 25 "ConvexConduit$Drivers" "paidLast" "I", Cond.fieldLink RX1 28 "ConvexConduit$Drivers" "network" "LConvexConduit$Network;"]
def wsX4_init : List Cond := .code yX4_init cX4_init 2 none :: ((wsX4_init_r1 ++ (wsX4_init_r2 ++ wsX4_init_r3)) ++ wsX40 ++ wsX20 ++ wsX00 ++ wsX30 ++ wsX10)
def wsX4_refuseOtherThanNode : List Cond := .code yX4_refuseOtherThanNode cX4_refuseOtherThanNode 2 none :: ([.classLink RX4 101 "java/lang/IndexOutOfBoundsException", .initialized "java/lang/IndexOutOfBoundsException", .fieldLink RX4 33 "ConvexConduit" "network" "LConvexConduit$Network;", .fieldLink RX4 98 "ConvexConduit$Network" "nodes" "I"] ++ wsX40 ++ wsX20 ++ (vx_at0 RX4 103 "java/lang/IndexOutOfBoundsException" ["java/lang/RuntimeException", "java/lang/Exception"]).filter goodWord)
def wsX4_isNoWidth : List Cond := .code yX4_isNoWidth cX4_isNoWidth 1 (some .boolean) :: ([])
def wsX4_arc_r1 : List Cond := [Cond.classLink RX4 67 "java/lang/IllegalArgumentException", Cond.initialized "java/lang/IllegalArgumentException", Cond.classLink RX4 73 "java/lang/IllegalStateException", Cond.initialized "java/lang/IllegalStateException", Cond.fieldLink RX4 33 "ConvexConduit" "network" "LConvexConduit$Network;", Cond.fieldLink RX4 70 "ConvexConduit$Network" "arcs" "I", Cond.methodLink RX4 60 yX4_refuseOtherThanNode, Cond.instanceMethod yX4_refuseOtherThanNode, Cond.selects RX4 yX4_refuseOtherThanNode yX4_refuseOtherThanNode, Cond.initialized RX4, Cond.code yX4_refuseOtherThanNode cX4_refuseOtherThanNode 2 none, Cond.classLink RX4 101 "java/lang/IndexOutOfBoundsException", Cond.initialized "java/lang/IndexOutOfBoundsException", Cond.fieldLink RX4 98 "ConvexConduit$Network" "nodes" "I", Cond.methodLink RX4 63 yX4_isNoWidth, Cond.static yX4_isNoWidth, Cond.code yX4_isNoWidth cX4_isNoWidth 1 (some .boolean), Cond.methodLink RX4 76 yX2_addArc, Cond.instanceMethod yX2_addArc, Cond.selects RX2 yX2_addArc yX2_addArc, Cond.initialized RX2, Cond.code yX2_addArc cX2_addArc 6 (some .int), Cond.fieldLink RX2 9 "ConvexConduit$Network" "arcs" "I", Cond.fieldLink RX2 15 "ConvexConduit$Network" "from" "[I"]
def wsX4_arc_r2 : List Cond := [Cond.fieldLink RX2 19 "ConvexConduit$Network" "to" "[I", Cond.methodLink RX2 34 yX2_addPiece, Cond.instanceMethod yX2_addPiece, Cond.selects RX2 yX2_addPiece yX2_addPiece, Cond.code yX2_addPiece cX2_addPiece 5 none, Cond.fieldLink RX2 25 "ConvexConduit$Network" "capacity" "[I", Cond.fieldLink RX2 28 "ConvexConduit$Network" "prices" "[I", Cond.fieldLink RX2 22 "ConvexConduit$Network" "pieces" "[I"]
def wsX4_arc : List Cond := .code yX4_arc cX4_arc 5 (some .int) :: ((wsX4_arc_r1 ++ wsX4_arc_r2) ++ wsX40 ++ wsX20 ++ (vx_at0 RX4 69 "java/lang/IllegalArgumentException" ["java/lang/RuntimeException", "java/lang/Exception"]).filter goodWord ++ (vx_at0 RX4 75 "java/lang/IllegalStateException" ["java/lang/RuntimeException", "java/lang/Exception"]).filter goodWord ++ (vx_at0 RX4 103 "java/lang/IndexOutOfBoundsException" ["java/lang/RuntimeException", "java/lang/Exception"]).filter goodWord)
def wsX4_refuseOtherThanArc : List Cond := .code yX4_refuseOtherThanArc cX4_refuseOtherThanArc 2 none :: ([.classLink RX4 101 "java/lang/IndexOutOfBoundsException", .initialized "java/lang/IndexOutOfBoundsException", .fieldLink RX4 33 "ConvexConduit" "network" "LConvexConduit$Network;", .fieldLink RX4 70 "ConvexConduit$Network" "arcs" "I"] ++ wsX40 ++ wsX20 ++ (vx_at0 RX4 103 "java/lang/IndexOutOfBoundsException" ["java/lang/RuntimeException", "java/lang/Exception"]).filter goodWord)
def wsX4_piece_r1 : List Cond := [Cond.classLink RX4 67 "java/lang/IllegalArgumentException", Cond.initialized "java/lang/IllegalArgumentException", Cond.classLink RX4 73 "java/lang/IllegalStateException", Cond.initialized "java/lang/IllegalStateException", Cond.fieldLink RX4 33 "ConvexConduit" "network" "LConvexConduit$Network;", Cond.fieldLink RX4 87 "ConvexConduit$Network" "pieces" "[I", Cond.fieldLink RX4 95 "ConvexConduit$Network" "capacity" "[I", Cond.methodLink RX4 80 yX4_refuseOtherThanArc, Cond.instanceMethod yX4_refuseOtherThanArc, Cond.selects RX4 yX4_refuseOtherThanArc yX4_refuseOtherThanArc, Cond.initialized RX4, Cond.code yX4_refuseOtherThanArc cX4_refuseOtherThanArc 2 none, Cond.classLink RX4 101 "java/lang/IndexOutOfBoundsException", Cond.initialized "java/lang/IndexOutOfBoundsException", Cond.fieldLink RX4 70 "ConvexConduit$Network" "arcs" "I", Cond.methodLink RX4 63 yX4_isNoWidth, Cond.static yX4_isNoWidth, Cond.code yX4_isNoWidth cX4_isNoWidth 1 (some .boolean), Cond.methodLink RX4 83 yX2_lastPrice, Cond.instanceMethod yX2_lastPrice, Cond.selects RX2 yX2_lastPrice yX2_lastPrice, Cond.initialized RX2, Cond.code yX2_lastPrice cX2_lastPrice 2 (some .int), Cond.fieldLink RX2 25 "ConvexConduit$Network" "capacity" "[I"]
def wsX4_piece_r2 : List Cond := [Cond.methodLink RX2 39 yX2_unitPrice, Cond.instanceMethod yX2_unitPrice, Cond.selects RX2 yX2_unitPrice yX2_unitPrice, Cond.code yX2_unitPrice cX2_unitPrice 3 (some .int), Cond.constant RX2 38 (1000000), Cond.fieldLink RX2 28 "ConvexConduit$Network" "prices" "[I", Cond.methodLink RX4 91 yX2_addPiece, Cond.instanceMethod yX2_addPiece, Cond.selects RX2 yX2_addPiece yX2_addPiece, Cond.code yX2_addPiece cX2_addPiece 5 none, Cond.fieldLink RX2 22 "ConvexConduit$Network" "pieces" "[I"]
def wsX4_piece : List Cond := .code yX4_piece cX4_piece 4 (some .int) :: ((wsX4_piece_r1 ++ wsX4_piece_r2) ++ wsX40 ++ wsX20 ++ (vx_at0 RX4 69 "java/lang/IllegalArgumentException" ["java/lang/RuntimeException", "java/lang/Exception"]).filter goodWord ++ (vx_at0 RX4 75 "java/lang/IllegalStateException" ["java/lang/RuntimeException", "java/lang/Exception"]).filter goodWord ++ (vx_at0 RX4 103 "java/lang/IndexOutOfBoundsException" ["java/lang/RuntimeException", "java/lang/Exception"]).filter goodWord)
def wsX4_demand : List Cond := .code yX4_demand cX4_demand 4 none :: ([.classLink RX4 67 "java/lang/IllegalArgumentException", .initialized "java/lang/IllegalArgumentException", .fieldLink RX4 9 "ConvexConduit" "source" "I", .fieldLink RX4 13 "ConvexConduit" "target" "I", .fieldLink RX4 16 "ConvexConduit" "amount" "I", .methodLink RX4 60 yX4_refuseOtherThanNode, .instanceMethod yX4_refuseOtherThanNode, .selects RX4 yX4_refuseOtherThanNode yX4_refuseOtherThanNode, .initialized RX4, .code yX4_refuseOtherThanNode cX4_refuseOtherThanNode 2 none, .classLink RX4 101 "java/lang/IndexOutOfBoundsException", .initialized "java/lang/IndexOutOfBoundsException", .fieldLink RX4 33 "ConvexConduit" "network" "LConvexConduit$Network;", .fieldLink RX4 98 "ConvexConduit$Network" "nodes" "I"] ++ wsX40 ++ wsX20 ++ (vx_at0 RX4 69 "java/lang/IllegalArgumentException" ["java/lang/RuntimeException", "java/lang/Exception"]).filter goodWord ++ (vx_at0 RX4 103 "java/lang/IndexOutOfBoundsException" ["java/lang/RuntimeException", "java/lang/Exception"]).filter goodWord)
def wsX4_nodes : List Cond := .code yX4_nodes cX4_nodes 1 (some .int) :: ([.fieldLink RX4 33 "ConvexConduit" "network" "LConvexConduit$Network;", .fieldLink RX4 98 "ConvexConduit$Network" "nodes" "I"] ++ wsX40 ++ wsX20)
def wsX4_arcs : List Cond := .code yX4_arcs cX4_arcs 1 (some .int) :: ([.fieldLink RX4 33 "ConvexConduit" "network" "LConvexConduit$Network;", .fieldLink RX4 70 "ConvexConduit$Network" "arcs" "I"] ++ wsX40 ++ wsX20)
def wsX4_capacity : List Cond := .code yX4_capacity cX4_capacity 2 (some .int) :: ([.fieldLink RX4 33 "ConvexConduit" "network" "LConvexConduit$Network;", .fieldLink RX4 95 "ConvexConduit$Network" "capacity" "[I", .methodLink RX4 80 yX4_refuseOtherThanArc, .instanceMethod yX4_refuseOtherThanArc, .selects RX4 yX4_refuseOtherThanArc yX4_refuseOtherThanArc, .initialized RX4, .code yX4_refuseOtherThanArc cX4_refuseOtherThanArc 2 none, .classLink RX4 101 "java/lang/IndexOutOfBoundsException", .initialized "java/lang/IndexOutOfBoundsException", .fieldLink RX4 70 "ConvexConduit$Network" "arcs" "I"] ++ wsX40 ++ wsX20 ++ (vx_at0 RX4 103 "java/lang/IndexOutOfBoundsException" ["java/lang/RuntimeException", "java/lang/Exception"]).filter goodWord)
def wsX4_price : List Cond := .code yX4_price cX4_price 3 (some .int) :: ([.classLink RX4 101 "java/lang/IndexOutOfBoundsException", .initialized "java/lang/IndexOutOfBoundsException", .fieldLink RX4 33 "ConvexConduit" "network" "LConvexConduit$Network;", .fieldLink RX4 95 "ConvexConduit$Network" "capacity" "[I", .methodLink RX4 80 yX4_refuseOtherThanArc, .instanceMethod yX4_refuseOtherThanArc, .selects RX4 yX4_refuseOtherThanArc yX4_refuseOtherThanArc, .initialized RX4, .code yX4_refuseOtherThanArc cX4_refuseOtherThanArc 2 none, .fieldLink RX4 70 "ConvexConduit$Network" "arcs" "I", .methodLink RX4 104 yX2_unitPrice, .instanceMethod yX2_unitPrice, .selects RX2 yX2_unitPrice yX2_unitPrice, .initialized RX2, .code yX2_unitPrice cX2_unitPrice 3 (some .int), .fieldLink RX2 25 "ConvexConduit$Network" "capacity" "[I", .constant RX2 38 (1000000), .fieldLink RX2 28 "ConvexConduit$Network" "prices" "[I"] ++ wsX40 ++ wsX20 ++ (vx_at0 RX4 103 "java/lang/IndexOutOfBoundsException" ["java/lang/RuntimeException", "java/lang/Exception"]).filter goodWord)
def wsX4_most_r1 : List Cond := [Cond.fieldLink RX4 42 "ConvexConduit" "cheapest" "LConvexConduit$CheapestFlow;", Cond.fieldLink RX4 9 "ConvexConduit" "source" "I", Cond.fieldLink RX4 13 "ConvexConduit" "target" "I", Cond.methodLink RX4 107 yX0_greatestAmount, Cond.instanceMethod yX0_greatestAmount, Cond.selects RX0 yX0_greatestAmount yX0_greatestAmount, Cond.initialized RX0, Cond.code yX0_greatestAmount cX0_greatestAmount 3 (some .int), Cond.methodLink RX0 31 yX0_empty, Cond.instanceMethod yX0_empty, Cond.selects RX0 yX0_empty yX0_empty, Cond.code yX0_empty cX0_empty 2 none, Cond.fieldLink RX0 27 "ConvexConduit$CheapestFlow" "network" "LConvexConduit$Network;", Cond.fieldLink RX0 45 "ConvexConduit$Network" "arcs" "I", Cond.fieldLink RX0 9 "ConvexConduit$CheapestFlow" "on" "[I", Cond.fieldLink RX0 15 "ConvexConduit$CheapestFlow" "low" "[I", Cond.fieldLink RX0 18 "ConvexConduit$CheapestFlow" "high" "[I", Cond.fieldLink RX0 65 "ConvexConduit$Network" "capacity" "[I", Cond.methodLink RX0 42 yX0_send, Cond.instanceMethod yX0_send, Cond.selects RX0 yX0_send yX0_send, Cond.code yX0_send cX0_send 7 (some .int), Cond.methodLink RX0 71 yX0_spreadFrom, Cond.instanceMethod yX0_spreadFrom]
def wsX4_most_r2 : List Cond := [Cond.selects RX0 yX0_spreadFrom yX0_spreadFrom, Cond.code yX0_spreadFrom cX0_spreadFrom 5 none, Cond.fieldLink RX0 82 "ConvexConduit$Network" "nodes" "I", Cond.fieldLink RX0 24 "ConvexConduit$CheapestFlow" "cameBy" "[I", Cond.methodLink RX0 102 yX2_steps, Cond.instanceMethod yX2_steps, Cond.selects RX2 yX2_steps yX2_steps, Cond.initialized RX2, Cond.code yX2_steps cX2_steps 1 (some .int), Cond.fieldLink RX2 9 "ConvexConduit$Network" "arcs" "I", Cond.methodLink RX0 115 yX0_widen, Cond.instanceMethod yX0_widen, Cond.selects RX0 yX0_widen yX0_widen, Cond.code yX0_widen cX0_widen 6 (some .boolean), Cond.methodLink RX0 93 yX2_start, Cond.instanceMethod yX2_start, Cond.selects RX2 yX2_start yX2_start, Cond.code yX2_start cX2_start 2 (some .int), Cond.fieldLink RX2 15 "ConvexConduit$Network" "from" "[I", Cond.fieldLink RX2 19 "ConvexConduit$Network" "to" "[I", Cond.methodLink RX2 43 yX2_goesAlong, Cond.static yX2_goesAlong, Cond.code yX2_goesAlong cX2_goesAlong 1 (some .boolean), Cond.methodLink RX2 47 yX2_arcOf]
def wsX4_most_r3 : List Cond := [Cond.static yX2_arcOf, Cond.code yX2_arcOf cX2_arcOf 1 (some .int), Cond.methodLink RX0 109 yX2_end, Cond.instanceMethod yX2_end, Cond.selects RX2 yX2_end yX2_end, Cond.code yX2_end cX2_end 2 (some .int), Cond.methodLink RX0 96 yX0_roomOf, Cond.instanceMethod yX0_roomOf, Cond.selects RX0 yX0_roomOf yX0_roomOf, Cond.code yX0_roomOf cX0_roomOf 3 (some .int), Cond.methodLink RX0 85 yX2_arcOf, Cond.methodLink RX0 89 yX2_goesAlong, Cond.methodLink RX0 38 yX0_sendOnWay, Cond.instanceMethod yX0_sendOnWay, Cond.selects RX0 yX0_sendOnWay yX0_sendOnWay, Cond.code yX0_sendOnWay cX0_sendOnWay 8 (some .int), Cond.methodLink RX0 77 Lib.Math.min.name, Cond.static Lib.Math.min.name, Cond.initialized "java/lang/Math", Cond.code Lib.Math.min.name Lib.Math.min.code 2 (some .int), Cond.methodLink RX0 74 yX0_roomOnWay, Cond.instanceMethod yX0_roomOnWay, Cond.selects RX0 yX0_roomOnWay yX0_roomOnWay, Cond.code yX0_roomOnWay cX0_roomOnWay 7 (some .int)]
def wsX4_most_r4 : List Cond := [Cond.constant RX0 55 (1000000)]
def wsX4_most : List Cond := .code yX4_most cX4_most 1 (some .int) :: ((wsX4_most_r1 ++ (wsX4_most_r2 ++ (wsX4_most_r3 ++ wsX4_most_r4))) ++ wsX40 ++ wsX00 ++ wsX20)
def wsX4_cost_r1 : List Cond := [Cond.fieldLink RX4 42 "ConvexConduit" "cheapest" "LConvexConduit$CheapestFlow;", Cond.fieldLink RX4 9 "ConvexConduit" "source" "I", Cond.fieldLink RX4 13 "ConvexConduit" "target" "I", Cond.fieldLink RX4 16 "ConvexConduit" "amount" "I", Cond.methodLink RX4 110 yX0_meet, Cond.instanceMethod yX0_meet, Cond.selects RX0 yX0_meet yX0_meet, Cond.initialized RX0, Cond.code yX0_meet cX0_meet 5 (some .boolean), Cond.methodLink RX0 31 yX0_empty, Cond.instanceMethod yX0_empty, Cond.selects RX0 yX0_empty yX0_empty, Cond.code yX0_empty cX0_empty 2 none, Cond.fieldLink RX0 27 "ConvexConduit$CheapestFlow" "network" "LConvexConduit$Network;", Cond.fieldLink RX0 45 "ConvexConduit$Network" "arcs" "I", Cond.fieldLink RX0 9 "ConvexConduit$CheapestFlow" "on" "[I", Cond.fieldLink RX0 15 "ConvexConduit$CheapestFlow" "low" "[I", Cond.fieldLink RX0 18 "ConvexConduit$CheapestFlow" "high" "[I", Cond.fieldLink RX0 65 "ConvexConduit$Network" "capacity" "[I", Cond.methodLink RX0 34 yX0_measureFrom, Cond.instanceMethod yX0_measureFrom, Cond.selects RX0 yX0_measureFrom yX0_measureFrom, Cond.code yX0_measureFrom cX0_measureFrom 3 none, Cond.fieldLink RX0 82 "ConvexConduit$Network" "nodes" "I"]
def wsX4_cost_r2 : List Cond := [Cond.fieldLink RX0 21 "ConvexConduit$CheapestFlow" "distance" "[I", Cond.constant RX0 55 (1000000), Cond.fieldLink RX0 24 "ConvexConduit$CheapestFlow" "cameBy" "[I", Cond.methodLink RX0 99 yX0_measure, Cond.instanceMethod yX0_measure, Cond.selects RX0 yX0_measure yX0_measure, Cond.code yX0_measure cX0_measure 4 none, Cond.methodLink RX0 102 yX2_steps, Cond.instanceMethod yX2_steps, Cond.selects RX2 yX2_steps yX2_steps, Cond.initialized RX2, Cond.code yX2_steps cX2_steps 1 (some .int), Cond.fieldLink RX2 9 "ConvexConduit$Network" "arcs" "I", Cond.methodLink RX0 106 yX0_shorten, Cond.instanceMethod yX0_shorten, Cond.selects RX0 yX0_shorten yX0_shorten, Cond.code yX0_shorten cX0_shorten 4 (some .boolean), Cond.methodLink RX0 93 yX2_start, Cond.instanceMethod yX2_start, Cond.selects RX2 yX2_start yX2_start, Cond.code yX2_start cX2_start 2 (some .int), Cond.fieldLink RX2 15 "ConvexConduit$Network" "from" "[I", Cond.fieldLink RX2 19 "ConvexConduit$Network" "to" "[I", Cond.methodLink RX2 43 yX2_goesAlong]
def wsX4_cost_r3 : List Cond := [Cond.static yX2_goesAlong, Cond.code yX2_goesAlong cX2_goesAlong 1 (some .boolean), Cond.methodLink RX2 47 yX2_arcOf, Cond.static yX2_arcOf, Cond.code yX2_arcOf cX2_arcOf 1 (some .int), Cond.methodLink RX0 109 yX2_end, Cond.instanceMethod yX2_end, Cond.selects RX2 yX2_end yX2_end, Cond.code yX2_end cX2_end 2 (some .int), Cond.methodLink RX0 96 yX0_roomOf, Cond.instanceMethod yX0_roomOf, Cond.selects RX0 yX0_roomOf yX0_roomOf, Cond.code yX0_roomOf cX0_roomOf 3 (some .int), Cond.methodLink RX0 85 yX2_arcOf, Cond.methodLink RX0 89 yX2_goesAlong, Cond.methodLink RX0 112 yX0_priceOf, Cond.instanceMethod yX0_priceOf, Cond.selects RX0 yX0_priceOf yX0_priceOf, Cond.code yX0_priceOf cX0_priceOf 3 (some .int), Cond.methodLink RX0 51 yX2_unitPrice, Cond.instanceMethod yX2_unitPrice, Cond.selects RX2 yX2_unitPrice yX2_unitPrice, Cond.code yX2_unitPrice cX2_unitPrice 3 (some .int), Cond.fieldLink RX2 25 "ConvexConduit$Network" "capacity" "[I"]
def wsX4_cost_r4 : List Cond := [Cond.constant RX2 38 (1000000), Cond.fieldLink RX2 28 "ConvexConduit$Network" "prices" "[I", Cond.methodLink RX0 38 yX0_sendOnWay, Cond.instanceMethod yX0_sendOnWay, Cond.selects RX0 yX0_sendOnWay yX0_sendOnWay, Cond.code yX0_sendOnWay cX0_sendOnWay 8 (some .int), Cond.methodLink RX0 77 Lib.Math.min.name, Cond.static Lib.Math.min.name, Cond.initialized "java/lang/Math", Cond.code Lib.Math.min.name Lib.Math.min.code 2 (some .int), Cond.methodLink RX0 74 yX0_roomOnWay, Cond.instanceMethod yX0_roomOnWay, Cond.selects RX0 yX0_roomOnWay yX0_roomOnWay, Cond.code yX0_roomOnWay cX0_roomOnWay 7 (some .int), Cond.methodLink RX4 114 yX0_totalPrice, Cond.instanceMethod yX0_totalPrice, Cond.selects RX0 yX0_totalPrice yX0_totalPrice, Cond.code yX0_totalPrice cX0_totalPrice 4 (some .int)]
def wsX4_cost : List Cond := .code yX4_cost cX4_cost 1 (some .int) :: ((wsX4_cost_r1 ++ (wsX4_cost_r2 ++ (wsX4_cost_r3 ++ wsX4_cost_r4))) ++ wsX40 ++ wsX00 ++ wsX20)
def wsX4_costByCircles_r1 : List Cond := [Cond.fieldLink RX4 49 "ConvexConduit" "circles" "LConvexConduit$UnitCircles;", Cond.fieldLink RX4 9 "ConvexConduit" "source" "I", Cond.fieldLink RX4 13 "ConvexConduit" "target" "I", Cond.fieldLink RX4 16 "ConvexConduit" "amount" "I", Cond.methodLink RX4 118 yX3_leastPrice, Cond.instanceMethod yX3_leastPrice, Cond.selects RX3 yX3_leastPrice yX3_leastPrice, Cond.initialized RX3, Cond.code yX3_leastPrice cX3_leastPrice 5 (some .int), Cond.fieldLink RX3 9 "ConvexConduit$UnitCircles" "taken" "[Z", Cond.methodLink RX3 26 yX3_takeWay, Cond.instanceMethod yX3_takeWay, Cond.selects RX3 yX3_takeWay yX3_takeWay, Cond.code yX3_takeWay cX3_takeWay 5 (some .boolean), Cond.fieldLink RX3 22 "ConvexConduit$UnitCircles" "network" "LConvexConduit$Network;", Cond.fieldLink RX3 37 "ConvexConduit$Network" "nodes" "I", Cond.fieldLink RX3 15 "ConvexConduit$UnitCircles" "distance" "[I", Cond.constant RX3 43 (1000000), Cond.fieldLink RX3 19 "ConvexConduit$UnitCircles" "cameBy" "[I", Cond.methodLink RX3 44 yX3_shortenAll, Cond.instanceMethod yX3_shortenAll, Cond.selects RX3 yX3_shortenAll yX3_shortenAll, Cond.code yX3_shortenAll cX3_shortenAll 10 (some .int), Cond.fieldLink RX3 60 "ConvexConduit$Network" "arcs" "I"]
def wsX4_costByCircles_r2 : List Cond := [Cond.fieldLink RX3 63 "ConvexConduit$Network" "capacity" "[I", Cond.fieldLink RX3 66 "ConvexConduit$Network" "to" "[I", Cond.fieldLink RX3 69 "ConvexConduit$Network" "from" "[I", Cond.methodLink RX3 72 yX2_unitPrice, Cond.instanceMethod yX2_unitPrice, Cond.selects RX2 yX2_unitPrice yX2_unitPrice, Cond.initialized RX2, Cond.code yX2_unitPrice cX2_unitPrice 3 (some .int), Cond.fieldLink RX2 25 "ConvexConduit$Network" "capacity" "[I", Cond.constant RX2 38 (1000000), Cond.fieldLink RX2 28 "ConvexConduit$Network" "prices" "[I", Cond.methodLink RX3 48 yX3_turnBack, Cond.instanceMethod yX3_turnBack, Cond.selects RX3 yX3_turnBack yX3_turnBack, Cond.code yX3_turnBack cX3_turnBack 7 none, Cond.methodLink RX3 56 yX3_nodeBefore, Cond.instanceMethod yX3_nodeBefore, Cond.selects RX3 yX3_nodeBefore yX3_nodeBefore, Cond.code yX3_nodeBefore cX3_nodeBefore 4 (some .int), Cond.methodLink RX3 30 yX3_takeOutCircles, Cond.instanceMethod yX3_takeOutCircles, Cond.selects RX3 yX3_takeOutCircles yX3_takeOutCircles, Cond.code yX3_takeOutCircles cX3_takeOutCircles 3 none, Cond.methodLink RX3 52 yX3_takeOutCircle]
def wsX4_costByCircles_r3 : List Cond := [Cond.instanceMethod yX3_takeOutCircle, Cond.selects RX3 yX3_takeOutCircle yX3_takeOutCircle, Cond.code yX3_takeOutCircle cX3_takeOutCircle 4 (some .boolean), Cond.methodLink RX3 33 yX3_priceOfTaken, Cond.instanceMethod yX3_priceOfTaken, Cond.selects RX3 yX3_priceOfTaken yX3_priceOfTaken, Cond.code yX3_priceOfTaken cX3_priceOfTaken 4 (some .int)]
def wsX4_costByCircles : List Cond := .code yX4_costByCircles cX4_costByCircles 1 (some .int) :: ((wsX4_costByCircles_r1 ++ (wsX4_costByCircles_r2 ++ wsX4_costByCircles_r3)) ++ wsX40 ++ wsX30 ++ wsX20)
def wsX4_more_r1 : List Cond := [Cond.fieldLink RX4 42 "ConvexConduit" "cheapest" "LConvexConduit$CheapestFlow;", Cond.fieldLink RX4 9 "ConvexConduit" "source" "I", Cond.fieldLink RX4 13 "ConvexConduit" "target" "I", Cond.fieldLink RX4 16 "ConvexConduit" "amount" "I", Cond.methodLink RX4 60 yX4_refuseOtherThanNode, Cond.instanceMethod yX4_refuseOtherThanNode, Cond.selects RX4 yX4_refuseOtherThanNode yX4_refuseOtherThanNode, Cond.initialized RX4, Cond.code yX4_refuseOtherThanNode cX4_refuseOtherThanNode 2 none, Cond.classLink RX4 101 "java/lang/IndexOutOfBoundsException", Cond.initialized "java/lang/IndexOutOfBoundsException", Cond.fieldLink RX4 33 "ConvexConduit" "network" "LConvexConduit$Network;", Cond.fieldLink RX4 98 "ConvexConduit$Network" "nodes" "I", Cond.methodLink RX4 110 yX0_meet, Cond.instanceMethod yX0_meet, Cond.selects RX0 yX0_meet yX0_meet, Cond.initialized RX0, Cond.code yX0_meet cX0_meet 5 (some .boolean), Cond.methodLink RX0 31 yX0_empty, Cond.instanceMethod yX0_empty, Cond.selects RX0 yX0_empty yX0_empty, Cond.code yX0_empty cX0_empty 2 none, Cond.fieldLink RX0 27 "ConvexConduit$CheapestFlow" "network" "LConvexConduit$Network;", Cond.fieldLink RX0 45 "ConvexConduit$Network" "arcs" "I"]
def wsX4_more_r2 : List Cond := [Cond.fieldLink RX0 9 "ConvexConduit$CheapestFlow" "on" "[I", Cond.fieldLink RX0 15 "ConvexConduit$CheapestFlow" "low" "[I", Cond.fieldLink RX0 18 "ConvexConduit$CheapestFlow" "high" "[I", Cond.fieldLink RX0 65 "ConvexConduit$Network" "capacity" "[I", Cond.methodLink RX0 34 yX0_measureFrom, Cond.instanceMethod yX0_measureFrom, Cond.selects RX0 yX0_measureFrom yX0_measureFrom, Cond.code yX0_measureFrom cX0_measureFrom 3 none, Cond.fieldLink RX0 82 "ConvexConduit$Network" "nodes" "I", Cond.fieldLink RX0 21 "ConvexConduit$CheapestFlow" "distance" "[I", Cond.constant RX0 55 (1000000), Cond.fieldLink RX0 24 "ConvexConduit$CheapestFlow" "cameBy" "[I", Cond.methodLink RX0 99 yX0_measure, Cond.instanceMethod yX0_measure, Cond.selects RX0 yX0_measure yX0_measure, Cond.code yX0_measure cX0_measure 4 none, Cond.methodLink RX0 102 yX2_steps, Cond.instanceMethod yX2_steps, Cond.selects RX2 yX2_steps yX2_steps, Cond.initialized RX2, Cond.code yX2_steps cX2_steps 1 (some .int), Cond.fieldLink RX2 9 "ConvexConduit$Network" "arcs" "I", Cond.methodLink RX0 106 yX0_shorten, Cond.instanceMethod yX0_shorten]
def wsX4_more_r3 : List Cond := [Cond.selects RX0 yX0_shorten yX0_shorten, Cond.code yX0_shorten cX0_shorten 4 (some .boolean), Cond.methodLink RX0 93 yX2_start, Cond.instanceMethod yX2_start, Cond.selects RX2 yX2_start yX2_start, Cond.code yX2_start cX2_start 2 (some .int), Cond.fieldLink RX2 15 "ConvexConduit$Network" "from" "[I", Cond.fieldLink RX2 19 "ConvexConduit$Network" "to" "[I", Cond.methodLink RX2 43 yX2_goesAlong, Cond.static yX2_goesAlong, Cond.code yX2_goesAlong cX2_goesAlong 1 (some .boolean), Cond.methodLink RX2 47 yX2_arcOf, Cond.static yX2_arcOf, Cond.code yX2_arcOf cX2_arcOf 1 (some .int), Cond.methodLink RX0 109 yX2_end, Cond.instanceMethod yX2_end, Cond.selects RX2 yX2_end yX2_end, Cond.code yX2_end cX2_end 2 (some .int), Cond.methodLink RX0 96 yX0_roomOf, Cond.instanceMethod yX0_roomOf, Cond.selects RX0 yX0_roomOf yX0_roomOf, Cond.code yX0_roomOf cX0_roomOf 3 (some .int), Cond.methodLink RX0 85 yX2_arcOf, Cond.methodLink RX0 89 yX2_goesAlong]
def wsX4_more_r4 : List Cond := [Cond.methodLink RX0 112 yX0_priceOf, Cond.instanceMethod yX0_priceOf, Cond.selects RX0 yX0_priceOf yX0_priceOf, Cond.code yX0_priceOf cX0_priceOf 3 (some .int), Cond.methodLink RX0 51 yX2_unitPrice, Cond.instanceMethod yX2_unitPrice, Cond.selects RX2 yX2_unitPrice yX2_unitPrice, Cond.code yX2_unitPrice cX2_unitPrice 3 (some .int), Cond.fieldLink RX2 25 "ConvexConduit$Network" "capacity" "[I", Cond.constant RX2 38 (1000000), Cond.fieldLink RX2 28 "ConvexConduit$Network" "prices" "[I", Cond.methodLink RX0 38 yX0_sendOnWay, Cond.instanceMethod yX0_sendOnWay, Cond.selects RX0 yX0_sendOnWay yX0_sendOnWay, Cond.code yX0_sendOnWay cX0_sendOnWay 8 (some .int), Cond.methodLink RX0 77 Lib.Math.min.name, Cond.static Lib.Math.min.name, Cond.initialized "java/lang/Math", Cond.code Lib.Math.min.name Lib.Math.min.code 2 (some .int), Cond.methodLink RX0 74 yX0_roomOnWay, Cond.instanceMethod yX0_roomOnWay, Cond.selects RX0 yX0_roomOnWay yX0_roomOnWay, Cond.code yX0_roomOnWay cX0_roomOnWay 7 (some .int), Cond.methodLink RX4 122 yX0_priceOfUnitMore]
def wsX4_more_r5 : List Cond := [Cond.instanceMethod yX0_priceOfUnitMore, Cond.selects RX0 yX0_priceOfUnitMore yX0_priceOfUnitMore, Cond.code yX0_priceOfUnitMore cX0_priceOfUnitMore 3 (some .int)]
def wsX4_more : List Cond := .code yX4_more cX4_more 2 (some .int) :: ((wsX4_more_r1 ++ (wsX4_more_r2 ++ (wsX4_more_r3 ++ (wsX4_more_r4 ++ wsX4_more_r5)))) ++ wsX40 ++ wsX20 ++ wsX00 ++ (vx_at0 RX4 103 "java/lang/IndexOutOfBoundsException" ["java/lang/RuntimeException", "java/lang/Exception"]).filter goodWord)
def wsX4_flow_r1 : List Cond := [Cond.fieldLink RX4 42 "ConvexConduit" "cheapest" "LConvexConduit$CheapestFlow;", Cond.fieldLink RX4 9 "ConvexConduit" "source" "I", Cond.fieldLink RX4 13 "ConvexConduit" "target" "I", Cond.fieldLink RX4 16 "ConvexConduit" "amount" "I", Cond.methodLink RX4 80 yX4_refuseOtherThanArc, Cond.instanceMethod yX4_refuseOtherThanArc, Cond.selects RX4 yX4_refuseOtherThanArc yX4_refuseOtherThanArc, Cond.initialized RX4, Cond.code yX4_refuseOtherThanArc cX4_refuseOtherThanArc 2 none, Cond.classLink RX4 101 "java/lang/IndexOutOfBoundsException", Cond.initialized "java/lang/IndexOutOfBoundsException", Cond.fieldLink RX4 33 "ConvexConduit" "network" "LConvexConduit$Network;", Cond.fieldLink RX4 70 "ConvexConduit$Network" "arcs" "I", Cond.methodLink RX4 110 yX0_meet, Cond.instanceMethod yX0_meet, Cond.selects RX0 yX0_meet yX0_meet, Cond.initialized RX0, Cond.code yX0_meet cX0_meet 5 (some .boolean), Cond.methodLink RX0 31 yX0_empty, Cond.instanceMethod yX0_empty, Cond.selects RX0 yX0_empty yX0_empty, Cond.code yX0_empty cX0_empty 2 none, Cond.fieldLink RX0 27 "ConvexConduit$CheapestFlow" "network" "LConvexConduit$Network;", Cond.fieldLink RX0 45 "ConvexConduit$Network" "arcs" "I"]
def wsX4_flow_r2 : List Cond := [Cond.fieldLink RX0 9 "ConvexConduit$CheapestFlow" "on" "[I", Cond.fieldLink RX0 15 "ConvexConduit$CheapestFlow" "low" "[I", Cond.fieldLink RX0 18 "ConvexConduit$CheapestFlow" "high" "[I", Cond.fieldLink RX0 65 "ConvexConduit$Network" "capacity" "[I", Cond.methodLink RX0 34 yX0_measureFrom, Cond.instanceMethod yX0_measureFrom, Cond.selects RX0 yX0_measureFrom yX0_measureFrom, Cond.code yX0_measureFrom cX0_measureFrom 3 none, Cond.fieldLink RX0 82 "ConvexConduit$Network" "nodes" "I", Cond.fieldLink RX0 21 "ConvexConduit$CheapestFlow" "distance" "[I", Cond.constant RX0 55 (1000000), Cond.fieldLink RX0 24 "ConvexConduit$CheapestFlow" "cameBy" "[I", Cond.methodLink RX0 99 yX0_measure, Cond.instanceMethod yX0_measure, Cond.selects RX0 yX0_measure yX0_measure, Cond.code yX0_measure cX0_measure 4 none, Cond.methodLink RX0 102 yX2_steps, Cond.instanceMethod yX2_steps, Cond.selects RX2 yX2_steps yX2_steps, Cond.initialized RX2, Cond.code yX2_steps cX2_steps 1 (some .int), Cond.fieldLink RX2 9 "ConvexConduit$Network" "arcs" "I", Cond.methodLink RX0 106 yX0_shorten, Cond.instanceMethod yX0_shorten]
def wsX4_flow_r3 : List Cond := [Cond.selects RX0 yX0_shorten yX0_shorten, Cond.code yX0_shorten cX0_shorten 4 (some .boolean), Cond.methodLink RX0 93 yX2_start, Cond.instanceMethod yX2_start, Cond.selects RX2 yX2_start yX2_start, Cond.code yX2_start cX2_start 2 (some .int), Cond.fieldLink RX2 15 "ConvexConduit$Network" "from" "[I", Cond.fieldLink RX2 19 "ConvexConduit$Network" "to" "[I", Cond.methodLink RX2 43 yX2_goesAlong, Cond.static yX2_goesAlong, Cond.code yX2_goesAlong cX2_goesAlong 1 (some .boolean), Cond.methodLink RX2 47 yX2_arcOf, Cond.static yX2_arcOf, Cond.code yX2_arcOf cX2_arcOf 1 (some .int), Cond.methodLink RX0 109 yX2_end, Cond.instanceMethod yX2_end, Cond.selects RX2 yX2_end yX2_end, Cond.code yX2_end cX2_end 2 (some .int), Cond.methodLink RX0 96 yX0_roomOf, Cond.instanceMethod yX0_roomOf, Cond.selects RX0 yX0_roomOf yX0_roomOf, Cond.code yX0_roomOf cX0_roomOf 3 (some .int), Cond.methodLink RX0 85 yX2_arcOf, Cond.methodLink RX0 89 yX2_goesAlong]
def wsX4_flow_r4 : List Cond := [Cond.methodLink RX0 112 yX0_priceOf, Cond.instanceMethod yX0_priceOf, Cond.selects RX0 yX0_priceOf yX0_priceOf, Cond.code yX0_priceOf cX0_priceOf 3 (some .int), Cond.methodLink RX0 51 yX2_unitPrice, Cond.instanceMethod yX2_unitPrice, Cond.selects RX2 yX2_unitPrice yX2_unitPrice, Cond.code yX2_unitPrice cX2_unitPrice 3 (some .int), Cond.fieldLink RX2 25 "ConvexConduit$Network" "capacity" "[I", Cond.constant RX2 38 (1000000), Cond.fieldLink RX2 28 "ConvexConduit$Network" "prices" "[I", Cond.methodLink RX0 38 yX0_sendOnWay, Cond.instanceMethod yX0_sendOnWay, Cond.selects RX0 yX0_sendOnWay yX0_sendOnWay, Cond.code yX0_sendOnWay cX0_sendOnWay 8 (some .int), Cond.methodLink RX0 77 Lib.Math.min.name, Cond.static Lib.Math.min.name, Cond.initialized "java/lang/Math", Cond.code Lib.Math.min.name Lib.Math.min.code 2 (some .int), Cond.methodLink RX0 74 yX0_roomOnWay, Cond.instanceMethod yX0_roomOnWay, Cond.selects RX0 yX0_roomOnWay yX0_roomOnWay, Cond.code yX0_roomOnWay cX0_roomOnWay 7 (some .int), Cond.methodLink RX4 125 yX0_keepToCheapest]
def wsX4_flow_r5 : List Cond := [Cond.instanceMethod yX0_keepToCheapest, Cond.selects RX0 yX0_keepToCheapest yX0_keepToCheapest, Cond.code yX0_keepToCheapest cX0_keepToCheapest 5 none, Cond.fieldLink RX0 59 "ConvexConduit$Network" "to" "[I", Cond.fieldLink RX0 62 "ConvexConduit$Network" "from" "[I", Cond.methodLink RX0 56 yX0_measureFromAll, Cond.instanceMethod yX0_measureFromAll, Cond.selects RX0 yX0_measureFromAll yX0_measureFromAll, Cond.code yX0_measureFromAll cX0_measureFromAll 2 none, Cond.methodLink RX4 128 yX0_lower, Cond.instanceMethod yX0_lower, Cond.selects RX0 yX0_lower yX0_lower, Cond.code yX0_lower cX0_lower 3 (some .int), Cond.methodLink RX0 68 yX0_hold, Cond.instanceMethod yX0_hold, Cond.selects RX0 yX0_hold yX0_hold, Cond.code yX0_hold cX0_hold 2 none, Cond.methodLink RX0 42 yX0_send, Cond.instanceMethod yX0_send, Cond.selects RX0 yX0_send yX0_send, Cond.code yX0_send cX0_send 7 (some .int), Cond.methodLink RX0 71 yX0_spreadFrom, Cond.instanceMethod yX0_spreadFrom, Cond.selects RX0 yX0_spreadFrom yX0_spreadFrom]
def wsX4_flow_r6 : List Cond := [Cond.code yX0_spreadFrom cX0_spreadFrom 5 none, Cond.methodLink RX0 115 yX0_widen, Cond.instanceMethod yX0_widen, Cond.selects RX0 yX0_widen yX0_widen, Cond.code yX0_widen cX0_widen 6 (some .boolean)]
def wsX4_flow : List Cond := .code yX4_flow cX4_flow 3 (some .int) :: ((wsX4_flow_r1 ++ (wsX4_flow_r2 ++ (wsX4_flow_r3 ++ (wsX4_flow_r4 ++ (wsX4_flow_r5 ++ wsX4_flow_r6))))) ++ wsX40 ++ wsX20 ++ wsX00 ++ (vx_at0 RX4 103 "java/lang/IndexOutOfBoundsException" ["java/lang/RuntimeException", "java/lang/Exception"]).filter goodWord)
def wsX4_leastOn_r1 : List Cond := [Cond.fieldLink RX4 42 "ConvexConduit" "cheapest" "LConvexConduit$CheapestFlow;", Cond.fieldLink RX4 9 "ConvexConduit" "source" "I", Cond.fieldLink RX4 13 "ConvexConduit" "target" "I", Cond.fieldLink RX4 16 "ConvexConduit" "amount" "I", Cond.methodLink RX4 80 yX4_refuseOtherThanArc, Cond.instanceMethod yX4_refuseOtherThanArc, Cond.selects RX4 yX4_refuseOtherThanArc yX4_refuseOtherThanArc, Cond.initialized RX4, Cond.code yX4_refuseOtherThanArc cX4_refuseOtherThanArc 2 none, Cond.classLink RX4 101 "java/lang/IndexOutOfBoundsException", Cond.initialized "java/lang/IndexOutOfBoundsException", Cond.fieldLink RX4 33 "ConvexConduit" "network" "LConvexConduit$Network;", Cond.fieldLink RX4 70 "ConvexConduit$Network" "arcs" "I", Cond.methodLink RX4 110 yX0_meet, Cond.instanceMethod yX0_meet, Cond.selects RX0 yX0_meet yX0_meet, Cond.initialized RX0, Cond.code yX0_meet cX0_meet 5 (some .boolean), Cond.methodLink RX0 31 yX0_empty, Cond.instanceMethod yX0_empty, Cond.selects RX0 yX0_empty yX0_empty, Cond.code yX0_empty cX0_empty 2 none, Cond.fieldLink RX0 27 "ConvexConduit$CheapestFlow" "network" "LConvexConduit$Network;", Cond.fieldLink RX0 45 "ConvexConduit$Network" "arcs" "I"]
def wsX4_leastOn_r2 : List Cond := [Cond.fieldLink RX0 9 "ConvexConduit$CheapestFlow" "on" "[I", Cond.fieldLink RX0 15 "ConvexConduit$CheapestFlow" "low" "[I", Cond.fieldLink RX0 18 "ConvexConduit$CheapestFlow" "high" "[I", Cond.fieldLink RX0 65 "ConvexConduit$Network" "capacity" "[I", Cond.methodLink RX0 34 yX0_measureFrom, Cond.instanceMethod yX0_measureFrom, Cond.selects RX0 yX0_measureFrom yX0_measureFrom, Cond.code yX0_measureFrom cX0_measureFrom 3 none, Cond.fieldLink RX0 82 "ConvexConduit$Network" "nodes" "I", Cond.fieldLink RX0 21 "ConvexConduit$CheapestFlow" "distance" "[I", Cond.constant RX0 55 (1000000), Cond.fieldLink RX0 24 "ConvexConduit$CheapestFlow" "cameBy" "[I", Cond.methodLink RX0 99 yX0_measure, Cond.instanceMethod yX0_measure, Cond.selects RX0 yX0_measure yX0_measure, Cond.code yX0_measure cX0_measure 4 none, Cond.methodLink RX0 102 yX2_steps, Cond.instanceMethod yX2_steps, Cond.selects RX2 yX2_steps yX2_steps, Cond.initialized RX2, Cond.code yX2_steps cX2_steps 1 (some .int), Cond.fieldLink RX2 9 "ConvexConduit$Network" "arcs" "I", Cond.methodLink RX0 106 yX0_shorten, Cond.instanceMethod yX0_shorten]
def wsX4_leastOn_r3 : List Cond := [Cond.selects RX0 yX0_shorten yX0_shorten, Cond.code yX0_shorten cX0_shorten 4 (some .boolean), Cond.methodLink RX0 93 yX2_start, Cond.instanceMethod yX2_start, Cond.selects RX2 yX2_start yX2_start, Cond.code yX2_start cX2_start 2 (some .int), Cond.fieldLink RX2 15 "ConvexConduit$Network" "from" "[I", Cond.fieldLink RX2 19 "ConvexConduit$Network" "to" "[I", Cond.methodLink RX2 43 yX2_goesAlong, Cond.static yX2_goesAlong, Cond.code yX2_goesAlong cX2_goesAlong 1 (some .boolean), Cond.methodLink RX2 47 yX2_arcOf, Cond.static yX2_arcOf, Cond.code yX2_arcOf cX2_arcOf 1 (some .int), Cond.methodLink RX0 109 yX2_end, Cond.instanceMethod yX2_end, Cond.selects RX2 yX2_end yX2_end, Cond.code yX2_end cX2_end 2 (some .int), Cond.methodLink RX0 96 yX0_roomOf, Cond.instanceMethod yX0_roomOf, Cond.selects RX0 yX0_roomOf yX0_roomOf, Cond.code yX0_roomOf cX0_roomOf 3 (some .int), Cond.methodLink RX0 85 yX2_arcOf, Cond.methodLink RX0 89 yX2_goesAlong]
def wsX4_leastOn_r4 : List Cond := [Cond.methodLink RX0 112 yX0_priceOf, Cond.instanceMethod yX0_priceOf, Cond.selects RX0 yX0_priceOf yX0_priceOf, Cond.code yX0_priceOf cX0_priceOf 3 (some .int), Cond.methodLink RX0 51 yX2_unitPrice, Cond.instanceMethod yX2_unitPrice, Cond.selects RX2 yX2_unitPrice yX2_unitPrice, Cond.code yX2_unitPrice cX2_unitPrice 3 (some .int), Cond.fieldLink RX2 25 "ConvexConduit$Network" "capacity" "[I", Cond.constant RX2 38 (1000000), Cond.fieldLink RX2 28 "ConvexConduit$Network" "prices" "[I", Cond.methodLink RX0 38 yX0_sendOnWay, Cond.instanceMethod yX0_sendOnWay, Cond.selects RX0 yX0_sendOnWay yX0_sendOnWay, Cond.code yX0_sendOnWay cX0_sendOnWay 8 (some .int), Cond.methodLink RX0 77 Lib.Math.min.name, Cond.static Lib.Math.min.name, Cond.initialized "java/lang/Math", Cond.code Lib.Math.min.name Lib.Math.min.code 2 (some .int), Cond.methodLink RX0 74 yX0_roomOnWay, Cond.instanceMethod yX0_roomOnWay, Cond.selects RX0 yX0_roomOnWay yX0_roomOnWay, Cond.code yX0_roomOnWay cX0_roomOnWay 7 (some .int), Cond.methodLink RX4 125 yX0_keepToCheapest]
def wsX4_leastOn_r5 : List Cond := [Cond.instanceMethod yX0_keepToCheapest, Cond.selects RX0 yX0_keepToCheapest yX0_keepToCheapest, Cond.code yX0_keepToCheapest cX0_keepToCheapest 5 none, Cond.fieldLink RX0 59 "ConvexConduit$Network" "to" "[I", Cond.fieldLink RX0 62 "ConvexConduit$Network" "from" "[I", Cond.methodLink RX0 56 yX0_measureFromAll, Cond.instanceMethod yX0_measureFromAll, Cond.selects RX0 yX0_measureFromAll yX0_measureFromAll, Cond.code yX0_measureFromAll cX0_measureFromAll 2 none, Cond.methodLink RX4 128 yX0_lower, Cond.instanceMethod yX0_lower, Cond.selects RX0 yX0_lower yX0_lower, Cond.code yX0_lower cX0_lower 3 (some .int), Cond.methodLink RX0 68 yX0_hold, Cond.instanceMethod yX0_hold, Cond.selects RX0 yX0_hold yX0_hold, Cond.code yX0_hold cX0_hold 2 none, Cond.methodLink RX0 42 yX0_send, Cond.instanceMethod yX0_send, Cond.selects RX0 yX0_send yX0_send, Cond.code yX0_send cX0_send 7 (some .int), Cond.methodLink RX0 71 yX0_spreadFrom, Cond.instanceMethod yX0_spreadFrom, Cond.selects RX0 yX0_spreadFrom yX0_spreadFrom]
def wsX4_leastOn_r6 : List Cond := [Cond.code yX0_spreadFrom cX0_spreadFrom 5 none, Cond.methodLink RX0 115 yX0_widen, Cond.instanceMethod yX0_widen, Cond.selects RX0 yX0_widen yX0_widen, Cond.code yX0_widen cX0_widen 6 (some .boolean)]
def wsX4_leastOn : List Cond := .code yX4_leastOn cX4_leastOn 2 (some .int) :: ((wsX4_leastOn_r1 ++ (wsX4_leastOn_r2 ++ (wsX4_leastOn_r3 ++ (wsX4_leastOn_r4 ++ (wsX4_leastOn_r5 ++ wsX4_leastOn_r6))))) ++ wsX40 ++ wsX20 ++ wsX00 ++ (vx_at0 RX4 103 "java/lang/IndexOutOfBoundsException" ["java/lang/RuntimeException", "java/lang/Exception"]).filter goodWord)
def wsX4_mostOn_r1 : List Cond := [Cond.fieldLink RX4 42 "ConvexConduit" "cheapest" "LConvexConduit$CheapestFlow;", Cond.fieldLink RX4 9 "ConvexConduit" "source" "I", Cond.fieldLink RX4 13 "ConvexConduit" "target" "I", Cond.fieldLink RX4 16 "ConvexConduit" "amount" "I", Cond.methodLink RX4 80 yX4_refuseOtherThanArc, Cond.instanceMethod yX4_refuseOtherThanArc, Cond.selects RX4 yX4_refuseOtherThanArc yX4_refuseOtherThanArc, Cond.initialized RX4, Cond.code yX4_refuseOtherThanArc cX4_refuseOtherThanArc 2 none, Cond.classLink RX4 101 "java/lang/IndexOutOfBoundsException", Cond.initialized "java/lang/IndexOutOfBoundsException", Cond.fieldLink RX4 33 "ConvexConduit" "network" "LConvexConduit$Network;", Cond.fieldLink RX4 70 "ConvexConduit$Network" "arcs" "I", Cond.methodLink RX4 110 yX0_meet, Cond.instanceMethod yX0_meet, Cond.selects RX0 yX0_meet yX0_meet, Cond.initialized RX0, Cond.code yX0_meet cX0_meet 5 (some .boolean), Cond.methodLink RX0 31 yX0_empty, Cond.instanceMethod yX0_empty, Cond.selects RX0 yX0_empty yX0_empty, Cond.code yX0_empty cX0_empty 2 none, Cond.fieldLink RX0 27 "ConvexConduit$CheapestFlow" "network" "LConvexConduit$Network;", Cond.fieldLink RX0 45 "ConvexConduit$Network" "arcs" "I"]
def wsX4_mostOn_r2 : List Cond := [Cond.fieldLink RX0 9 "ConvexConduit$CheapestFlow" "on" "[I", Cond.fieldLink RX0 15 "ConvexConduit$CheapestFlow" "low" "[I", Cond.fieldLink RX0 18 "ConvexConduit$CheapestFlow" "high" "[I", Cond.fieldLink RX0 65 "ConvexConduit$Network" "capacity" "[I", Cond.methodLink RX0 34 yX0_measureFrom, Cond.instanceMethod yX0_measureFrom, Cond.selects RX0 yX0_measureFrom yX0_measureFrom, Cond.code yX0_measureFrom cX0_measureFrom 3 none, Cond.fieldLink RX0 82 "ConvexConduit$Network" "nodes" "I", Cond.fieldLink RX0 21 "ConvexConduit$CheapestFlow" "distance" "[I", Cond.constant RX0 55 (1000000), Cond.fieldLink RX0 24 "ConvexConduit$CheapestFlow" "cameBy" "[I", Cond.methodLink RX0 99 yX0_measure, Cond.instanceMethod yX0_measure, Cond.selects RX0 yX0_measure yX0_measure, Cond.code yX0_measure cX0_measure 4 none, Cond.methodLink RX0 102 yX2_steps, Cond.instanceMethod yX2_steps, Cond.selects RX2 yX2_steps yX2_steps, Cond.initialized RX2, Cond.code yX2_steps cX2_steps 1 (some .int), Cond.fieldLink RX2 9 "ConvexConduit$Network" "arcs" "I", Cond.methodLink RX0 106 yX0_shorten, Cond.instanceMethod yX0_shorten]
def wsX4_mostOn_r3 : List Cond := [Cond.selects RX0 yX0_shorten yX0_shorten, Cond.code yX0_shorten cX0_shorten 4 (some .boolean), Cond.methodLink RX0 93 yX2_start, Cond.instanceMethod yX2_start, Cond.selects RX2 yX2_start yX2_start, Cond.code yX2_start cX2_start 2 (some .int), Cond.fieldLink RX2 15 "ConvexConduit$Network" "from" "[I", Cond.fieldLink RX2 19 "ConvexConduit$Network" "to" "[I", Cond.methodLink RX2 43 yX2_goesAlong, Cond.static yX2_goesAlong, Cond.code yX2_goesAlong cX2_goesAlong 1 (some .boolean), Cond.methodLink RX2 47 yX2_arcOf, Cond.static yX2_arcOf, Cond.code yX2_arcOf cX2_arcOf 1 (some .int), Cond.methodLink RX0 109 yX2_end, Cond.instanceMethod yX2_end, Cond.selects RX2 yX2_end yX2_end, Cond.code yX2_end cX2_end 2 (some .int), Cond.methodLink RX0 96 yX0_roomOf, Cond.instanceMethod yX0_roomOf, Cond.selects RX0 yX0_roomOf yX0_roomOf, Cond.code yX0_roomOf cX0_roomOf 3 (some .int), Cond.methodLink RX0 85 yX2_arcOf, Cond.methodLink RX0 89 yX2_goesAlong]
def wsX4_mostOn_r4 : List Cond := [Cond.methodLink RX0 112 yX0_priceOf, Cond.instanceMethod yX0_priceOf, Cond.selects RX0 yX0_priceOf yX0_priceOf, Cond.code yX0_priceOf cX0_priceOf 3 (some .int), Cond.methodLink RX0 51 yX2_unitPrice, Cond.instanceMethod yX2_unitPrice, Cond.selects RX2 yX2_unitPrice yX2_unitPrice, Cond.code yX2_unitPrice cX2_unitPrice 3 (some .int), Cond.fieldLink RX2 25 "ConvexConduit$Network" "capacity" "[I", Cond.constant RX2 38 (1000000), Cond.fieldLink RX2 28 "ConvexConduit$Network" "prices" "[I", Cond.methodLink RX0 38 yX0_sendOnWay, Cond.instanceMethod yX0_sendOnWay, Cond.selects RX0 yX0_sendOnWay yX0_sendOnWay, Cond.code yX0_sendOnWay cX0_sendOnWay 8 (some .int), Cond.methodLink RX0 77 Lib.Math.min.name, Cond.static Lib.Math.min.name, Cond.initialized "java/lang/Math", Cond.code Lib.Math.min.name Lib.Math.min.code 2 (some .int), Cond.methodLink RX0 74 yX0_roomOnWay, Cond.instanceMethod yX0_roomOnWay, Cond.selects RX0 yX0_roomOnWay yX0_roomOnWay, Cond.code yX0_roomOnWay cX0_roomOnWay 7 (some .int), Cond.methodLink RX4 125 yX0_keepToCheapest]
def wsX4_mostOn_r5 : List Cond := [Cond.instanceMethod yX0_keepToCheapest, Cond.selects RX0 yX0_keepToCheapest yX0_keepToCheapest, Cond.code yX0_keepToCheapest cX0_keepToCheapest 5 none, Cond.fieldLink RX0 59 "ConvexConduit$Network" "to" "[I", Cond.fieldLink RX0 62 "ConvexConduit$Network" "from" "[I", Cond.methodLink RX0 56 yX0_measureFromAll, Cond.instanceMethod yX0_measureFromAll, Cond.selects RX0 yX0_measureFromAll yX0_measureFromAll, Cond.code yX0_measureFromAll cX0_measureFromAll 2 none, Cond.methodLink RX4 131 yX0_raise, Cond.instanceMethod yX0_raise, Cond.selects RX0 yX0_raise yX0_raise, Cond.code yX0_raise cX0_raise 3 (some .int), Cond.methodLink RX0 68 yX0_hold, Cond.instanceMethod yX0_hold, Cond.selects RX0 yX0_hold yX0_hold, Cond.code yX0_hold cX0_hold 2 none, Cond.methodLink RX0 42 yX0_send, Cond.instanceMethod yX0_send, Cond.selects RX0 yX0_send yX0_send, Cond.code yX0_send cX0_send 7 (some .int), Cond.methodLink RX0 71 yX0_spreadFrom, Cond.instanceMethod yX0_spreadFrom, Cond.selects RX0 yX0_spreadFrom yX0_spreadFrom]
def wsX4_mostOn_r6 : List Cond := [Cond.code yX0_spreadFrom cX0_spreadFrom 5 none, Cond.methodLink RX0 115 yX0_widen, Cond.instanceMethod yX0_widen, Cond.selects RX0 yX0_widen yX0_widen, Cond.code yX0_widen cX0_widen 6 (some .boolean)]
def wsX4_mostOn : List Cond := .code yX4_mostOn cX4_mostOn 2 (some .int) :: ((wsX4_mostOn_r1 ++ (wsX4_mostOn_r2 ++ (wsX4_mostOn_r3 ++ (wsX4_mostOn_r4 ++ (wsX4_mostOn_r5 ++ wsX4_mostOn_r6))))) ++ wsX40 ++ wsX20 ++ wsX00 ++ (vx_at0 RX4 103 "java/lang/IndexOutOfBoundsException" ["java/lang/RuntimeException", "java/lang/Exception"]).filter goodWord)
def wsX4_driven_r1 : List Cond := [Cond.fieldLink RX4 56 "ConvexConduit" "drivers" "LConvexConduit$Drivers;", Cond.fieldLink RX4 9 "ConvexConduit" "source" "I", Cond.fieldLink RX4 13 "ConvexConduit" "target" "I", Cond.fieldLink RX4 16 "ConvexConduit" "amount" "I", Cond.fieldLink RX4 137 "ConvexConduit$Drivers" "found" "I", Cond.fieldLink RX4 140 "ConvexConduit$Drivers" "paidByAll" "I", Cond.methodLink RX4 134 yX1_comeOneByOne, Cond.instanceMethod yX1_comeOneByOne, Cond.selects RX1 yX1_comeOneByOne yX1_comeOneByOne, Cond.initialized RX1, Cond.code yX1_comeOneByOne cX1_comeOneByOne 5 none, Cond.fieldLink RX1 28 "ConvexConduit$Drivers" "network" "LConvexConduit$Network;", Cond.fieldLink RX1 32 "ConvexConduit$Network" "arcs" "I", Cond.fieldLink RX1 9 "ConvexConduit$Drivers" "taken" "[I", Cond.fieldLink RX1 18 "ConvexConduit$Drivers" "found" "I", Cond.fieldLink RX1 22 "ConvexConduit$Drivers" "paidByAll" "I", Cond.fieldLink RX1 25 "ConvexConduit$Drivers" "paidLast" "I", Cond.fieldLink RX1 15 "ConvexConduit$Drivers" "weightToTarget" "[I", Cond.constant RX1 41 (1000000), Cond.methodLink RX1 37 yX1_weighWaysTo, Cond.instanceMethod yX1_weighWaysTo, Cond.selects RX1 yX1_weighWaysTo yX1_weighWaysTo, Cond.code yX1_weighWaysTo cX1_weighWaysTo 6 none, Cond.fieldLink RX1 46 "ConvexConduit$Network" "nodes" "I"]
def wsX4_driven_r2 : List Cond := [Cond.fieldLink RX1 53 "ConvexConduit$Network" "from" "[I", Cond.methodLink RX1 49 yX1_weightBy, Cond.instanceMethod yX1_weightBy, Cond.selects RX1 yX1_weightBy yX1_weightBy, Cond.code yX1_weightBy cX1_weightBy 2 (some .int), Cond.fieldLink RX1 56 "ConvexConduit$Network" "capacity" "[I", Cond.fieldLink RX1 59 "ConvexConduit$Network" "to" "[I", Cond.methodLink RX1 62 yX1_nextPrice, Cond.instanceMethod yX1_nextPrice, Cond.selects RX1 yX1_nextPrice yX1_nextPrice, Cond.code yX1_nextPrice cX1_nextPrice 2 (some .int), Cond.methodLink RX1 68 yX2_unitPrice, Cond.instanceMethod yX2_unitPrice, Cond.selects RX2 yX2_unitPrice yX2_unitPrice, Cond.initialized RX2, Cond.code yX2_unitPrice cX2_unitPrice 3 (some .int), Cond.fieldLink RX2 25 "ConvexConduit$Network" "capacity" "[I", Cond.constant RX2 38 (1000000), Cond.fieldLink RX2 28 "ConvexConduit$Network" "prices" "[I", Cond.methodLink RX1 42 yX1_drive, Cond.instanceMethod yX1_drive, Cond.selects RX1 yX1_drive yX1_drive, Cond.code yX1_drive cX1_drive 7 (some .int), Cond.methodLink RX1 65 yX1_bestArcFrom]
def wsX4_driven_r3 : List Cond := [Cond.instanceMethod yX1_bestArcFrom, Cond.selects RX1 yX1_bestArcFrom yX1_bestArcFrom, Cond.code yX1_bestArcFrom cX1_bestArcFrom 3 (some .int)]
def wsX4_driven : List Cond := .code yX4_driven cX4_driven 1 (some .int) :: ((wsX4_driven_r1 ++ (wsX4_driven_r2 ++ wsX4_driven_r3)) ++ wsX40 ++ wsX10 ++ wsX20)
def wsX4_drivenOn_r1 : List Cond := [Cond.fieldLink RX4 56 "ConvexConduit" "drivers" "LConvexConduit$Drivers;", Cond.fieldLink RX4 9 "ConvexConduit" "source" "I", Cond.fieldLink RX4 13 "ConvexConduit" "target" "I", Cond.fieldLink RX4 16 "ConvexConduit" "amount" "I", Cond.fieldLink RX4 143 "ConvexConduit$Drivers" "taken" "[I", Cond.methodLink RX4 80 yX4_refuseOtherThanArc, Cond.instanceMethod yX4_refuseOtherThanArc, Cond.selects RX4 yX4_refuseOtherThanArc yX4_refuseOtherThanArc, Cond.initialized RX4, Cond.code yX4_refuseOtherThanArc cX4_refuseOtherThanArc 2 none, Cond.classLink RX4 101 "java/lang/IndexOutOfBoundsException", Cond.initialized "java/lang/IndexOutOfBoundsException", Cond.fieldLink RX4 33 "ConvexConduit" "network" "LConvexConduit$Network;", Cond.fieldLink RX4 70 "ConvexConduit$Network" "arcs" "I", Cond.methodLink RX4 134 yX1_comeOneByOne, Cond.instanceMethod yX1_comeOneByOne, Cond.selects RX1 yX1_comeOneByOne yX1_comeOneByOne, Cond.initialized RX1, Cond.code yX1_comeOneByOne cX1_comeOneByOne 5 none, Cond.fieldLink RX1 28 "ConvexConduit$Drivers" "network" "LConvexConduit$Network;", Cond.fieldLink RX1 32 "ConvexConduit$Network" "arcs" "I", Cond.fieldLink RX1 9 "ConvexConduit$Drivers" "taken" "[I", Cond.fieldLink RX1 18 "ConvexConduit$Drivers" "found" "I", Cond.fieldLink RX1 22 "ConvexConduit$Drivers" "paidByAll" "I"]
def wsX4_drivenOn_r2 : List Cond := [Cond.fieldLink RX1 25 "ConvexConduit$Drivers" "paidLast" "I", Cond.fieldLink RX1 15 "ConvexConduit$Drivers" "weightToTarget" "[I", Cond.constant RX1 41 (1000000), Cond.methodLink RX1 37 yX1_weighWaysTo, Cond.instanceMethod yX1_weighWaysTo, Cond.selects RX1 yX1_weighWaysTo yX1_weighWaysTo, Cond.code yX1_weighWaysTo cX1_weighWaysTo 6 none, Cond.fieldLink RX1 46 "ConvexConduit$Network" "nodes" "I", Cond.fieldLink RX1 53 "ConvexConduit$Network" "from" "[I", Cond.methodLink RX1 49 yX1_weightBy, Cond.instanceMethod yX1_weightBy, Cond.selects RX1 yX1_weightBy yX1_weightBy, Cond.code yX1_weightBy cX1_weightBy 2 (some .int), Cond.fieldLink RX1 56 "ConvexConduit$Network" "capacity" "[I", Cond.fieldLink RX1 59 "ConvexConduit$Network" "to" "[I", Cond.methodLink RX1 62 yX1_nextPrice, Cond.instanceMethod yX1_nextPrice, Cond.selects RX1 yX1_nextPrice yX1_nextPrice, Cond.code yX1_nextPrice cX1_nextPrice 2 (some .int), Cond.methodLink RX1 68 yX2_unitPrice, Cond.instanceMethod yX2_unitPrice, Cond.selects RX2 yX2_unitPrice yX2_unitPrice, Cond.initialized RX2, Cond.code yX2_unitPrice cX2_unitPrice 3 (some .int)]
def wsX4_drivenOn_r3 : List Cond := [Cond.fieldLink RX2 25 "ConvexConduit$Network" "capacity" "[I", Cond.constant RX2 38 (1000000), Cond.fieldLink RX2 28 "ConvexConduit$Network" "prices" "[I", Cond.methodLink RX1 42 yX1_drive, Cond.instanceMethod yX1_drive, Cond.selects RX1 yX1_drive yX1_drive, Cond.code yX1_drive cX1_drive 7 (some .int), Cond.methodLink RX1 65 yX1_bestArcFrom, Cond.instanceMethod yX1_bestArcFrom, Cond.selects RX1 yX1_bestArcFrom yX1_bestArcFrom, Cond.code yX1_bestArcFrom cX1_bestArcFrom 3 (some .int)]
def wsX4_drivenOn : List Cond := .code yX4_drivenOn cX4_drivenOn 2 (some .int) :: ((wsX4_drivenOn_r1 ++ (wsX4_drivenOn_r2 ++ wsX4_drivenOn_r3)) ++ wsX40 ++ wsX10 ++ wsX20 ++ (vx_at0 RX4 103 "java/lang/IndexOutOfBoundsException" ["java/lang/RuntimeException", "java/lang/Exception"]).filter goodWord)
def wsX4_lastPaid_r1 : List Cond := [Cond.fieldLink RX4 56 "ConvexConduit" "drivers" "LConvexConduit$Drivers;", Cond.fieldLink RX4 9 "ConvexConduit" "source" "I", Cond.fieldLink RX4 13 "ConvexConduit" "target" "I", Cond.fieldLink RX4 16 "ConvexConduit" "amount" "I", Cond.fieldLink RX4 146 "ConvexConduit$Drivers" "paidLast" "I", Cond.methodLink RX4 134 yX1_comeOneByOne, Cond.instanceMethod yX1_comeOneByOne, Cond.selects RX1 yX1_comeOneByOne yX1_comeOneByOne, Cond.initialized RX1, Cond.code yX1_comeOneByOne cX1_comeOneByOne 5 none, Cond.fieldLink RX1 28 "ConvexConduit$Drivers" "network" "LConvexConduit$Network;", Cond.fieldLink RX1 32 "ConvexConduit$Network" "arcs" "I", Cond.fieldLink RX1 9 "ConvexConduit$Drivers" "taken" "[I", Cond.fieldLink RX1 18 "ConvexConduit$Drivers" "found" "I", Cond.fieldLink RX1 22 "ConvexConduit$Drivers" "paidByAll" "I", Cond.fieldLink RX1 25 "ConvexConduit$Drivers" "paidLast" "I", Cond.fieldLink RX1 15 "ConvexConduit$Drivers" "weightToTarget" "[I", Cond.constant RX1 41 (1000000), Cond.methodLink RX1 37 yX1_weighWaysTo, Cond.instanceMethod yX1_weighWaysTo, Cond.selects RX1 yX1_weighWaysTo yX1_weighWaysTo, Cond.code yX1_weighWaysTo cX1_weighWaysTo 6 none, Cond.fieldLink RX1 46 "ConvexConduit$Network" "nodes" "I", Cond.fieldLink RX1 53 "ConvexConduit$Network" "from" "[I"]
def wsX4_lastPaid_r2 : List Cond := [Cond.methodLink RX1 49 yX1_weightBy, Cond.instanceMethod yX1_weightBy, Cond.selects RX1 yX1_weightBy yX1_weightBy, Cond.code yX1_weightBy cX1_weightBy 2 (some .int), Cond.fieldLink RX1 56 "ConvexConduit$Network" "capacity" "[I", Cond.fieldLink RX1 59 "ConvexConduit$Network" "to" "[I", Cond.methodLink RX1 62 yX1_nextPrice, Cond.instanceMethod yX1_nextPrice, Cond.selects RX1 yX1_nextPrice yX1_nextPrice, Cond.code yX1_nextPrice cX1_nextPrice 2 (some .int), Cond.methodLink RX1 68 yX2_unitPrice, Cond.instanceMethod yX2_unitPrice, Cond.selects RX2 yX2_unitPrice yX2_unitPrice, Cond.initialized RX2, Cond.code yX2_unitPrice cX2_unitPrice 3 (some .int), Cond.fieldLink RX2 25 "ConvexConduit$Network" "capacity" "[I", Cond.constant RX2 38 (1000000), Cond.fieldLink RX2 28 "ConvexConduit$Network" "prices" "[I", Cond.methodLink RX1 42 yX1_drive, Cond.instanceMethod yX1_drive, Cond.selects RX1 yX1_drive yX1_drive, Cond.code yX1_drive cX1_drive 7 (some .int), Cond.methodLink RX1 65 yX1_bestArcFrom, Cond.instanceMethod yX1_bestArcFrom]
def wsX4_lastPaid_r3 : List Cond := [Cond.selects RX1 yX1_bestArcFrom yX1_bestArcFrom, Cond.code yX1_bestArcFrom cX1_bestArcFrom 3 (some .int)]
def wsX4_lastPaid : List Cond := .code yX4_lastPaid cX4_lastPaid 1 (some .int) :: ((wsX4_lastPaid_r1 ++ (wsX4_lastPaid_r2 ++ wsX4_lastPaid_r3)) ++ wsX40 ++ wsX10 ++ wsX20)
def wsX5_init : List Cond := .code yX5_init cX5_init 2 none :: ([.methodLink RX5 1 objectInit, .instanceMethod objectInit, .code objectInit ⟨#[0xb1]⟩ 1 none, .arrayClass .int, .fieldLink RX5 7 "ConvexConduitModel" "froms" "[I", .fieldLink RX5 13 "ConvexConduitModel" "tos" "[I", .fieldLink RX5 16 "ConvexConduitModel" "widths" "[I", .fieldLink RX5 19 "ConvexConduitModel" "prices" "[I", .fieldLink RX5 22 "ConvexConduitModel" "pieces" "[I", .fieldLink RX5 25 "ConvexConduitModel" "target" "I", .fieldLink RX5 29 "ConvexConduitModel" "least" "[I", .fieldLink RX5 32 "ConvexConduitModel" "most" "[I", .fieldLink RX5 35 "ConvexConduitModel" "on" "[I", .fieldLink RX5 38 "ConvexConduitModel" "rest" "[I", .fieldLink RX5 41 "ConvexConduitModel" "far" "[I", .fieldLink RX5 44 "ConvexConduitModel" "over" "[I", .fieldLink RX5 47 "ConvexConduitModel" "taken" "[I", .fieldLink RX5 50 "ConvexConduitModel" "nodes" "I"] ++ wsX50)
def wsX5_thrown : List Cond := .code yX5_thrown cX5_thrown 1 (some .int) :: ([.fieldLink RX5 53 "ConvexConduitModel" "thrown" "I"] ++ wsX50)
def wsX5_goesWell : List Cond := .code yX5_goesWell cX5_goesWell 2 (some .boolean) :: ([.fieldLink RX5 53 "ConvexConduitModel" "thrown" "I"] ++ wsX50)
def wsX5_in : List Cond := .code yX5_in cX5_in 3 (some .boolean) :: ([])
def wsX5_isNode : List Cond := .code yX5_isNode cX5_isNode 2 (some .boolean) :: ([.fieldLink RX5 50 "ConvexConduitModel" "nodes" "I", .methodLink RX5 56 yX5_in, .static yX5_in, .initialized RX5, .code yX5_in cX5_in 3 (some .boolean)] ++ wsX50)
def wsX5_isArc : List Cond := .code yX5_isArc cX5_isArc 2 (some .boolean) :: ([.fieldLink RX5 60 "ConvexConduitModel" "arcs" "I", .methodLink RX5 56 yX5_in, .static yX5_in, .initialized RX5, .code yX5_in cX5_in 3 (some .boolean)] ++ wsX50)
def wsX5_capacityOf : List Cond := .code yX5_capacityOf cX5_capacityOf 4 (some .int) :: ([.fieldLink RX5 22 "ConvexConduitModel" "pieces" "[I", .fieldLink RX5 16 "ConvexConduitModel" "widths" "[I"] ++ wsX50)
def wsX5_put : List Cond := .code yX5_put cX5_put 4 none :: ([.fieldLink RX5 16 "ConvexConduitModel" "widths" "[I", .fieldLink RX5 22 "ConvexConduitModel" "pieces" "[I", .fieldLink RX5 19 "ConvexConduitModel" "prices" "[I"] ++ wsX50)
def wsX5_arc : List Cond := .code yX5_arc cX5_arc 6 (some .int) :: ([.fieldLink RX5 60 "ConvexConduitModel" "arcs" "I", .fieldLink RX5 7 "ConvexConduitModel" "froms" "[I", .fieldLink RX5 13 "ConvexConduitModel" "tos" "[I", .fieldLink RX5 22 "ConvexConduitModel" "pieces" "[I", .methodLink RX5 56 yX5_in, .static yX5_in, .initialized RX5, .code yX5_in cX5_in 3 (some .boolean), .methodLink RX5 63 yX5_isNode, .instanceMethod yX5_isNode, .selects RX5 yX5_isNode yX5_isNode, .code yX5_isNode cX5_isNode 2 (some .boolean), .fieldLink RX5 50 "ConvexConduitModel" "nodes" "I", .methodLink RX5 67 yX5_goesWell, .instanceMethod yX5_goesWell, .selects RX5 yX5_goesWell yX5_goesWell, .code yX5_goesWell cX5_goesWell 2 (some .boolean), .fieldLink RX5 53 "ConvexConduitModel" "thrown" "I", .methodLink RX5 70 yX5_put, .instanceMethod yX5_put, .selects RX5 yX5_put yX5_put, .code yX5_put cX5_put 4 none, .fieldLink RX5 16 "ConvexConduitModel" "widths" "[I", .fieldLink RX5 19 "ConvexConduitModel" "prices" "[I"] ++ wsX50)
def wsX5_piece_r1 : List Cond := [Cond.fieldLink RX5 19 "ConvexConduitModel" "prices" "[I", Cond.fieldLink RX5 22 "ConvexConduitModel" "pieces" "[I", Cond.methodLink RX5 74 yX5_isArc, Cond.instanceMethod yX5_isArc, Cond.selects RX5 yX5_isArc yX5_isArc, Cond.initialized RX5, Cond.code yX5_isArc cX5_isArc 2 (some .boolean), Cond.fieldLink RX5 60 "ConvexConduitModel" "arcs" "I", Cond.methodLink RX5 56 yX5_in, Cond.static yX5_in, Cond.code yX5_in cX5_in 3 (some .boolean), Cond.methodLink RX5 67 yX5_goesWell, Cond.instanceMethod yX5_goesWell, Cond.selects RX5 yX5_goesWell yX5_goesWell, Cond.code yX5_goesWell cX5_goesWell 2 (some .boolean), Cond.fieldLink RX5 53 "ConvexConduitModel" "thrown" "I", Cond.methodLink RX5 70 yX5_put, Cond.instanceMethod yX5_put, Cond.selects RX5 yX5_put yX5_put, Cond.code yX5_put cX5_put 4 none, Cond.fieldLink RX5 16 "ConvexConduitModel" "widths" "[I", Cond.methodLink RX5 77 yX5_capacityOf, Cond.instanceMethod yX5_capacityOf, Cond.selects RX5 yX5_capacityOf yX5_capacityOf]
def wsX5_piece_r2 : List Cond := [Cond.code yX5_capacityOf cX5_capacityOf 4 (some .int)]
def wsX5_piece : List Cond := .code yX5_piece cX5_piece 5 (some .int) :: ((wsX5_piece_r1 ++ wsX5_piece_r2) ++ wsX50)
def wsX5_demand : List Cond := .code yX5_demand cX5_demand 5 none :: ([.fieldLink RX5 81 "ConvexConduitModel" "source" "I", .fieldLink RX5 25 "ConvexConduitModel" "target" "I", .fieldLink RX5 84 "ConvexConduitModel" "amount" "I", .methodLink RX5 56 yX5_in, .static yX5_in, .initialized RX5, .code yX5_in cX5_in 3 (some .boolean), .methodLink RX5 63 yX5_isNode, .instanceMethod yX5_isNode, .selects RX5 yX5_isNode yX5_isNode, .code yX5_isNode cX5_isNode 2 (some .boolean), .fieldLink RX5 50 "ConvexConduitModel" "nodes" "I", .methodLink RX5 67 yX5_goesWell, .instanceMethod yX5_goesWell, .selects RX5 yX5_goesWell yX5_goesWell, .code yX5_goesWell cX5_goesWell 2 (some .boolean), .fieldLink RX5 53 "ConvexConduitModel" "thrown" "I"] ++ wsX50)
def wsX5_nodes : List Cond := .code yX5_nodes cX5_nodes 1 (some .int) :: ([.fieldLink RX5 53 "ConvexConduitModel" "thrown" "I", .fieldLink RX5 50 "ConvexConduitModel" "nodes" "I"] ++ wsX50)
def wsX5_arcs : List Cond := .code yX5_arcs cX5_arcs 1 (some .int) :: ([.fieldLink RX5 53 "ConvexConduitModel" "thrown" "I", .fieldLink RX5 60 "ConvexConduitModel" "arcs" "I"] ++ wsX50)
def wsX5_capacity : List Cond := .code yX5_capacity cX5_capacity 2 (some .int) :: ([.methodLink RX5 74 yX5_isArc, .instanceMethod yX5_isArc, .selects RX5 yX5_isArc yX5_isArc, .initialized RX5, .code yX5_isArc cX5_isArc 2 (some .boolean), .fieldLink RX5 60 "ConvexConduitModel" "arcs" "I", .methodLink RX5 56 yX5_in, .static yX5_in, .code yX5_in cX5_in 3 (some .boolean), .methodLink RX5 67 yX5_goesWell, .instanceMethod yX5_goesWell, .selects RX5 yX5_goesWell yX5_goesWell, .code yX5_goesWell cX5_goesWell 2 (some .boolean), .fieldLink RX5 53 "ConvexConduitModel" "thrown" "I", .methodLink RX5 77 yX5_capacityOf, .instanceMethod yX5_capacityOf, .selects RX5 yX5_capacityOf yX5_capacityOf, .code yX5_capacityOf cX5_capacityOf 4 (some .int), .fieldLink RX5 22 "ConvexConduitModel" "pieces" "[I", .fieldLink RX5 16 "ConvexConduitModel" "widths" "[I"] ++ wsX50)
def wsX5_priceOf : List Cond := .code yX5_priceOf cX5_priceOf 5 (some .int) :: ([.fieldLink RX5 16 "ConvexConduitModel" "widths" "[I", .fieldLink RX5 19 "ConvexConduitModel" "prices" "[I"] ++ wsX50)
def wsX5_price_r1 : List Cond := [Cond.methodLink RX5 74 yX5_isArc, Cond.instanceMethod yX5_isArc, Cond.selects RX5 yX5_isArc yX5_isArc, Cond.initialized RX5, Cond.code yX5_isArc cX5_isArc 2 (some .boolean), Cond.fieldLink RX5 60 "ConvexConduitModel" "arcs" "I", Cond.methodLink RX5 56 yX5_in, Cond.static yX5_in, Cond.code yX5_in cX5_in 3 (some .boolean), Cond.methodLink RX5 77 yX5_capacityOf, Cond.instanceMethod yX5_capacityOf, Cond.selects RX5 yX5_capacityOf yX5_capacityOf, Cond.code yX5_capacityOf cX5_capacityOf 4 (some .int), Cond.fieldLink RX5 22 "ConvexConduitModel" "pieces" "[I", Cond.fieldLink RX5 16 "ConvexConduitModel" "widths" "[I", Cond.methodLink RX5 67 yX5_goesWell, Cond.instanceMethod yX5_goesWell, Cond.selects RX5 yX5_goesWell yX5_goesWell, Cond.code yX5_goesWell cX5_goesWell 2 (some .boolean), Cond.fieldLink RX5 53 "ConvexConduitModel" "thrown" "I", Cond.methodLink RX5 87 yX5_priceOf, Cond.instanceMethod yX5_priceOf, Cond.selects RX5 yX5_priceOf yX5_priceOf, Cond.code yX5_priceOf cX5_priceOf 5 (some .int)]
def wsX5_price_r2 : List Cond := [Cond.fieldLink RX5 19 "ConvexConduitModel" "prices" "[I"]
def wsX5_price : List Cond := .code yX5_price cX5_price 4 (some .int) :: ((wsX5_price_r1 ++ wsX5_price_r2) ++ wsX50)
def wsX5_open : List Cond := .code yX5_open cX5_open 2 none :: ([.fieldLink RX5 60 "ConvexConduitModel" "arcs" "I", .fieldLink RX5 29 "ConvexConduitModel" "least" "[I", .fieldLink RX5 32 "ConvexConduitModel" "most" "[I", .methodLink RX5 77 yX5_capacityOf, .instanceMethod yX5_capacityOf, .selects RX5 yX5_capacityOf yX5_capacityOf, .initialized RX5, .code yX5_capacityOf cX5_capacityOf 4 (some .int), .fieldLink RX5 22 "ConvexConduitModel" "pieces" "[I", .fieldLink RX5 16 "ConvexConduitModel" "widths" "[I"] ++ wsX50)
def wsX5_begin : List Cond := .code yX5_begin cX5_begin 6 (some .int) :: ([.fieldLink RX5 50 "ConvexConduitModel" "nodes" "I", .fieldLink RX5 38 "ConvexConduitModel" "rest" "[I", .fieldLink RX5 81 "ConvexConduitModel" "source" "I", .fieldLink RX5 25 "ConvexConduitModel" "target" "I", .fieldLink RX5 60 "ConvexConduitModel" "arcs" "I", .fieldLink RX5 35 "ConvexConduitModel" "on" "[I", .fieldLink RX5 29 "ConvexConduitModel" "least" "[I", .fieldLink RX5 7 "ConvexConduitModel" "froms" "[I", .fieldLink RX5 13 "ConvexConduitModel" "tos" "[I", .methodLink RX5 87 yX5_priceOf, .instanceMethod yX5_priceOf, .selects RX5 yX5_priceOf yX5_priceOf, .initialized RX5, .code yX5_priceOf cX5_priceOf 5 (some .int), .fieldLink RX5 16 "ConvexConduitModel" "widths" "[I", .fieldLink RX5 19 "ConvexConduitModel" "prices" "[I"] ++ wsX50)
def wsX5_steps : List Cond := .code yX5_steps cX5_steps 5 (some .boolean) :: ([.fieldLink RX5 41 "ConvexConduitModel" "far" "[I", .constant RX5 91 (1000000), .fieldLink RX5 44 "ConvexConduitModel" "over" "[I"] ++ wsX50)
def wsX5_measure : List Cond := .code yX5_measure cX5_measure 3 none :: ([.fieldLink RX5 50 "ConvexConduitModel" "nodes" "I", .fieldLink RX5 41 "ConvexConduitModel" "far" "[I", .fieldLink RX5 38 "ConvexConduitModel" "rest" "[I", .constant RX5 91 (1000000), .fieldLink RX5 44 "ConvexConduitModel" "over" "[I", .fieldLink RX5 60 "ConvexConduitModel" "arcs" "I", .fieldLink RX5 35 "ConvexConduitModel" "on" "[I", .fieldLink RX5 32 "ConvexConduitModel" "most" "[I", .fieldLink RX5 7 "ConvexConduitModel" "froms" "[I", .fieldLink RX5 13 "ConvexConduitModel" "tos" "[I", .fieldLink RX5 29 "ConvexConduitModel" "least" "[I", .methodLink RX5 87 yX5_priceOf, .instanceMethod yX5_priceOf, .selects RX5 yX5_priceOf yX5_priceOf, .initialized RX5, .code yX5_priceOf cX5_priceOf 5 (some .int), .fieldLink RX5 16 "ConvexConduitModel" "widths" "[I", .fieldLink RX5 19 "ConvexConduitModel" "prices" "[I", .methodLink RX5 92 yX5_steps, .instanceMethod yX5_steps, .selects RX5 yX5_steps yX5_steps, .code yX5_steps cX5_steps 5 (some .boolean)] ++ wsX50)
def wsX5_send : List Cond := .code yX5_send cX5_send 5 none :: ([.fieldLink RX5 38 "ConvexConduitModel" "rest" "[I", .fieldLink RX5 44 "ConvexConduitModel" "over" "[I", .fieldLink RX5 35 "ConvexConduitModel" "on" "[I", .fieldLink RX5 13 "ConvexConduitModel" "tos" "[I", .fieldLink RX5 7 "ConvexConduitModel" "froms" "[I"] ++ wsX50)
def wsX5_cheapest_r1 : List Cond := [Cond.fieldLink RX5 50 "ConvexConduitModel" "nodes" "I", Cond.fieldLink RX5 38 "ConvexConduitModel" "rest" "[I", Cond.fieldLink RX5 41 "ConvexConduitModel" "far" "[I", Cond.constant RX5 91 (1000000), Cond.methodLink RX5 96 yX5_begin, Cond.instanceMethod yX5_begin, Cond.selects RX5 yX5_begin yX5_begin, Cond.initialized RX5, Cond.code yX5_begin cX5_begin 6 (some .int), Cond.fieldLink RX5 81 "ConvexConduitModel" "source" "I", Cond.fieldLink RX5 25 "ConvexConduitModel" "target" "I", Cond.fieldLink RX5 60 "ConvexConduitModel" "arcs" "I", Cond.fieldLink RX5 35 "ConvexConduitModel" "on" "[I", Cond.fieldLink RX5 29 "ConvexConduitModel" "least" "[I", Cond.fieldLink RX5 7 "ConvexConduitModel" "froms" "[I", Cond.fieldLink RX5 13 "ConvexConduitModel" "tos" "[I", Cond.methodLink RX5 87 yX5_priceOf, Cond.instanceMethod yX5_priceOf, Cond.selects RX5 yX5_priceOf yX5_priceOf, Cond.code yX5_priceOf cX5_priceOf 5 (some .int), Cond.fieldLink RX5 16 "ConvexConduitModel" "widths" "[I", Cond.fieldLink RX5 19 "ConvexConduitModel" "prices" "[I", Cond.methodLink RX5 99 yX5_measure, Cond.instanceMethod yX5_measure]
def wsX5_cheapest_r2 : List Cond := [Cond.selects RX5 yX5_measure yX5_measure, Cond.code yX5_measure cX5_measure 3 none, Cond.fieldLink RX5 44 "ConvexConduitModel" "over" "[I", Cond.fieldLink RX5 32 "ConvexConduitModel" "most" "[I", Cond.methodLink RX5 92 yX5_steps, Cond.instanceMethod yX5_steps, Cond.selects RX5 yX5_steps yX5_steps, Cond.code yX5_steps cX5_steps 5 (some .boolean), Cond.methodLink RX5 102 yX5_send, Cond.instanceMethod yX5_send, Cond.selects RX5 yX5_send yX5_send, Cond.code yX5_send cX5_send 5 none]
def wsX5_cheapest : List Cond := .code yX5_cheapest cX5_cheapest 8 (some .int) :: ((wsX5_cheapest_r1 ++ wsX5_cheapest_r2) ++ wsX50)
def wsX5_most_r1 : List Cond := [Cond.fieldLink RX5 53 "ConvexConduitModel" "thrown" "I", Cond.constant RX5 91 (1000000), Cond.methodLink RX5 106 yX5_open, Cond.instanceMethod yX5_open, Cond.selects RX5 yX5_open yX5_open, Cond.initialized RX5, Cond.code yX5_open cX5_open 2 none, Cond.fieldLink RX5 60 "ConvexConduitModel" "arcs" "I", Cond.fieldLink RX5 29 "ConvexConduitModel" "least" "[I", Cond.fieldLink RX5 32 "ConvexConduitModel" "most" "[I", Cond.methodLink RX5 77 yX5_capacityOf, Cond.instanceMethod yX5_capacityOf, Cond.selects RX5 yX5_capacityOf yX5_capacityOf, Cond.code yX5_capacityOf cX5_capacityOf 4 (some .int), Cond.fieldLink RX5 22 "ConvexConduitModel" "pieces" "[I", Cond.fieldLink RX5 16 "ConvexConduitModel" "widths" "[I", Cond.methodLink RX5 109 yX5_cheapest, Cond.instanceMethod yX5_cheapest, Cond.selects RX5 yX5_cheapest yX5_cheapest, Cond.code yX5_cheapest cX5_cheapest 8 (some .int), Cond.fieldLink RX5 50 "ConvexConduitModel" "nodes" "I", Cond.fieldLink RX5 38 "ConvexConduitModel" "rest" "[I", Cond.fieldLink RX5 41 "ConvexConduitModel" "far" "[I", Cond.methodLink RX5 96 yX5_begin]
def wsX5_most_r2 : List Cond := [Cond.instanceMethod yX5_begin, Cond.selects RX5 yX5_begin yX5_begin, Cond.code yX5_begin cX5_begin 6 (some .int), Cond.fieldLink RX5 81 "ConvexConduitModel" "source" "I", Cond.fieldLink RX5 25 "ConvexConduitModel" "target" "I", Cond.fieldLink RX5 35 "ConvexConduitModel" "on" "[I", Cond.fieldLink RX5 7 "ConvexConduitModel" "froms" "[I", Cond.fieldLink RX5 13 "ConvexConduitModel" "tos" "[I", Cond.methodLink RX5 87 yX5_priceOf, Cond.instanceMethod yX5_priceOf, Cond.selects RX5 yX5_priceOf yX5_priceOf, Cond.code yX5_priceOf cX5_priceOf 5 (some .int), Cond.fieldLink RX5 19 "ConvexConduitModel" "prices" "[I", Cond.methodLink RX5 99 yX5_measure, Cond.instanceMethod yX5_measure, Cond.selects RX5 yX5_measure yX5_measure, Cond.code yX5_measure cX5_measure 3 none, Cond.fieldLink RX5 44 "ConvexConduitModel" "over" "[I", Cond.methodLink RX5 92 yX5_steps, Cond.instanceMethod yX5_steps, Cond.selects RX5 yX5_steps yX5_steps, Cond.code yX5_steps cX5_steps 5 (some .boolean), Cond.methodLink RX5 102 yX5_send, Cond.instanceMethod yX5_send]
def wsX5_most_r3 : List Cond := [Cond.selects RX5 yX5_send yX5_send, Cond.code yX5_send cX5_send 5 none]
def wsX5_most : List Cond := .code yX5_most cX5_most 2 (some .int) :: ((wsX5_most_r1 ++ (wsX5_most_r2 ++ wsX5_most_r3)) ++ wsX50)
def wsX5_costOpen_r1 : List Cond := [Cond.fieldLink RX5 84 "ConvexConduitModel" "amount" "I", Cond.constant RX5 91 (1000000), Cond.methodLink RX5 106 yX5_open, Cond.instanceMethod yX5_open, Cond.selects RX5 yX5_open yX5_open, Cond.initialized RX5, Cond.code yX5_open cX5_open 2 none, Cond.fieldLink RX5 60 "ConvexConduitModel" "arcs" "I", Cond.fieldLink RX5 29 "ConvexConduitModel" "least" "[I", Cond.fieldLink RX5 32 "ConvexConduitModel" "most" "[I", Cond.methodLink RX5 77 yX5_capacityOf, Cond.instanceMethod yX5_capacityOf, Cond.selects RX5 yX5_capacityOf yX5_capacityOf, Cond.code yX5_capacityOf cX5_capacityOf 4 (some .int), Cond.fieldLink RX5 22 "ConvexConduitModel" "pieces" "[I", Cond.fieldLink RX5 16 "ConvexConduitModel" "widths" "[I", Cond.methodLink RX5 109 yX5_cheapest, Cond.instanceMethod yX5_cheapest, Cond.selects RX5 yX5_cheapest yX5_cheapest, Cond.code yX5_cheapest cX5_cheapest 8 (some .int), Cond.fieldLink RX5 50 "ConvexConduitModel" "nodes" "I", Cond.fieldLink RX5 38 "ConvexConduitModel" "rest" "[I", Cond.fieldLink RX5 41 "ConvexConduitModel" "far" "[I", Cond.methodLink RX5 96 yX5_begin]
def wsX5_costOpen_r2 : List Cond := [Cond.instanceMethod yX5_begin, Cond.selects RX5 yX5_begin yX5_begin, Cond.code yX5_begin cX5_begin 6 (some .int), Cond.fieldLink RX5 81 "ConvexConduitModel" "source" "I", Cond.fieldLink RX5 25 "ConvexConduitModel" "target" "I", Cond.fieldLink RX5 35 "ConvexConduitModel" "on" "[I", Cond.fieldLink RX5 7 "ConvexConduitModel" "froms" "[I", Cond.fieldLink RX5 13 "ConvexConduitModel" "tos" "[I", Cond.methodLink RX5 87 yX5_priceOf, Cond.instanceMethod yX5_priceOf, Cond.selects RX5 yX5_priceOf yX5_priceOf, Cond.code yX5_priceOf cX5_priceOf 5 (some .int), Cond.fieldLink RX5 19 "ConvexConduitModel" "prices" "[I", Cond.methodLink RX5 99 yX5_measure, Cond.instanceMethod yX5_measure, Cond.selects RX5 yX5_measure yX5_measure, Cond.code yX5_measure cX5_measure 3 none, Cond.fieldLink RX5 44 "ConvexConduitModel" "over" "[I", Cond.methodLink RX5 92 yX5_steps, Cond.instanceMethod yX5_steps, Cond.selects RX5 yX5_steps yX5_steps, Cond.code yX5_steps cX5_steps 5 (some .boolean), Cond.methodLink RX5 102 yX5_send, Cond.instanceMethod yX5_send]
def wsX5_costOpen_r3 : List Cond := [Cond.selects RX5 yX5_send yX5_send, Cond.code yX5_send cX5_send 5 none]
def wsX5_costOpen : List Cond := .code yX5_costOpen cX5_costOpen 2 (some .int) :: ((wsX5_costOpen_r1 ++ (wsX5_costOpen_r2 ++ wsX5_costOpen_r3)) ++ wsX50)
def wsX5_cost_r1 : List Cond := [Cond.fieldLink RX5 53 "ConvexConduitModel" "thrown" "I", Cond.methodLink RX5 112 yX5_costOpen, Cond.instanceMethod yX5_costOpen, Cond.selects RX5 yX5_costOpen yX5_costOpen, Cond.initialized RX5, Cond.code yX5_costOpen cX5_costOpen 2 (some .int), Cond.fieldLink RX5 84 "ConvexConduitModel" "amount" "I", Cond.constant RX5 91 (1000000), Cond.methodLink RX5 106 yX5_open, Cond.instanceMethod yX5_open, Cond.selects RX5 yX5_open yX5_open, Cond.code yX5_open cX5_open 2 none, Cond.fieldLink RX5 60 "ConvexConduitModel" "arcs" "I", Cond.fieldLink RX5 29 "ConvexConduitModel" "least" "[I", Cond.fieldLink RX5 32 "ConvexConduitModel" "most" "[I", Cond.methodLink RX5 77 yX5_capacityOf, Cond.instanceMethod yX5_capacityOf, Cond.selects RX5 yX5_capacityOf yX5_capacityOf, Cond.code yX5_capacityOf cX5_capacityOf 4 (some .int), Cond.fieldLink RX5 22 "ConvexConduitModel" "pieces" "[I", Cond.fieldLink RX5 16 "ConvexConduitModel" "widths" "[I", Cond.methodLink RX5 109 yX5_cheapest, Cond.instanceMethod yX5_cheapest, Cond.selects RX5 yX5_cheapest yX5_cheapest]
def wsX5_cost_r2 : List Cond := [Cond.code yX5_cheapest cX5_cheapest 8 (some .int), Cond.fieldLink RX5 50 "ConvexConduitModel" "nodes" "I", Cond.fieldLink RX5 38 "ConvexConduitModel" "rest" "[I", Cond.fieldLink RX5 41 "ConvexConduitModel" "far" "[I", Cond.methodLink RX5 96 yX5_begin, Cond.instanceMethod yX5_begin, Cond.selects RX5 yX5_begin yX5_begin, Cond.code yX5_begin cX5_begin 6 (some .int), Cond.fieldLink RX5 81 "ConvexConduitModel" "source" "I", Cond.fieldLink RX5 25 "ConvexConduitModel" "target" "I", Cond.fieldLink RX5 35 "ConvexConduitModel" "on" "[I", Cond.fieldLink RX5 7 "ConvexConduitModel" "froms" "[I", Cond.fieldLink RX5 13 "ConvexConduitModel" "tos" "[I", Cond.methodLink RX5 87 yX5_priceOf, Cond.instanceMethod yX5_priceOf, Cond.selects RX5 yX5_priceOf yX5_priceOf, Cond.code yX5_priceOf cX5_priceOf 5 (some .int), Cond.fieldLink RX5 19 "ConvexConduitModel" "prices" "[I", Cond.methodLink RX5 99 yX5_measure, Cond.instanceMethod yX5_measure, Cond.selects RX5 yX5_measure yX5_measure, Cond.code yX5_measure cX5_measure 3 none, Cond.fieldLink RX5 44 "ConvexConduitModel" "over" "[I", Cond.methodLink RX5 92 yX5_steps]
def wsX5_cost_r3 : List Cond := [Cond.instanceMethod yX5_steps, Cond.selects RX5 yX5_steps yX5_steps, Cond.code yX5_steps cX5_steps 5 (some .boolean), Cond.methodLink RX5 102 yX5_send, Cond.instanceMethod yX5_send, Cond.selects RX5 yX5_send yX5_send, Cond.code yX5_send cX5_send 5 none]
def wsX5_cost : List Cond := .code yX5_cost cX5_cost 1 (some .int) :: ((wsX5_cost_r1 ++ (wsX5_cost_r2 ++ wsX5_cost_r3)) ++ wsX50)
def wsX5_costByCircles_r1 : List Cond := [Cond.fieldLink RX5 53 "ConvexConduitModel" "thrown" "I", Cond.methodLink RX5 112 yX5_costOpen, Cond.instanceMethod yX5_costOpen, Cond.selects RX5 yX5_costOpen yX5_costOpen, Cond.initialized RX5, Cond.code yX5_costOpen cX5_costOpen 2 (some .int), Cond.fieldLink RX5 84 "ConvexConduitModel" "amount" "I", Cond.constant RX5 91 (1000000), Cond.methodLink RX5 106 yX5_open, Cond.instanceMethod yX5_open, Cond.selects RX5 yX5_open yX5_open, Cond.code yX5_open cX5_open 2 none, Cond.fieldLink RX5 60 "ConvexConduitModel" "arcs" "I", Cond.fieldLink RX5 29 "ConvexConduitModel" "least" "[I", Cond.fieldLink RX5 32 "ConvexConduitModel" "most" "[I", Cond.methodLink RX5 77 yX5_capacityOf, Cond.instanceMethod yX5_capacityOf, Cond.selects RX5 yX5_capacityOf yX5_capacityOf, Cond.code yX5_capacityOf cX5_capacityOf 4 (some .int), Cond.fieldLink RX5 22 "ConvexConduitModel" "pieces" "[I", Cond.fieldLink RX5 16 "ConvexConduitModel" "widths" "[I", Cond.methodLink RX5 109 yX5_cheapest, Cond.instanceMethod yX5_cheapest, Cond.selects RX5 yX5_cheapest yX5_cheapest]
def wsX5_costByCircles_r2 : List Cond := [Cond.code yX5_cheapest cX5_cheapest 8 (some .int), Cond.fieldLink RX5 50 "ConvexConduitModel" "nodes" "I", Cond.fieldLink RX5 38 "ConvexConduitModel" "rest" "[I", Cond.fieldLink RX5 41 "ConvexConduitModel" "far" "[I", Cond.methodLink RX5 96 yX5_begin, Cond.instanceMethod yX5_begin, Cond.selects RX5 yX5_begin yX5_begin, Cond.code yX5_begin cX5_begin 6 (some .int), Cond.fieldLink RX5 81 "ConvexConduitModel" "source" "I", Cond.fieldLink RX5 25 "ConvexConduitModel" "target" "I", Cond.fieldLink RX5 35 "ConvexConduitModel" "on" "[I", Cond.fieldLink RX5 7 "ConvexConduitModel" "froms" "[I", Cond.fieldLink RX5 13 "ConvexConduitModel" "tos" "[I", Cond.methodLink RX5 87 yX5_priceOf, Cond.instanceMethod yX5_priceOf, Cond.selects RX5 yX5_priceOf yX5_priceOf, Cond.code yX5_priceOf cX5_priceOf 5 (some .int), Cond.fieldLink RX5 19 "ConvexConduitModel" "prices" "[I", Cond.methodLink RX5 99 yX5_measure, Cond.instanceMethod yX5_measure, Cond.selects RX5 yX5_measure yX5_measure, Cond.code yX5_measure cX5_measure 3 none, Cond.fieldLink RX5 44 "ConvexConduitModel" "over" "[I", Cond.methodLink RX5 92 yX5_steps]
def wsX5_costByCircles_r3 : List Cond := [Cond.instanceMethod yX5_steps, Cond.selects RX5 yX5_steps yX5_steps, Cond.code yX5_steps cX5_steps 5 (some .boolean), Cond.methodLink RX5 102 yX5_send, Cond.instanceMethod yX5_send, Cond.selects RX5 yX5_send yX5_send, Cond.code yX5_send cX5_send 5 none]
def wsX5_costByCircles : List Cond := .code yX5_costByCircles cX5_costByCircles 1 (some .int) :: ((wsX5_costByCircles_r1 ++ (wsX5_costByCircles_r2 ++ wsX5_costByCircles_r3)) ++ wsX50)
def wsX5_more_r1 : List Cond := [Cond.fieldLink RX5 81 "ConvexConduitModel" "source" "I", Cond.fieldLink RX5 84 "ConvexConduitModel" "amount" "I", Cond.constant RX5 91 (1000000), Cond.methodLink RX5 63 yX5_isNode, Cond.instanceMethod yX5_isNode, Cond.selects RX5 yX5_isNode yX5_isNode, Cond.initialized RX5, Cond.code yX5_isNode cX5_isNode 2 (some .boolean), Cond.fieldLink RX5 50 "ConvexConduitModel" "nodes" "I", Cond.methodLink RX5 56 yX5_in, Cond.static yX5_in, Cond.code yX5_in cX5_in 3 (some .boolean), Cond.methodLink RX5 67 yX5_goesWell, Cond.instanceMethod yX5_goesWell, Cond.selects RX5 yX5_goesWell yX5_goesWell, Cond.code yX5_goesWell cX5_goesWell 2 (some .boolean), Cond.fieldLink RX5 53 "ConvexConduitModel" "thrown" "I", Cond.methodLink RX5 112 yX5_costOpen, Cond.instanceMethod yX5_costOpen, Cond.selects RX5 yX5_costOpen yX5_costOpen, Cond.code yX5_costOpen cX5_costOpen 2 (some .int), Cond.methodLink RX5 106 yX5_open, Cond.instanceMethod yX5_open, Cond.selects RX5 yX5_open yX5_open]
def wsX5_more_r2 : List Cond := [Cond.code yX5_open cX5_open 2 none, Cond.fieldLink RX5 60 "ConvexConduitModel" "arcs" "I", Cond.fieldLink RX5 29 "ConvexConduitModel" "least" "[I", Cond.fieldLink RX5 32 "ConvexConduitModel" "most" "[I", Cond.methodLink RX5 77 yX5_capacityOf, Cond.instanceMethod yX5_capacityOf, Cond.selects RX5 yX5_capacityOf yX5_capacityOf, Cond.code yX5_capacityOf cX5_capacityOf 4 (some .int), Cond.fieldLink RX5 22 "ConvexConduitModel" "pieces" "[I", Cond.fieldLink RX5 16 "ConvexConduitModel" "widths" "[I", Cond.methodLink RX5 109 yX5_cheapest, Cond.instanceMethod yX5_cheapest, Cond.selects RX5 yX5_cheapest yX5_cheapest, Cond.code yX5_cheapest cX5_cheapest 8 (some .int), Cond.fieldLink RX5 38 "ConvexConduitModel" "rest" "[I", Cond.fieldLink RX5 41 "ConvexConduitModel" "far" "[I", Cond.methodLink RX5 96 yX5_begin, Cond.instanceMethod yX5_begin, Cond.selects RX5 yX5_begin yX5_begin, Cond.code yX5_begin cX5_begin 6 (some .int), Cond.fieldLink RX5 25 "ConvexConduitModel" "target" "I", Cond.fieldLink RX5 35 "ConvexConduitModel" "on" "[I", Cond.fieldLink RX5 7 "ConvexConduitModel" "froms" "[I", Cond.fieldLink RX5 13 "ConvexConduitModel" "tos" "[I"]
def wsX5_more_r3 : List Cond := [Cond.methodLink RX5 87 yX5_priceOf, Cond.instanceMethod yX5_priceOf, Cond.selects RX5 yX5_priceOf yX5_priceOf, Cond.code yX5_priceOf cX5_priceOf 5 (some .int), Cond.fieldLink RX5 19 "ConvexConduitModel" "prices" "[I", Cond.methodLink RX5 99 yX5_measure, Cond.instanceMethod yX5_measure, Cond.selects RX5 yX5_measure yX5_measure, Cond.code yX5_measure cX5_measure 3 none, Cond.fieldLink RX5 44 "ConvexConduitModel" "over" "[I", Cond.methodLink RX5 92 yX5_steps, Cond.instanceMethod yX5_steps, Cond.selects RX5 yX5_steps yX5_steps, Cond.code yX5_steps cX5_steps 5 (some .boolean), Cond.methodLink RX5 102 yX5_send, Cond.instanceMethod yX5_send, Cond.selects RX5 yX5_send yX5_send, Cond.code yX5_send cX5_send 5 none]
def wsX5_more : List Cond := .code yX5_more cX5_more 4 (some .int) :: ((wsX5_more_r1 ++ (wsX5_more_r2 ++ wsX5_more_r3)) ++ wsX50)
def wsX5_fit_r1 : List Cond := [Cond.fieldLink RX5 29 "ConvexConduitModel" "least" "[I", Cond.fieldLink RX5 32 "ConvexConduitModel" "most" "[I", Cond.fieldLink RX5 84 "ConvexConduitModel" "amount" "I", Cond.methodLink RX5 109 yX5_cheapest, Cond.instanceMethod yX5_cheapest, Cond.selects RX5 yX5_cheapest yX5_cheapest, Cond.initialized RX5, Cond.code yX5_cheapest cX5_cheapest 8 (some .int), Cond.fieldLink RX5 50 "ConvexConduitModel" "nodes" "I", Cond.fieldLink RX5 38 "ConvexConduitModel" "rest" "[I", Cond.fieldLink RX5 41 "ConvexConduitModel" "far" "[I", Cond.constant RX5 91 (1000000), Cond.methodLink RX5 96 yX5_begin, Cond.instanceMethod yX5_begin, Cond.selects RX5 yX5_begin yX5_begin, Cond.code yX5_begin cX5_begin 6 (some .int), Cond.fieldLink RX5 81 "ConvexConduitModel" "source" "I", Cond.fieldLink RX5 25 "ConvexConduitModel" "target" "I", Cond.fieldLink RX5 60 "ConvexConduitModel" "arcs" "I", Cond.fieldLink RX5 35 "ConvexConduitModel" "on" "[I", Cond.fieldLink RX5 7 "ConvexConduitModel" "froms" "[I", Cond.fieldLink RX5 13 "ConvexConduitModel" "tos" "[I", Cond.methodLink RX5 87 yX5_priceOf, Cond.instanceMethod yX5_priceOf]
def wsX5_fit_r2 : List Cond := [Cond.selects RX5 yX5_priceOf yX5_priceOf, Cond.code yX5_priceOf cX5_priceOf 5 (some .int), Cond.fieldLink RX5 16 "ConvexConduitModel" "widths" "[I", Cond.fieldLink RX5 19 "ConvexConduitModel" "prices" "[I", Cond.methodLink RX5 99 yX5_measure, Cond.instanceMethod yX5_measure, Cond.selects RX5 yX5_measure yX5_measure, Cond.code yX5_measure cX5_measure 3 none, Cond.fieldLink RX5 44 "ConvexConduitModel" "over" "[I", Cond.methodLink RX5 92 yX5_steps, Cond.instanceMethod yX5_steps, Cond.selects RX5 yX5_steps yX5_steps, Cond.code yX5_steps cX5_steps 5 (some .boolean), Cond.methodLink RX5 102 yX5_send, Cond.instanceMethod yX5_send, Cond.selects RX5 yX5_send yX5_send, Cond.code yX5_send cX5_send 5 none]
def wsX5_fit : List Cond := .code yX5_fit cX5_fit 9 (some .int) :: ((wsX5_fit_r1 ++ wsX5_fit_r2) ++ wsX50)
def wsX5_flow_r1 : List Cond := [Cond.fieldLink RX5 29 "ConvexConduitModel" "least" "[I", Cond.fieldLink RX5 32 "ConvexConduitModel" "most" "[I", Cond.methodLink RX5 74 yX5_isArc, Cond.instanceMethod yX5_isArc, Cond.selects RX5 yX5_isArc yX5_isArc, Cond.initialized RX5, Cond.code yX5_isArc cX5_isArc 2 (some .boolean), Cond.fieldLink RX5 60 "ConvexConduitModel" "arcs" "I", Cond.methodLink RX5 56 yX5_in, Cond.static yX5_in, Cond.code yX5_in cX5_in 3 (some .boolean), Cond.methodLink RX5 67 yX5_goesWell, Cond.instanceMethod yX5_goesWell, Cond.selects RX5 yX5_goesWell yX5_goesWell, Cond.code yX5_goesWell cX5_goesWell 2 (some .boolean), Cond.fieldLink RX5 53 "ConvexConduitModel" "thrown" "I", Cond.methodLink RX5 112 yX5_costOpen, Cond.instanceMethod yX5_costOpen, Cond.selects RX5 yX5_costOpen yX5_costOpen, Cond.code yX5_costOpen cX5_costOpen 2 (some .int), Cond.fieldLink RX5 84 "ConvexConduitModel" "amount" "I", Cond.constant RX5 91 (1000000), Cond.methodLink RX5 106 yX5_open, Cond.instanceMethod yX5_open]
def wsX5_flow_r2 : List Cond := [Cond.selects RX5 yX5_open yX5_open, Cond.code yX5_open cX5_open 2 none, Cond.methodLink RX5 77 yX5_capacityOf, Cond.instanceMethod yX5_capacityOf, Cond.selects RX5 yX5_capacityOf yX5_capacityOf, Cond.code yX5_capacityOf cX5_capacityOf 4 (some .int), Cond.fieldLink RX5 22 "ConvexConduitModel" "pieces" "[I", Cond.fieldLink RX5 16 "ConvexConduitModel" "widths" "[I", Cond.methodLink RX5 109 yX5_cheapest, Cond.instanceMethod yX5_cheapest, Cond.selects RX5 yX5_cheapest yX5_cheapest, Cond.code yX5_cheapest cX5_cheapest 8 (some .int), Cond.fieldLink RX5 50 "ConvexConduitModel" "nodes" "I", Cond.fieldLink RX5 38 "ConvexConduitModel" "rest" "[I", Cond.fieldLink RX5 41 "ConvexConduitModel" "far" "[I", Cond.methodLink RX5 96 yX5_begin, Cond.instanceMethod yX5_begin, Cond.selects RX5 yX5_begin yX5_begin, Cond.code yX5_begin cX5_begin 6 (some .int), Cond.fieldLink RX5 81 "ConvexConduitModel" "source" "I", Cond.fieldLink RX5 25 "ConvexConduitModel" "target" "I", Cond.fieldLink RX5 35 "ConvexConduitModel" "on" "[I", Cond.fieldLink RX5 7 "ConvexConduitModel" "froms" "[I", Cond.fieldLink RX5 13 "ConvexConduitModel" "tos" "[I"]
def wsX5_flow_r3 : List Cond := [Cond.methodLink RX5 87 yX5_priceOf, Cond.instanceMethod yX5_priceOf, Cond.selects RX5 yX5_priceOf yX5_priceOf, Cond.code yX5_priceOf cX5_priceOf 5 (some .int), Cond.fieldLink RX5 19 "ConvexConduitModel" "prices" "[I", Cond.methodLink RX5 99 yX5_measure, Cond.instanceMethod yX5_measure, Cond.selects RX5 yX5_measure yX5_measure, Cond.code yX5_measure cX5_measure 3 none, Cond.fieldLink RX5 44 "ConvexConduitModel" "over" "[I", Cond.methodLink RX5 92 yX5_steps, Cond.instanceMethod yX5_steps, Cond.selects RX5 yX5_steps yX5_steps, Cond.code yX5_steps cX5_steps 5 (some .boolean), Cond.methodLink RX5 102 yX5_send, Cond.instanceMethod yX5_send, Cond.selects RX5 yX5_send yX5_send, Cond.code yX5_send cX5_send 5 none, Cond.methodLink RX5 116 yX5_fit, Cond.instanceMethod yX5_fit, Cond.selects RX5 yX5_fit yX5_fit, Cond.code yX5_fit cX5_fit 9 (some .int)]
def wsX5_flow : List Cond := .code yX5_flow cX5_flow 5 (some .int) :: ((wsX5_flow_r1 ++ (wsX5_flow_r2 ++ wsX5_flow_r3)) ++ wsX50)
def wsX5_leastOn_r1 : List Cond := [Cond.methodLink RX5 74 yX5_isArc, Cond.instanceMethod yX5_isArc, Cond.selects RX5 yX5_isArc yX5_isArc, Cond.initialized RX5, Cond.code yX5_isArc cX5_isArc 2 (some .boolean), Cond.fieldLink RX5 60 "ConvexConduitModel" "arcs" "I", Cond.methodLink RX5 56 yX5_in, Cond.static yX5_in, Cond.code yX5_in cX5_in 3 (some .boolean), Cond.methodLink RX5 67 yX5_goesWell, Cond.instanceMethod yX5_goesWell, Cond.selects RX5 yX5_goesWell yX5_goesWell, Cond.code yX5_goesWell cX5_goesWell 2 (some .boolean), Cond.fieldLink RX5 53 "ConvexConduitModel" "thrown" "I", Cond.methodLink RX5 112 yX5_costOpen, Cond.instanceMethod yX5_costOpen, Cond.selects RX5 yX5_costOpen yX5_costOpen, Cond.code yX5_costOpen cX5_costOpen 2 (some .int), Cond.fieldLink RX5 84 "ConvexConduitModel" "amount" "I", Cond.constant RX5 91 (1000000), Cond.methodLink RX5 106 yX5_open, Cond.instanceMethod yX5_open, Cond.selects RX5 yX5_open yX5_open, Cond.code yX5_open cX5_open 2 none]
def wsX5_leastOn_r2 : List Cond := [Cond.fieldLink RX5 29 "ConvexConduitModel" "least" "[I", Cond.fieldLink RX5 32 "ConvexConduitModel" "most" "[I", Cond.methodLink RX5 77 yX5_capacityOf, Cond.instanceMethod yX5_capacityOf, Cond.selects RX5 yX5_capacityOf yX5_capacityOf, Cond.code yX5_capacityOf cX5_capacityOf 4 (some .int), Cond.fieldLink RX5 22 "ConvexConduitModel" "pieces" "[I", Cond.fieldLink RX5 16 "ConvexConduitModel" "widths" "[I", Cond.methodLink RX5 109 yX5_cheapest, Cond.instanceMethod yX5_cheapest, Cond.selects RX5 yX5_cheapest yX5_cheapest, Cond.code yX5_cheapest cX5_cheapest 8 (some .int), Cond.fieldLink RX5 50 "ConvexConduitModel" "nodes" "I", Cond.fieldLink RX5 38 "ConvexConduitModel" "rest" "[I", Cond.fieldLink RX5 41 "ConvexConduitModel" "far" "[I", Cond.methodLink RX5 96 yX5_begin, Cond.instanceMethod yX5_begin, Cond.selects RX5 yX5_begin yX5_begin, Cond.code yX5_begin cX5_begin 6 (some .int), Cond.fieldLink RX5 81 "ConvexConduitModel" "source" "I", Cond.fieldLink RX5 25 "ConvexConduitModel" "target" "I", Cond.fieldLink RX5 35 "ConvexConduitModel" "on" "[I", Cond.fieldLink RX5 7 "ConvexConduitModel" "froms" "[I", Cond.fieldLink RX5 13 "ConvexConduitModel" "tos" "[I"]
def wsX5_leastOn_r3 : List Cond := [Cond.methodLink RX5 87 yX5_priceOf, Cond.instanceMethod yX5_priceOf, Cond.selects RX5 yX5_priceOf yX5_priceOf, Cond.code yX5_priceOf cX5_priceOf 5 (some .int), Cond.fieldLink RX5 19 "ConvexConduitModel" "prices" "[I", Cond.methodLink RX5 99 yX5_measure, Cond.instanceMethod yX5_measure, Cond.selects RX5 yX5_measure yX5_measure, Cond.code yX5_measure cX5_measure 3 none, Cond.fieldLink RX5 44 "ConvexConduitModel" "over" "[I", Cond.methodLink RX5 92 yX5_steps, Cond.instanceMethod yX5_steps, Cond.selects RX5 yX5_steps yX5_steps, Cond.code yX5_steps cX5_steps 5 (some .boolean), Cond.methodLink RX5 102 yX5_send, Cond.instanceMethod yX5_send, Cond.selects RX5 yX5_send yX5_send, Cond.code yX5_send cX5_send 5 none, Cond.methodLink RX5 116 yX5_fit, Cond.instanceMethod yX5_fit, Cond.selects RX5 yX5_fit yX5_fit, Cond.code yX5_fit cX5_fit 9 (some .int)]
def wsX5_leastOn : List Cond := .code yX5_leastOn cX5_leastOn 3 (some .int) :: ((wsX5_leastOn_r1 ++ (wsX5_leastOn_r2 ++ wsX5_leastOn_r3)) ++ wsX50)
def wsX5_mostOn_r1 : List Cond := [Cond.methodLink RX5 74 yX5_isArc, Cond.instanceMethod yX5_isArc, Cond.selects RX5 yX5_isArc yX5_isArc, Cond.initialized RX5, Cond.code yX5_isArc cX5_isArc 2 (some .boolean), Cond.fieldLink RX5 60 "ConvexConduitModel" "arcs" "I", Cond.methodLink RX5 56 yX5_in, Cond.static yX5_in, Cond.code yX5_in cX5_in 3 (some .boolean), Cond.methodLink RX5 67 yX5_goesWell, Cond.instanceMethod yX5_goesWell, Cond.selects RX5 yX5_goesWell yX5_goesWell, Cond.code yX5_goesWell cX5_goesWell 2 (some .boolean), Cond.fieldLink RX5 53 "ConvexConduitModel" "thrown" "I", Cond.methodLink RX5 112 yX5_costOpen, Cond.instanceMethod yX5_costOpen, Cond.selects RX5 yX5_costOpen yX5_costOpen, Cond.code yX5_costOpen cX5_costOpen 2 (some .int), Cond.fieldLink RX5 84 "ConvexConduitModel" "amount" "I", Cond.constant RX5 91 (1000000), Cond.methodLink RX5 106 yX5_open, Cond.instanceMethod yX5_open, Cond.selects RX5 yX5_open yX5_open, Cond.code yX5_open cX5_open 2 none]
def wsX5_mostOn_r2 : List Cond := [Cond.fieldLink RX5 29 "ConvexConduitModel" "least" "[I", Cond.fieldLink RX5 32 "ConvexConduitModel" "most" "[I", Cond.methodLink RX5 77 yX5_capacityOf, Cond.instanceMethod yX5_capacityOf, Cond.selects RX5 yX5_capacityOf yX5_capacityOf, Cond.code yX5_capacityOf cX5_capacityOf 4 (some .int), Cond.fieldLink RX5 22 "ConvexConduitModel" "pieces" "[I", Cond.fieldLink RX5 16 "ConvexConduitModel" "widths" "[I", Cond.methodLink RX5 109 yX5_cheapest, Cond.instanceMethod yX5_cheapest, Cond.selects RX5 yX5_cheapest yX5_cheapest, Cond.code yX5_cheapest cX5_cheapest 8 (some .int), Cond.fieldLink RX5 50 "ConvexConduitModel" "nodes" "I", Cond.fieldLink RX5 38 "ConvexConduitModel" "rest" "[I", Cond.fieldLink RX5 41 "ConvexConduitModel" "far" "[I", Cond.methodLink RX5 96 yX5_begin, Cond.instanceMethod yX5_begin, Cond.selects RX5 yX5_begin yX5_begin, Cond.code yX5_begin cX5_begin 6 (some .int), Cond.fieldLink RX5 81 "ConvexConduitModel" "source" "I", Cond.fieldLink RX5 25 "ConvexConduitModel" "target" "I", Cond.fieldLink RX5 35 "ConvexConduitModel" "on" "[I", Cond.fieldLink RX5 7 "ConvexConduitModel" "froms" "[I", Cond.fieldLink RX5 13 "ConvexConduitModel" "tos" "[I"]
def wsX5_mostOn_r3 : List Cond := [Cond.methodLink RX5 87 yX5_priceOf, Cond.instanceMethod yX5_priceOf, Cond.selects RX5 yX5_priceOf yX5_priceOf, Cond.code yX5_priceOf cX5_priceOf 5 (some .int), Cond.fieldLink RX5 19 "ConvexConduitModel" "prices" "[I", Cond.methodLink RX5 99 yX5_measure, Cond.instanceMethod yX5_measure, Cond.selects RX5 yX5_measure yX5_measure, Cond.code yX5_measure cX5_measure 3 none, Cond.fieldLink RX5 44 "ConvexConduitModel" "over" "[I", Cond.methodLink RX5 92 yX5_steps, Cond.instanceMethod yX5_steps, Cond.selects RX5 yX5_steps yX5_steps, Cond.code yX5_steps cX5_steps 5 (some .boolean), Cond.methodLink RX5 102 yX5_send, Cond.instanceMethod yX5_send, Cond.selects RX5 yX5_send yX5_send, Cond.code yX5_send cX5_send 5 none, Cond.methodLink RX5 116 yX5_fit, Cond.instanceMethod yX5_fit, Cond.selects RX5 yX5_fit yX5_fit, Cond.code yX5_fit cX5_fit 9 (some .int)]
def wsX5_mostOn : List Cond := .code yX5_mostOn cX5_mostOn 3 (some .int) :: ((wsX5_mostOn_r1 ++ (wsX5_mostOn_r2 ++ wsX5_mostOn_r3)) ++ wsX50)
def wsX5_lookBack : List Cond := .code yX5_lookBack cX5_lookBack 4 none :: ([.fieldLink RX5 50 "ConvexConduitModel" "nodes" "I", .fieldLink RX5 41 "ConvexConduitModel" "far" "[I", .fieldLink RX5 25 "ConvexConduitModel" "target" "I", .constant RX5 91 (1000000), .fieldLink RX5 60 "ConvexConduitModel" "arcs" "I", .fieldLink RX5 47 "ConvexConduitModel" "taken" "[I", .fieldLink RX5 13 "ConvexConduitModel" "tos" "[I", .fieldLink RX5 7 "ConvexConduitModel" "froms" "[I", .methodLink RX5 77 yX5_capacityOf, .instanceMethod yX5_capacityOf, .selects RX5 yX5_capacityOf yX5_capacityOf, .initialized RX5, .code yX5_capacityOf cX5_capacityOf 4 (some .int), .fieldLink RX5 22 "ConvexConduitModel" "pieces" "[I", .fieldLink RX5 16 "ConvexConduitModel" "widths" "[I", .methodLink RX5 87 yX5_priceOf, .instanceMethod yX5_priceOf, .selects RX5 yX5_priceOf yX5_priceOf, .code yX5_priceOf cX5_priceOf 5 (some .int), .fieldLink RX5 19 "ConvexConduitModel" "prices" "[I"] ++ wsX50)
def wsX5_isNext : List Cond := .code yX5_isNext cX5_isNext 4 (some .boolean) :: ([.fieldLink RX5 7 "ConvexConduitModel" "froms" "[I", .fieldLink RX5 47 "ConvexConduitModel" "taken" "[I", .fieldLink RX5 41 "ConvexConduitModel" "far" "[I", .fieldLink RX5 13 "ConvexConduitModel" "tos" "[I", .methodLink RX5 77 yX5_capacityOf, .instanceMethod yX5_capacityOf, .selects RX5 yX5_capacityOf yX5_capacityOf, .initialized RX5, .code yX5_capacityOf cX5_capacityOf 4 (some .int), .fieldLink RX5 22 "ConvexConduitModel" "pieces" "[I", .fieldLink RX5 16 "ConvexConduitModel" "widths" "[I", .methodLink RX5 87 yX5_priceOf, .instanceMethod yX5_priceOf, .selects RX5 yX5_priceOf yX5_priceOf, .code yX5_priceOf cX5_priceOf 5 (some .int), .fieldLink RX5 19 "ConvexConduitModel" "prices" "[I"] ++ wsX50)
def wsX5_takeWay : List Cond := .code yX5_takeWay cX5_takeWay 3 none :: ([.fieldLink RX5 81 "ConvexConduitModel" "source" "I", .fieldLink RX5 25 "ConvexConduitModel" "target" "I", .fieldLink RX5 13 "ConvexConduitModel" "tos" "[I", .fieldLink RX5 47 "ConvexConduitModel" "taken" "[I", .methodLink RX5 135 yX5_isNext, .instanceMethod yX5_isNext, .selects RX5 yX5_isNext yX5_isNext, .initialized RX5, .code yX5_isNext cX5_isNext 4 (some .boolean), .fieldLink RX5 7 "ConvexConduitModel" "froms" "[I", .fieldLink RX5 41 "ConvexConduitModel" "far" "[I", .methodLink RX5 77 yX5_capacityOf, .instanceMethod yX5_capacityOf, .selects RX5 yX5_capacityOf yX5_capacityOf, .code yX5_capacityOf cX5_capacityOf 4 (some .int), .fieldLink RX5 22 "ConvexConduitModel" "pieces" "[I", .fieldLink RX5 16 "ConvexConduitModel" "widths" "[I", .methodLink RX5 87 yX5_priceOf, .instanceMethod yX5_priceOf, .selects RX5 yX5_priceOf yX5_priceOf, .code yX5_priceOf cX5_priceOf 5 (some .int), .fieldLink RX5 19 "ConvexConduitModel" "prices" "[I"] ++ wsX50)
def wsX5_drive_r1 : List Cond := [Cond.fieldLink RX5 60 "ConvexConduitModel" "arcs" "I", Cond.fieldLink RX5 47 "ConvexConduitModel" "taken" "[I", Cond.fieldLink RX5 120 "ConvexConduitModel" "ways" "I", Cond.fieldLink RX5 123 "ConvexConduitModel" "paid" "I", Cond.fieldLink RX5 126 "ConvexConduitModel" "latest" "I", Cond.fieldLink RX5 84 "ConvexConduitModel" "amount" "I", Cond.fieldLink RX5 41 "ConvexConduitModel" "far" "[I", Cond.fieldLink RX5 81 "ConvexConduitModel" "source" "I", Cond.constant RX5 91 (1000000), Cond.methodLink RX5 129 yX5_lookBack, Cond.instanceMethod yX5_lookBack, Cond.selects RX5 yX5_lookBack yX5_lookBack, Cond.initialized RX5, Cond.code yX5_lookBack cX5_lookBack 4 none, Cond.fieldLink RX5 50 "ConvexConduitModel" "nodes" "I", Cond.fieldLink RX5 25 "ConvexConduitModel" "target" "I", Cond.fieldLink RX5 13 "ConvexConduitModel" "tos" "[I", Cond.fieldLink RX5 7 "ConvexConduitModel" "froms" "[I", Cond.methodLink RX5 77 yX5_capacityOf, Cond.instanceMethod yX5_capacityOf, Cond.selects RX5 yX5_capacityOf yX5_capacityOf, Cond.code yX5_capacityOf cX5_capacityOf 4 (some .int), Cond.fieldLink RX5 22 "ConvexConduitModel" "pieces" "[I", Cond.fieldLink RX5 16 "ConvexConduitModel" "widths" "[I"]
def wsX5_drive_r2 : List Cond := [Cond.methodLink RX5 87 yX5_priceOf, Cond.instanceMethod yX5_priceOf, Cond.selects RX5 yX5_priceOf yX5_priceOf, Cond.code yX5_priceOf cX5_priceOf 5 (some .int), Cond.fieldLink RX5 19 "ConvexConduitModel" "prices" "[I", Cond.methodLink RX5 132 yX5_takeWay, Cond.instanceMethod yX5_takeWay, Cond.selects RX5 yX5_takeWay yX5_takeWay, Cond.code yX5_takeWay cX5_takeWay 3 none, Cond.methodLink RX5 135 yX5_isNext, Cond.instanceMethod yX5_isNext, Cond.selects RX5 yX5_isNext yX5_isNext, Cond.code yX5_isNext cX5_isNext 4 (some .boolean)]
def wsX5_drive : List Cond := .code yX5_drive cX5_drive 2 none :: ((wsX5_drive_r1 ++ wsX5_drive_r2) ++ wsX50)
def wsX5_driven_r1 : List Cond := [Cond.fieldLink RX5 53 "ConvexConduitModel" "thrown" "I", Cond.fieldLink RX5 120 "ConvexConduitModel" "ways" "I", Cond.fieldLink RX5 84 "ConvexConduitModel" "amount" "I", Cond.fieldLink RX5 123 "ConvexConduitModel" "paid" "I", Cond.methodLink RX5 139 yX5_drive, Cond.instanceMethod yX5_drive, Cond.selects RX5 yX5_drive yX5_drive, Cond.initialized RX5, Cond.code yX5_drive cX5_drive 2 none, Cond.fieldLink RX5 60 "ConvexConduitModel" "arcs" "I", Cond.fieldLink RX5 47 "ConvexConduitModel" "taken" "[I", Cond.fieldLink RX5 126 "ConvexConduitModel" "latest" "I", Cond.fieldLink RX5 41 "ConvexConduitModel" "far" "[I", Cond.fieldLink RX5 81 "ConvexConduitModel" "source" "I", Cond.constant RX5 91 (1000000), Cond.methodLink RX5 129 yX5_lookBack, Cond.instanceMethod yX5_lookBack, Cond.selects RX5 yX5_lookBack yX5_lookBack, Cond.code yX5_lookBack cX5_lookBack 4 none, Cond.fieldLink RX5 50 "ConvexConduitModel" "nodes" "I", Cond.fieldLink RX5 25 "ConvexConduitModel" "target" "I", Cond.fieldLink RX5 13 "ConvexConduitModel" "tos" "[I", Cond.fieldLink RX5 7 "ConvexConduitModel" "froms" "[I", Cond.methodLink RX5 77 yX5_capacityOf]
def wsX5_driven_r2 : List Cond := [Cond.instanceMethod yX5_capacityOf, Cond.selects RX5 yX5_capacityOf yX5_capacityOf, Cond.code yX5_capacityOf cX5_capacityOf 4 (some .int), Cond.fieldLink RX5 22 "ConvexConduitModel" "pieces" "[I", Cond.fieldLink RX5 16 "ConvexConduitModel" "widths" "[I", Cond.methodLink RX5 87 yX5_priceOf, Cond.instanceMethod yX5_priceOf, Cond.selects RX5 yX5_priceOf yX5_priceOf, Cond.code yX5_priceOf cX5_priceOf 5 (some .int), Cond.fieldLink RX5 19 "ConvexConduitModel" "prices" "[I", Cond.methodLink RX5 132 yX5_takeWay, Cond.instanceMethod yX5_takeWay, Cond.selects RX5 yX5_takeWay yX5_takeWay, Cond.code yX5_takeWay cX5_takeWay 3 none, Cond.methodLink RX5 135 yX5_isNext, Cond.instanceMethod yX5_isNext, Cond.selects RX5 yX5_isNext yX5_isNext, Cond.code yX5_isNext cX5_isNext 4 (some .boolean)]
def wsX5_driven : List Cond := .code yX5_driven cX5_driven 1 (some .int) :: ((wsX5_driven_r1 ++ wsX5_driven_r2) ++ wsX50)
def wsX5_drivenOn_r1 : List Cond := [Cond.fieldLink RX5 47 "ConvexConduitModel" "taken" "[I", Cond.methodLink RX5 74 yX5_isArc, Cond.instanceMethod yX5_isArc, Cond.selects RX5 yX5_isArc yX5_isArc, Cond.initialized RX5, Cond.code yX5_isArc cX5_isArc 2 (some .boolean), Cond.fieldLink RX5 60 "ConvexConduitModel" "arcs" "I", Cond.methodLink RX5 56 yX5_in, Cond.static yX5_in, Cond.code yX5_in cX5_in 3 (some .boolean), Cond.methodLink RX5 67 yX5_goesWell, Cond.instanceMethod yX5_goesWell, Cond.selects RX5 yX5_goesWell yX5_goesWell, Cond.code yX5_goesWell cX5_goesWell 2 (some .boolean), Cond.fieldLink RX5 53 "ConvexConduitModel" "thrown" "I", Cond.methodLink RX5 139 yX5_drive, Cond.instanceMethod yX5_drive, Cond.selects RX5 yX5_drive yX5_drive, Cond.code yX5_drive cX5_drive 2 none, Cond.fieldLink RX5 120 "ConvexConduitModel" "ways" "I", Cond.fieldLink RX5 123 "ConvexConduitModel" "paid" "I", Cond.fieldLink RX5 126 "ConvexConduitModel" "latest" "I", Cond.fieldLink RX5 84 "ConvexConduitModel" "amount" "I", Cond.fieldLink RX5 41 "ConvexConduitModel" "far" "[I"]
def wsX5_drivenOn_r2 : List Cond := [Cond.fieldLink RX5 81 "ConvexConduitModel" "source" "I", Cond.constant RX5 91 (1000000), Cond.methodLink RX5 129 yX5_lookBack, Cond.instanceMethod yX5_lookBack, Cond.selects RX5 yX5_lookBack yX5_lookBack, Cond.code yX5_lookBack cX5_lookBack 4 none, Cond.fieldLink RX5 50 "ConvexConduitModel" "nodes" "I", Cond.fieldLink RX5 25 "ConvexConduitModel" "target" "I", Cond.fieldLink RX5 13 "ConvexConduitModel" "tos" "[I", Cond.fieldLink RX5 7 "ConvexConduitModel" "froms" "[I", Cond.methodLink RX5 77 yX5_capacityOf, Cond.instanceMethod yX5_capacityOf, Cond.selects RX5 yX5_capacityOf yX5_capacityOf, Cond.code yX5_capacityOf cX5_capacityOf 4 (some .int), Cond.fieldLink RX5 22 "ConvexConduitModel" "pieces" "[I", Cond.fieldLink RX5 16 "ConvexConduitModel" "widths" "[I", Cond.methodLink RX5 87 yX5_priceOf, Cond.instanceMethod yX5_priceOf, Cond.selects RX5 yX5_priceOf yX5_priceOf, Cond.code yX5_priceOf cX5_priceOf 5 (some .int), Cond.fieldLink RX5 19 "ConvexConduitModel" "prices" "[I", Cond.methodLink RX5 132 yX5_takeWay, Cond.instanceMethod yX5_takeWay, Cond.selects RX5 yX5_takeWay yX5_takeWay]
def wsX5_drivenOn_r3 : List Cond := [Cond.code yX5_takeWay cX5_takeWay 3 none, Cond.methodLink RX5 135 yX5_isNext, Cond.instanceMethod yX5_isNext, Cond.selects RX5 yX5_isNext yX5_isNext, Cond.code yX5_isNext cX5_isNext 4 (some .boolean)]
def wsX5_drivenOn : List Cond := .code yX5_drivenOn cX5_drivenOn 2 (some .int) :: ((wsX5_drivenOn_r1 ++ (wsX5_drivenOn_r2 ++ wsX5_drivenOn_r3)) ++ wsX50)
def wsX5_lastPaid_r1 : List Cond := [Cond.fieldLink RX5 53 "ConvexConduitModel" "thrown" "I", Cond.fieldLink RX5 126 "ConvexConduitModel" "latest" "I", Cond.methodLink RX5 139 yX5_drive, Cond.instanceMethod yX5_drive, Cond.selects RX5 yX5_drive yX5_drive, Cond.initialized RX5, Cond.code yX5_drive cX5_drive 2 none, Cond.fieldLink RX5 60 "ConvexConduitModel" "arcs" "I", Cond.fieldLink RX5 47 "ConvexConduitModel" "taken" "[I", Cond.fieldLink RX5 120 "ConvexConduitModel" "ways" "I", Cond.fieldLink RX5 123 "ConvexConduitModel" "paid" "I", Cond.fieldLink RX5 84 "ConvexConduitModel" "amount" "I", Cond.fieldLink RX5 41 "ConvexConduitModel" "far" "[I", Cond.fieldLink RX5 81 "ConvexConduitModel" "source" "I", Cond.constant RX5 91 (1000000), Cond.methodLink RX5 129 yX5_lookBack, Cond.instanceMethod yX5_lookBack, Cond.selects RX5 yX5_lookBack yX5_lookBack, Cond.code yX5_lookBack cX5_lookBack 4 none, Cond.fieldLink RX5 50 "ConvexConduitModel" "nodes" "I", Cond.fieldLink RX5 25 "ConvexConduitModel" "target" "I", Cond.fieldLink RX5 13 "ConvexConduitModel" "tos" "[I", Cond.fieldLink RX5 7 "ConvexConduitModel" "froms" "[I", Cond.methodLink RX5 77 yX5_capacityOf]
def wsX5_lastPaid_r2 : List Cond := [Cond.instanceMethod yX5_capacityOf, Cond.selects RX5 yX5_capacityOf yX5_capacityOf, Cond.code yX5_capacityOf cX5_capacityOf 4 (some .int), Cond.fieldLink RX5 22 "ConvexConduitModel" "pieces" "[I", Cond.fieldLink RX5 16 "ConvexConduitModel" "widths" "[I", Cond.methodLink RX5 87 yX5_priceOf, Cond.instanceMethod yX5_priceOf, Cond.selects RX5 yX5_priceOf yX5_priceOf, Cond.code yX5_priceOf cX5_priceOf 5 (some .int), Cond.fieldLink RX5 19 "ConvexConduitModel" "prices" "[I", Cond.methodLink RX5 132 yX5_takeWay, Cond.instanceMethod yX5_takeWay, Cond.selects RX5 yX5_takeWay yX5_takeWay, Cond.code yX5_takeWay cX5_takeWay 3 none, Cond.methodLink RX5 135 yX5_isNext, Cond.instanceMethod yX5_isNext, Cond.selects RX5 yX5_isNext yX5_isNext, Cond.code yX5_isNext cX5_isNext 4 (some .boolean)]
def wsX5_lastPaid : List Cond := .code yX5_lastPaid cX5_lastPaid 1 (some .int) :: ((wsX5_lastPaid_r1 ++ wsX5_lastPaid_r2) ++ wsX50)
def wsJ9_max_7cf53 : List Cond := .code yJ9_max_7cf53 cJ9_max_7cf53 2 (some .int) :: ([])
def wsJ9_min_7cf53 : List Cond := .code yJ9_min_7cf53 cJ9_min_7cf53 2 (some .int) :: ([])
def wsL_cell : List Cond := .code yL_cell cL_cell 2 (some .int) :: ([])
def wsL_arc_r1 : List Cond := [Cond.classLink RL 13 "java/lang/IndexOutOfBoundsException", Cond.classLink RL 15 "java/lang/IllegalArgumentException", Cond.classLink RL 17 "java/lang/IllegalStateException", Cond.methodLink RL 7 yX4_arc, Cond.instanceMethod yX4_arc, Cond.selects RX4 yX4_arc yX4_arc, Cond.initialized RX4, Cond.code yX4_arc cX4_arc 5 (some .int), Cond.classLink RX4 67 "java/lang/IllegalArgumentException", Cond.initialized "java/lang/IllegalArgumentException", Cond.classLink RX4 73 "java/lang/IllegalStateException", Cond.initialized "java/lang/IllegalStateException", Cond.fieldLink RX4 33 "ConvexConduit" "network" "LConvexConduit$Network;", Cond.fieldLink RX4 70 "ConvexConduit$Network" "arcs" "I", Cond.methodLink RX4 60 yX4_refuseOtherThanNode, Cond.instanceMethod yX4_refuseOtherThanNode, Cond.selects RX4 yX4_refuseOtherThanNode yX4_refuseOtherThanNode, Cond.code yX4_refuseOtherThanNode cX4_refuseOtherThanNode 2 none, Cond.classLink RX4 101 "java/lang/IndexOutOfBoundsException", Cond.initialized "java/lang/IndexOutOfBoundsException", Cond.fieldLink RX4 98 "ConvexConduit$Network" "nodes" "I", Cond.methodLink RX4 63 yX4_isNoWidth, Cond.static yX4_isNoWidth, Cond.code yX4_isNoWidth cX4_isNoWidth 1 (some .boolean)]
def wsL_arc_r2 : List Cond := [Cond.methodLink RX4 76 yX2_addArc, Cond.instanceMethod yX2_addArc, Cond.selects RX2 yX2_addArc yX2_addArc, Cond.initialized RX2, Cond.code yX2_addArc cX2_addArc 6 (some .int), Cond.fieldLink RX2 9 "ConvexConduit$Network" "arcs" "I", Cond.fieldLink RX2 15 "ConvexConduit$Network" "from" "[I", Cond.fieldLink RX2 19 "ConvexConduit$Network" "to" "[I", Cond.methodLink RX2 34 yX2_addPiece, Cond.instanceMethod yX2_addPiece, Cond.selects RX2 yX2_addPiece yX2_addPiece, Cond.code yX2_addPiece cX2_addPiece 5 none, Cond.fieldLink RX2 25 "ConvexConduit$Network" "capacity" "[I", Cond.fieldLink RX2 28 "ConvexConduit$Network" "prices" "[I", Cond.fieldLink RX2 22 "ConvexConduit$Network" "pieces" "[I"]
def wsL_arc : List Cond := .codeWith yL_arc cL_arc 7 (some .int) [(0, 14, 17, 13), (0, 14, 21, 15), (0, 14, 25, 17)] :: ((wsL_arc_r1 ++ wsL_arc_r2) ++ wsX40 ++ wsX20 ++ (vx_at0 RX4 69 "java/lang/IllegalArgumentException" ["java/lang/RuntimeException", "java/lang/Exception"]).filter goodWord ++ (vx_at0 RX4 75 "java/lang/IllegalStateException" ["java/lang/RuntimeException", "java/lang/Exception"]).filter goodWord ++ (vx_at0 RX4 103 "java/lang/IndexOutOfBoundsException" ["java/lang/RuntimeException", "java/lang/Exception"]).filter goodWord)
def wsL_piece_r1 : List Cond := [Cond.classLink RL 13 "java/lang/IndexOutOfBoundsException", Cond.classLink RL 15 "java/lang/IllegalArgumentException", Cond.classLink RL 17 "java/lang/IllegalStateException", Cond.methodLink RL 19 yX4_piece, Cond.instanceMethod yX4_piece, Cond.selects RX4 yX4_piece yX4_piece, Cond.initialized RX4, Cond.code yX4_piece cX4_piece 4 (some .int), Cond.classLink RX4 67 "java/lang/IllegalArgumentException", Cond.initialized "java/lang/IllegalArgumentException", Cond.classLink RX4 73 "java/lang/IllegalStateException", Cond.initialized "java/lang/IllegalStateException", Cond.fieldLink RX4 33 "ConvexConduit" "network" "LConvexConduit$Network;", Cond.fieldLink RX4 87 "ConvexConduit$Network" "pieces" "[I", Cond.fieldLink RX4 95 "ConvexConduit$Network" "capacity" "[I", Cond.methodLink RX4 80 yX4_refuseOtherThanArc, Cond.instanceMethod yX4_refuseOtherThanArc, Cond.selects RX4 yX4_refuseOtherThanArc yX4_refuseOtherThanArc, Cond.code yX4_refuseOtherThanArc cX4_refuseOtherThanArc 2 none, Cond.classLink RX4 101 "java/lang/IndexOutOfBoundsException", Cond.initialized "java/lang/IndexOutOfBoundsException", Cond.fieldLink RX4 70 "ConvexConduit$Network" "arcs" "I", Cond.methodLink RX4 63 yX4_isNoWidth, Cond.static yX4_isNoWidth]
def wsL_piece_r2 : List Cond := [Cond.code yX4_isNoWidth cX4_isNoWidth 1 (some .boolean), Cond.methodLink RX4 83 yX2_lastPrice, Cond.instanceMethod yX2_lastPrice, Cond.selects RX2 yX2_lastPrice yX2_lastPrice, Cond.initialized RX2, Cond.code yX2_lastPrice cX2_lastPrice 2 (some .int), Cond.fieldLink RX2 25 "ConvexConduit$Network" "capacity" "[I", Cond.methodLink RX2 39 yX2_unitPrice, Cond.instanceMethod yX2_unitPrice, Cond.selects RX2 yX2_unitPrice yX2_unitPrice, Cond.code yX2_unitPrice cX2_unitPrice 3 (some .int), Cond.constant RX2 38 (1000000), Cond.fieldLink RX2 28 "ConvexConduit$Network" "prices" "[I", Cond.methodLink RX4 91 yX2_addPiece, Cond.instanceMethod yX2_addPiece, Cond.selects RX2 yX2_addPiece yX2_addPiece, Cond.code yX2_addPiece cX2_addPiece 5 none, Cond.fieldLink RX2 22 "ConvexConduit$Network" "pieces" "[I"]
def wsL_piece : List Cond := .codeWith yL_piece cL_piece 6 (some .int) [(0, 12, 15, 13), (0, 12, 19, 15), (0, 12, 23, 17)] :: ((wsL_piece_r1 ++ wsL_piece_r2) ++ wsX40 ++ wsX20 ++ (vx_at0 RX4 69 "java/lang/IllegalArgumentException" ["java/lang/RuntimeException", "java/lang/Exception"]).filter goodWord ++ (vx_at0 RX4 75 "java/lang/IllegalStateException" ["java/lang/RuntimeException", "java/lang/Exception"]).filter goodWord ++ (vx_at0 RX4 103 "java/lang/IndexOutOfBoundsException" ["java/lang/RuntimeException", "java/lang/Exception"]).filter goodWord)
def wsL_demand : List Cond := .codeWith yL_demand cL_demand 5 (some .int) [(0, 7, 10, 13), (0, 7, 14, 15)] :: ([.classLink RL 13 "java/lang/IndexOutOfBoundsException", .classLink RL 15 "java/lang/IllegalArgumentException", .methodLink RL 23 yX4_demand, .instanceMethod yX4_demand, .selects RX4 yX4_demand yX4_demand, .initialized RX4, .code yX4_demand cX4_demand 4 none, .classLink RX4 67 "java/lang/IllegalArgumentException", .initialized "java/lang/IllegalArgumentException", .fieldLink RX4 9 "ConvexConduit" "source" "I", .fieldLink RX4 13 "ConvexConduit" "target" "I", .fieldLink RX4 16 "ConvexConduit" "amount" "I", .methodLink RX4 60 yX4_refuseOtherThanNode, .instanceMethod yX4_refuseOtherThanNode, .selects RX4 yX4_refuseOtherThanNode yX4_refuseOtherThanNode, .code yX4_refuseOtherThanNode cX4_refuseOtherThanNode 2 none, .classLink RX4 101 "java/lang/IndexOutOfBoundsException", .initialized "java/lang/IndexOutOfBoundsException", .fieldLink RX4 33 "ConvexConduit" "network" "LConvexConduit$Network;", .fieldLink RX4 98 "ConvexConduit$Network" "nodes" "I"] ++ wsX40 ++ wsX20 ++ (vx_at0 RX4 69 "java/lang/IllegalArgumentException" ["java/lang/RuntimeException", "java/lang/Exception"]).filter goodWord ++ (vx_at0 RX4 103 "java/lang/IndexOutOfBoundsException" ["java/lang/RuntimeException", "java/lang/Exception"]).filter goodWord)
def wsL_capacity : List Cond := .codeWith yL_capacity cL_capacity 4 (some .int) [(0, 9, 12, 13)] :: ([.classLink RL 13 "java/lang/IndexOutOfBoundsException", .methodLink RL 27 yX4_capacity, .instanceMethod yX4_capacity, .selects RX4 yX4_capacity yX4_capacity, .initialized RX4, .code yX4_capacity cX4_capacity 2 (some .int), .fieldLink RX4 33 "ConvexConduit" "network" "LConvexConduit$Network;", .fieldLink RX4 95 "ConvexConduit$Network" "capacity" "[I", .methodLink RX4 80 yX4_refuseOtherThanArc, .instanceMethod yX4_refuseOtherThanArc, .selects RX4 yX4_refuseOtherThanArc yX4_refuseOtherThanArc, .code yX4_refuseOtherThanArc cX4_refuseOtherThanArc 2 none, .classLink RX4 101 "java/lang/IndexOutOfBoundsException", .initialized "java/lang/IndexOutOfBoundsException", .fieldLink RX4 70 "ConvexConduit$Network" "arcs" "I"] ++ wsX40 ++ wsX20 ++ (vx_at0 RX4 103 "java/lang/IndexOutOfBoundsException" ["java/lang/RuntimeException", "java/lang/Exception"]).filter goodWord)
def wsL_price : List Cond := .codeWith yL_price cL_price 5 (some .int) [(0, 10, 13, 13)] :: ([.classLink RL 13 "java/lang/IndexOutOfBoundsException", .methodLink RL 31 yX4_price, .instanceMethod yX4_price, .selects RX4 yX4_price yX4_price, .initialized RX4, .code yX4_price cX4_price 3 (some .int), .classLink RX4 101 "java/lang/IndexOutOfBoundsException", .initialized "java/lang/IndexOutOfBoundsException", .fieldLink RX4 33 "ConvexConduit" "network" "LConvexConduit$Network;", .fieldLink RX4 95 "ConvexConduit$Network" "capacity" "[I", .methodLink RX4 80 yX4_refuseOtherThanArc, .instanceMethod yX4_refuseOtherThanArc, .selects RX4 yX4_refuseOtherThanArc yX4_refuseOtherThanArc, .code yX4_refuseOtherThanArc cX4_refuseOtherThanArc 2 none, .fieldLink RX4 70 "ConvexConduit$Network" "arcs" "I", .methodLink RX4 104 yX2_unitPrice, .instanceMethod yX2_unitPrice, .selects RX2 yX2_unitPrice yX2_unitPrice, .initialized RX2, .code yX2_unitPrice cX2_unitPrice 3 (some .int), .fieldLink RX2 25 "ConvexConduit$Network" "capacity" "[I", .constant RX2 38 (1000000), .fieldLink RX2 28 "ConvexConduit$Network" "prices" "[I"] ++ wsX40 ++ wsX20 ++ (vx_at0 RX4 103 "java/lang/IndexOutOfBoundsException" ["java/lang/RuntimeException", "java/lang/Exception"]).filter goodWord)
def wsL_more_r1 : List Cond := [Cond.classLink RL 13 "java/lang/IndexOutOfBoundsException", Cond.methodLink RL 35 yX4_more, Cond.instanceMethod yX4_more, Cond.selects RX4 yX4_more yX4_more, Cond.initialized RX4, Cond.code yX4_more cX4_more 2 (some .int), Cond.fieldLink RX4 42 "ConvexConduit" "cheapest" "LConvexConduit$CheapestFlow;", Cond.fieldLink RX4 9 "ConvexConduit" "source" "I", Cond.fieldLink RX4 13 "ConvexConduit" "target" "I", Cond.fieldLink RX4 16 "ConvexConduit" "amount" "I", Cond.methodLink RX4 60 yX4_refuseOtherThanNode, Cond.instanceMethod yX4_refuseOtherThanNode, Cond.selects RX4 yX4_refuseOtherThanNode yX4_refuseOtherThanNode, Cond.code yX4_refuseOtherThanNode cX4_refuseOtherThanNode 2 none, Cond.classLink RX4 101 "java/lang/IndexOutOfBoundsException", Cond.initialized "java/lang/IndexOutOfBoundsException", Cond.fieldLink RX4 33 "ConvexConduit" "network" "LConvexConduit$Network;", Cond.fieldLink RX4 98 "ConvexConduit$Network" "nodes" "I", Cond.methodLink RX4 110 yX0_meet, Cond.instanceMethod yX0_meet, Cond.selects RX0 yX0_meet yX0_meet, Cond.initialized RX0, Cond.code yX0_meet cX0_meet 5 (some .boolean), Cond.methodLink RX0 31 yX0_empty]
def wsL_more_r2 : List Cond := [Cond.instanceMethod yX0_empty, Cond.selects RX0 yX0_empty yX0_empty, Cond.code yX0_empty cX0_empty 2 none, Cond.fieldLink RX0 27 "ConvexConduit$CheapestFlow" "network" "LConvexConduit$Network;", Cond.fieldLink RX0 45 "ConvexConduit$Network" "arcs" "I", Cond.fieldLink RX0 9 "ConvexConduit$CheapestFlow" "on" "[I", Cond.fieldLink RX0 15 "ConvexConduit$CheapestFlow" "low" "[I", Cond.fieldLink RX0 18 "ConvexConduit$CheapestFlow" "high" "[I", Cond.fieldLink RX0 65 "ConvexConduit$Network" "capacity" "[I", Cond.methodLink RX0 34 yX0_measureFrom, Cond.instanceMethod yX0_measureFrom, Cond.selects RX0 yX0_measureFrom yX0_measureFrom, Cond.code yX0_measureFrom cX0_measureFrom 3 none, Cond.fieldLink RX0 82 "ConvexConduit$Network" "nodes" "I", Cond.fieldLink RX0 21 "ConvexConduit$CheapestFlow" "distance" "[I", Cond.constant RX0 55 (1000000), Cond.fieldLink RX0 24 "ConvexConduit$CheapestFlow" "cameBy" "[I", Cond.methodLink RX0 99 yX0_measure, Cond.instanceMethod yX0_measure, Cond.selects RX0 yX0_measure yX0_measure, Cond.code yX0_measure cX0_measure 4 none, Cond.methodLink RX0 102 yX2_steps, Cond.instanceMethod yX2_steps, Cond.selects RX2 yX2_steps yX2_steps]
def wsL_more_r3 : List Cond := [Cond.initialized RX2, Cond.code yX2_steps cX2_steps 1 (some .int), Cond.fieldLink RX2 9 "ConvexConduit$Network" "arcs" "I", Cond.methodLink RX0 106 yX0_shorten, Cond.instanceMethod yX0_shorten, Cond.selects RX0 yX0_shorten yX0_shorten, Cond.code yX0_shorten cX0_shorten 4 (some .boolean), Cond.methodLink RX0 93 yX2_start, Cond.instanceMethod yX2_start, Cond.selects RX2 yX2_start yX2_start, Cond.code yX2_start cX2_start 2 (some .int), Cond.fieldLink RX2 15 "ConvexConduit$Network" "from" "[I", Cond.fieldLink RX2 19 "ConvexConduit$Network" "to" "[I", Cond.methodLink RX2 43 yX2_goesAlong, Cond.static yX2_goesAlong, Cond.code yX2_goesAlong cX2_goesAlong 1 (some .boolean), Cond.methodLink RX2 47 yX2_arcOf, Cond.static yX2_arcOf, Cond.code yX2_arcOf cX2_arcOf 1 (some .int), Cond.methodLink RX0 109 yX2_end, Cond.instanceMethod yX2_end, Cond.selects RX2 yX2_end yX2_end, Cond.code yX2_end cX2_end 2 (some .int), Cond.methodLink RX0 96 yX0_roomOf]
def wsL_more_r4 : List Cond := [Cond.instanceMethod yX0_roomOf, Cond.selects RX0 yX0_roomOf yX0_roomOf, Cond.code yX0_roomOf cX0_roomOf 3 (some .int), Cond.methodLink RX0 85 yX2_arcOf, Cond.methodLink RX0 89 yX2_goesAlong, Cond.methodLink RX0 112 yX0_priceOf, Cond.instanceMethod yX0_priceOf, Cond.selects RX0 yX0_priceOf yX0_priceOf, Cond.code yX0_priceOf cX0_priceOf 3 (some .int), Cond.methodLink RX0 51 yX2_unitPrice, Cond.instanceMethod yX2_unitPrice, Cond.selects RX2 yX2_unitPrice yX2_unitPrice, Cond.code yX2_unitPrice cX2_unitPrice 3 (some .int), Cond.fieldLink RX2 25 "ConvexConduit$Network" "capacity" "[I", Cond.constant RX2 38 (1000000), Cond.fieldLink RX2 28 "ConvexConduit$Network" "prices" "[I", Cond.methodLink RX0 38 yX0_sendOnWay, Cond.instanceMethod yX0_sendOnWay, Cond.selects RX0 yX0_sendOnWay yX0_sendOnWay, Cond.code yX0_sendOnWay cX0_sendOnWay 8 (some .int), Cond.methodLink RX0 77 Lib.Math.min.name, Cond.static Lib.Math.min.name, Cond.initialized "java/lang/Math", Cond.code Lib.Math.min.name Lib.Math.min.code 2 (some .int)]
def wsL_more_r5 : List Cond := [Cond.methodLink RX0 74 yX0_roomOnWay, Cond.instanceMethod yX0_roomOnWay, Cond.selects RX0 yX0_roomOnWay yX0_roomOnWay, Cond.code yX0_roomOnWay cX0_roomOnWay 7 (some .int), Cond.methodLink RX4 122 yX0_priceOfUnitMore, Cond.instanceMethod yX0_priceOfUnitMore, Cond.selects RX0 yX0_priceOfUnitMore yX0_priceOfUnitMore, Cond.code yX0_priceOfUnitMore cX0_priceOfUnitMore 3 (some .int)]
def wsL_more : List Cond := .codeWith yL_more cL_more 4 (some .int) [(0, 9, 12, 13)] :: ((wsL_more_r1 ++ (wsL_more_r2 ++ (wsL_more_r3 ++ (wsL_more_r4 ++ wsL_more_r5)))) ++ wsX40 ++ wsX20 ++ wsX00 ++ (vx_at0 RX4 103 "java/lang/IndexOutOfBoundsException" ["java/lang/RuntimeException", "java/lang/Exception"]).filter goodWord)
def wsL_flow_r1 : List Cond := [Cond.classLink RL 13 "java/lang/IndexOutOfBoundsException", Cond.methodLink RL 38 yX4_flow, Cond.instanceMethod yX4_flow, Cond.selects RX4 yX4_flow yX4_flow, Cond.initialized RX4, Cond.code yX4_flow cX4_flow 3 (some .int), Cond.fieldLink RX4 42 "ConvexConduit" "cheapest" "LConvexConduit$CheapestFlow;", Cond.fieldLink RX4 9 "ConvexConduit" "source" "I", Cond.fieldLink RX4 13 "ConvexConduit" "target" "I", Cond.fieldLink RX4 16 "ConvexConduit" "amount" "I", Cond.methodLink RX4 80 yX4_refuseOtherThanArc, Cond.instanceMethod yX4_refuseOtherThanArc, Cond.selects RX4 yX4_refuseOtherThanArc yX4_refuseOtherThanArc, Cond.code yX4_refuseOtherThanArc cX4_refuseOtherThanArc 2 none, Cond.classLink RX4 101 "java/lang/IndexOutOfBoundsException", Cond.initialized "java/lang/IndexOutOfBoundsException", Cond.fieldLink RX4 33 "ConvexConduit" "network" "LConvexConduit$Network;", Cond.fieldLink RX4 70 "ConvexConduit$Network" "arcs" "I", Cond.methodLink RX4 110 yX0_meet, Cond.instanceMethod yX0_meet, Cond.selects RX0 yX0_meet yX0_meet, Cond.initialized RX0, Cond.code yX0_meet cX0_meet 5 (some .boolean), Cond.methodLink RX0 31 yX0_empty]
def wsL_flow_r2 : List Cond := [Cond.instanceMethod yX0_empty, Cond.selects RX0 yX0_empty yX0_empty, Cond.code yX0_empty cX0_empty 2 none, Cond.fieldLink RX0 27 "ConvexConduit$CheapestFlow" "network" "LConvexConduit$Network;", Cond.fieldLink RX0 45 "ConvexConduit$Network" "arcs" "I", Cond.fieldLink RX0 9 "ConvexConduit$CheapestFlow" "on" "[I", Cond.fieldLink RX0 15 "ConvexConduit$CheapestFlow" "low" "[I", Cond.fieldLink RX0 18 "ConvexConduit$CheapestFlow" "high" "[I", Cond.fieldLink RX0 65 "ConvexConduit$Network" "capacity" "[I", Cond.methodLink RX0 34 yX0_measureFrom, Cond.instanceMethod yX0_measureFrom, Cond.selects RX0 yX0_measureFrom yX0_measureFrom, Cond.code yX0_measureFrom cX0_measureFrom 3 none, Cond.fieldLink RX0 82 "ConvexConduit$Network" "nodes" "I", Cond.fieldLink RX0 21 "ConvexConduit$CheapestFlow" "distance" "[I", Cond.constant RX0 55 (1000000), Cond.fieldLink RX0 24 "ConvexConduit$CheapestFlow" "cameBy" "[I", Cond.methodLink RX0 99 yX0_measure, Cond.instanceMethod yX0_measure, Cond.selects RX0 yX0_measure yX0_measure, Cond.code yX0_measure cX0_measure 4 none, Cond.methodLink RX0 102 yX2_steps, Cond.instanceMethod yX2_steps, Cond.selects RX2 yX2_steps yX2_steps]
def wsL_flow_r3 : List Cond := [Cond.initialized RX2, Cond.code yX2_steps cX2_steps 1 (some .int), Cond.fieldLink RX2 9 "ConvexConduit$Network" "arcs" "I", Cond.methodLink RX0 106 yX0_shorten, Cond.instanceMethod yX0_shorten, Cond.selects RX0 yX0_shorten yX0_shorten, Cond.code yX0_shorten cX0_shorten 4 (some .boolean), Cond.methodLink RX0 93 yX2_start, Cond.instanceMethod yX2_start, Cond.selects RX2 yX2_start yX2_start, Cond.code yX2_start cX2_start 2 (some .int), Cond.fieldLink RX2 15 "ConvexConduit$Network" "from" "[I", Cond.fieldLink RX2 19 "ConvexConduit$Network" "to" "[I", Cond.methodLink RX2 43 yX2_goesAlong, Cond.static yX2_goesAlong, Cond.code yX2_goesAlong cX2_goesAlong 1 (some .boolean), Cond.methodLink RX2 47 yX2_arcOf, Cond.static yX2_arcOf, Cond.code yX2_arcOf cX2_arcOf 1 (some .int), Cond.methodLink RX0 109 yX2_end, Cond.instanceMethod yX2_end, Cond.selects RX2 yX2_end yX2_end, Cond.code yX2_end cX2_end 2 (some .int), Cond.methodLink RX0 96 yX0_roomOf]
def wsL_flow_r4 : List Cond := [Cond.instanceMethod yX0_roomOf, Cond.selects RX0 yX0_roomOf yX0_roomOf, Cond.code yX0_roomOf cX0_roomOf 3 (some .int), Cond.methodLink RX0 85 yX2_arcOf, Cond.methodLink RX0 89 yX2_goesAlong, Cond.methodLink RX0 112 yX0_priceOf, Cond.instanceMethod yX0_priceOf, Cond.selects RX0 yX0_priceOf yX0_priceOf, Cond.code yX0_priceOf cX0_priceOf 3 (some .int), Cond.methodLink RX0 51 yX2_unitPrice, Cond.instanceMethod yX2_unitPrice, Cond.selects RX2 yX2_unitPrice yX2_unitPrice, Cond.code yX2_unitPrice cX2_unitPrice 3 (some .int), Cond.fieldLink RX2 25 "ConvexConduit$Network" "capacity" "[I", Cond.constant RX2 38 (1000000), Cond.fieldLink RX2 28 "ConvexConduit$Network" "prices" "[I", Cond.methodLink RX0 38 yX0_sendOnWay, Cond.instanceMethod yX0_sendOnWay, Cond.selects RX0 yX0_sendOnWay yX0_sendOnWay, Cond.code yX0_sendOnWay cX0_sendOnWay 8 (some .int), Cond.methodLink RX0 77 Lib.Math.min.name, Cond.static Lib.Math.min.name, Cond.initialized "java/lang/Math", Cond.code Lib.Math.min.name Lib.Math.min.code 2 (some .int)]
def wsL_flow_r5 : List Cond := [Cond.methodLink RX0 74 yX0_roomOnWay, Cond.instanceMethod yX0_roomOnWay, Cond.selects RX0 yX0_roomOnWay yX0_roomOnWay, Cond.code yX0_roomOnWay cX0_roomOnWay 7 (some .int), Cond.methodLink RX4 125 yX0_keepToCheapest, Cond.instanceMethod yX0_keepToCheapest, Cond.selects RX0 yX0_keepToCheapest yX0_keepToCheapest, Cond.code yX0_keepToCheapest cX0_keepToCheapest 5 none, Cond.fieldLink RX0 59 "ConvexConduit$Network" "to" "[I", Cond.fieldLink RX0 62 "ConvexConduit$Network" "from" "[I", Cond.methodLink RX0 56 yX0_measureFromAll, Cond.instanceMethod yX0_measureFromAll, Cond.selects RX0 yX0_measureFromAll yX0_measureFromAll, Cond.code yX0_measureFromAll cX0_measureFromAll 2 none, Cond.methodLink RX4 128 yX0_lower, Cond.instanceMethod yX0_lower, Cond.selects RX0 yX0_lower yX0_lower, Cond.code yX0_lower cX0_lower 3 (some .int), Cond.methodLink RX0 68 yX0_hold, Cond.instanceMethod yX0_hold, Cond.selects RX0 yX0_hold yX0_hold, Cond.code yX0_hold cX0_hold 2 none, Cond.methodLink RX0 42 yX0_send, Cond.instanceMethod yX0_send]
def wsL_flow_r6 : List Cond := [Cond.selects RX0 yX0_send yX0_send, Cond.code yX0_send cX0_send 7 (some .int), Cond.methodLink RX0 71 yX0_spreadFrom, Cond.instanceMethod yX0_spreadFrom, Cond.selects RX0 yX0_spreadFrom yX0_spreadFrom, Cond.code yX0_spreadFrom cX0_spreadFrom 5 none, Cond.methodLink RX0 115 yX0_widen, Cond.instanceMethod yX0_widen, Cond.selects RX0 yX0_widen yX0_widen, Cond.code yX0_widen cX0_widen 6 (some .boolean)]
def wsL_flow : List Cond := .codeWith yL_flow cL_flow 4 (some .int) [(0, 9, 12, 13)] :: ((wsL_flow_r1 ++ (wsL_flow_r2 ++ (wsL_flow_r3 ++ (wsL_flow_r4 ++ (wsL_flow_r5 ++ wsL_flow_r6))))) ++ wsX40 ++ wsX20 ++ wsX00 ++ (vx_at0 RX4 103 "java/lang/IndexOutOfBoundsException" ["java/lang/RuntimeException", "java/lang/Exception"]).filter goodWord)
def wsL_leastOn_r1 : List Cond := [Cond.classLink RL 13 "java/lang/IndexOutOfBoundsException", Cond.methodLink RL 41 yX4_leastOn, Cond.instanceMethod yX4_leastOn, Cond.selects RX4 yX4_leastOn yX4_leastOn, Cond.initialized RX4, Cond.code yX4_leastOn cX4_leastOn 2 (some .int), Cond.fieldLink RX4 42 "ConvexConduit" "cheapest" "LConvexConduit$CheapestFlow;", Cond.fieldLink RX4 9 "ConvexConduit" "source" "I", Cond.fieldLink RX4 13 "ConvexConduit" "target" "I", Cond.fieldLink RX4 16 "ConvexConduit" "amount" "I", Cond.methodLink RX4 80 yX4_refuseOtherThanArc, Cond.instanceMethod yX4_refuseOtherThanArc, Cond.selects RX4 yX4_refuseOtherThanArc yX4_refuseOtherThanArc, Cond.code yX4_refuseOtherThanArc cX4_refuseOtherThanArc 2 none, Cond.classLink RX4 101 "java/lang/IndexOutOfBoundsException", Cond.initialized "java/lang/IndexOutOfBoundsException", Cond.fieldLink RX4 33 "ConvexConduit" "network" "LConvexConduit$Network;", Cond.fieldLink RX4 70 "ConvexConduit$Network" "arcs" "I", Cond.methodLink RX4 110 yX0_meet, Cond.instanceMethod yX0_meet, Cond.selects RX0 yX0_meet yX0_meet, Cond.initialized RX0, Cond.code yX0_meet cX0_meet 5 (some .boolean), Cond.methodLink RX0 31 yX0_empty]
def wsL_leastOn_r2 : List Cond := [Cond.instanceMethod yX0_empty, Cond.selects RX0 yX0_empty yX0_empty, Cond.code yX0_empty cX0_empty 2 none, Cond.fieldLink RX0 27 "ConvexConduit$CheapestFlow" "network" "LConvexConduit$Network;", Cond.fieldLink RX0 45 "ConvexConduit$Network" "arcs" "I", Cond.fieldLink RX0 9 "ConvexConduit$CheapestFlow" "on" "[I", Cond.fieldLink RX0 15 "ConvexConduit$CheapestFlow" "low" "[I", Cond.fieldLink RX0 18 "ConvexConduit$CheapestFlow" "high" "[I", Cond.fieldLink RX0 65 "ConvexConduit$Network" "capacity" "[I", Cond.methodLink RX0 34 yX0_measureFrom, Cond.instanceMethod yX0_measureFrom, Cond.selects RX0 yX0_measureFrom yX0_measureFrom, Cond.code yX0_measureFrom cX0_measureFrom 3 none, Cond.fieldLink RX0 82 "ConvexConduit$Network" "nodes" "I", Cond.fieldLink RX0 21 "ConvexConduit$CheapestFlow" "distance" "[I", Cond.constant RX0 55 (1000000), Cond.fieldLink RX0 24 "ConvexConduit$CheapestFlow" "cameBy" "[I", Cond.methodLink RX0 99 yX0_measure, Cond.instanceMethod yX0_measure, Cond.selects RX0 yX0_measure yX0_measure, Cond.code yX0_measure cX0_measure 4 none, Cond.methodLink RX0 102 yX2_steps, Cond.instanceMethod yX2_steps, Cond.selects RX2 yX2_steps yX2_steps]
def wsL_leastOn_r3 : List Cond := [Cond.initialized RX2, Cond.code yX2_steps cX2_steps 1 (some .int), Cond.fieldLink RX2 9 "ConvexConduit$Network" "arcs" "I", Cond.methodLink RX0 106 yX0_shorten, Cond.instanceMethod yX0_shorten, Cond.selects RX0 yX0_shorten yX0_shorten, Cond.code yX0_shorten cX0_shorten 4 (some .boolean), Cond.methodLink RX0 93 yX2_start, Cond.instanceMethod yX2_start, Cond.selects RX2 yX2_start yX2_start, Cond.code yX2_start cX2_start 2 (some .int), Cond.fieldLink RX2 15 "ConvexConduit$Network" "from" "[I", Cond.fieldLink RX2 19 "ConvexConduit$Network" "to" "[I", Cond.methodLink RX2 43 yX2_goesAlong, Cond.static yX2_goesAlong, Cond.code yX2_goesAlong cX2_goesAlong 1 (some .boolean), Cond.methodLink RX2 47 yX2_arcOf, Cond.static yX2_arcOf, Cond.code yX2_arcOf cX2_arcOf 1 (some .int), Cond.methodLink RX0 109 yX2_end, Cond.instanceMethod yX2_end, Cond.selects RX2 yX2_end yX2_end, Cond.code yX2_end cX2_end 2 (some .int), Cond.methodLink RX0 96 yX0_roomOf]
def wsL_leastOn_r4 : List Cond := [Cond.instanceMethod yX0_roomOf, Cond.selects RX0 yX0_roomOf yX0_roomOf, Cond.code yX0_roomOf cX0_roomOf 3 (some .int), Cond.methodLink RX0 85 yX2_arcOf, Cond.methodLink RX0 89 yX2_goesAlong, Cond.methodLink RX0 112 yX0_priceOf, Cond.instanceMethod yX0_priceOf, Cond.selects RX0 yX0_priceOf yX0_priceOf, Cond.code yX0_priceOf cX0_priceOf 3 (some .int), Cond.methodLink RX0 51 yX2_unitPrice, Cond.instanceMethod yX2_unitPrice, Cond.selects RX2 yX2_unitPrice yX2_unitPrice, Cond.code yX2_unitPrice cX2_unitPrice 3 (some .int), Cond.fieldLink RX2 25 "ConvexConduit$Network" "capacity" "[I", Cond.constant RX2 38 (1000000), Cond.fieldLink RX2 28 "ConvexConduit$Network" "prices" "[I", Cond.methodLink RX0 38 yX0_sendOnWay, Cond.instanceMethod yX0_sendOnWay, Cond.selects RX0 yX0_sendOnWay yX0_sendOnWay, Cond.code yX0_sendOnWay cX0_sendOnWay 8 (some .int), Cond.methodLink RX0 77 Lib.Math.min.name, Cond.static Lib.Math.min.name, Cond.initialized "java/lang/Math", Cond.code Lib.Math.min.name Lib.Math.min.code 2 (some .int)]
def wsL_leastOn_r5 : List Cond := [Cond.methodLink RX0 74 yX0_roomOnWay, Cond.instanceMethod yX0_roomOnWay, Cond.selects RX0 yX0_roomOnWay yX0_roomOnWay, Cond.code yX0_roomOnWay cX0_roomOnWay 7 (some .int), Cond.methodLink RX4 125 yX0_keepToCheapest, Cond.instanceMethod yX0_keepToCheapest, Cond.selects RX0 yX0_keepToCheapest yX0_keepToCheapest, Cond.code yX0_keepToCheapest cX0_keepToCheapest 5 none, Cond.fieldLink RX0 59 "ConvexConduit$Network" "to" "[I", Cond.fieldLink RX0 62 "ConvexConduit$Network" "from" "[I", Cond.methodLink RX0 56 yX0_measureFromAll, Cond.instanceMethod yX0_measureFromAll, Cond.selects RX0 yX0_measureFromAll yX0_measureFromAll, Cond.code yX0_measureFromAll cX0_measureFromAll 2 none, Cond.methodLink RX4 128 yX0_lower, Cond.instanceMethod yX0_lower, Cond.selects RX0 yX0_lower yX0_lower, Cond.code yX0_lower cX0_lower 3 (some .int), Cond.methodLink RX0 68 yX0_hold, Cond.instanceMethod yX0_hold, Cond.selects RX0 yX0_hold yX0_hold, Cond.code yX0_hold cX0_hold 2 none, Cond.methodLink RX0 42 yX0_send, Cond.instanceMethod yX0_send]
def wsL_leastOn_r6 : List Cond := [Cond.selects RX0 yX0_send yX0_send, Cond.code yX0_send cX0_send 7 (some .int), Cond.methodLink RX0 71 yX0_spreadFrom, Cond.instanceMethod yX0_spreadFrom, Cond.selects RX0 yX0_spreadFrom yX0_spreadFrom, Cond.code yX0_spreadFrom cX0_spreadFrom 5 none, Cond.methodLink RX0 115 yX0_widen, Cond.instanceMethod yX0_widen, Cond.selects RX0 yX0_widen yX0_widen, Cond.code yX0_widen cX0_widen 6 (some .boolean)]
def wsL_leastOn : List Cond := .codeWith yL_leastOn cL_leastOn 4 (some .int) [(0, 9, 12, 13)] :: ((wsL_leastOn_r1 ++ (wsL_leastOn_r2 ++ (wsL_leastOn_r3 ++ (wsL_leastOn_r4 ++ (wsL_leastOn_r5 ++ wsL_leastOn_r6))))) ++ wsX40 ++ wsX20 ++ wsX00 ++ (vx_at0 RX4 103 "java/lang/IndexOutOfBoundsException" ["java/lang/RuntimeException", "java/lang/Exception"]).filter goodWord)
def wsL_mostOn_r1 : List Cond := [Cond.classLink RL 13 "java/lang/IndexOutOfBoundsException", Cond.methodLink RL 44 yX4_mostOn, Cond.instanceMethod yX4_mostOn, Cond.selects RX4 yX4_mostOn yX4_mostOn, Cond.initialized RX4, Cond.code yX4_mostOn cX4_mostOn 2 (some .int), Cond.fieldLink RX4 42 "ConvexConduit" "cheapest" "LConvexConduit$CheapestFlow;", Cond.fieldLink RX4 9 "ConvexConduit" "source" "I", Cond.fieldLink RX4 13 "ConvexConduit" "target" "I", Cond.fieldLink RX4 16 "ConvexConduit" "amount" "I", Cond.methodLink RX4 80 yX4_refuseOtherThanArc, Cond.instanceMethod yX4_refuseOtherThanArc, Cond.selects RX4 yX4_refuseOtherThanArc yX4_refuseOtherThanArc, Cond.code yX4_refuseOtherThanArc cX4_refuseOtherThanArc 2 none, Cond.classLink RX4 101 "java/lang/IndexOutOfBoundsException", Cond.initialized "java/lang/IndexOutOfBoundsException", Cond.fieldLink RX4 33 "ConvexConduit" "network" "LConvexConduit$Network;", Cond.fieldLink RX4 70 "ConvexConduit$Network" "arcs" "I", Cond.methodLink RX4 110 yX0_meet, Cond.instanceMethod yX0_meet, Cond.selects RX0 yX0_meet yX0_meet, Cond.initialized RX0, Cond.code yX0_meet cX0_meet 5 (some .boolean), Cond.methodLink RX0 31 yX0_empty]
def wsL_mostOn_r2 : List Cond := [Cond.instanceMethod yX0_empty, Cond.selects RX0 yX0_empty yX0_empty, Cond.code yX0_empty cX0_empty 2 none, Cond.fieldLink RX0 27 "ConvexConduit$CheapestFlow" "network" "LConvexConduit$Network;", Cond.fieldLink RX0 45 "ConvexConduit$Network" "arcs" "I", Cond.fieldLink RX0 9 "ConvexConduit$CheapestFlow" "on" "[I", Cond.fieldLink RX0 15 "ConvexConduit$CheapestFlow" "low" "[I", Cond.fieldLink RX0 18 "ConvexConduit$CheapestFlow" "high" "[I", Cond.fieldLink RX0 65 "ConvexConduit$Network" "capacity" "[I", Cond.methodLink RX0 34 yX0_measureFrom, Cond.instanceMethod yX0_measureFrom, Cond.selects RX0 yX0_measureFrom yX0_measureFrom, Cond.code yX0_measureFrom cX0_measureFrom 3 none, Cond.fieldLink RX0 82 "ConvexConduit$Network" "nodes" "I", Cond.fieldLink RX0 21 "ConvexConduit$CheapestFlow" "distance" "[I", Cond.constant RX0 55 (1000000), Cond.fieldLink RX0 24 "ConvexConduit$CheapestFlow" "cameBy" "[I", Cond.methodLink RX0 99 yX0_measure, Cond.instanceMethod yX0_measure, Cond.selects RX0 yX0_measure yX0_measure, Cond.code yX0_measure cX0_measure 4 none, Cond.methodLink RX0 102 yX2_steps, Cond.instanceMethod yX2_steps, Cond.selects RX2 yX2_steps yX2_steps]
def wsL_mostOn_r3 : List Cond := [Cond.initialized RX2, Cond.code yX2_steps cX2_steps 1 (some .int), Cond.fieldLink RX2 9 "ConvexConduit$Network" "arcs" "I", Cond.methodLink RX0 106 yX0_shorten, Cond.instanceMethod yX0_shorten, Cond.selects RX0 yX0_shorten yX0_shorten, Cond.code yX0_shorten cX0_shorten 4 (some .boolean), Cond.methodLink RX0 93 yX2_start, Cond.instanceMethod yX2_start, Cond.selects RX2 yX2_start yX2_start, Cond.code yX2_start cX2_start 2 (some .int), Cond.fieldLink RX2 15 "ConvexConduit$Network" "from" "[I", Cond.fieldLink RX2 19 "ConvexConduit$Network" "to" "[I", Cond.methodLink RX2 43 yX2_goesAlong, Cond.static yX2_goesAlong, Cond.code yX2_goesAlong cX2_goesAlong 1 (some .boolean), Cond.methodLink RX2 47 yX2_arcOf, Cond.static yX2_arcOf, Cond.code yX2_arcOf cX2_arcOf 1 (some .int), Cond.methodLink RX0 109 yX2_end, Cond.instanceMethod yX2_end, Cond.selects RX2 yX2_end yX2_end, Cond.code yX2_end cX2_end 2 (some .int), Cond.methodLink RX0 96 yX0_roomOf]
def wsL_mostOn_r4 : List Cond := [Cond.instanceMethod yX0_roomOf, Cond.selects RX0 yX0_roomOf yX0_roomOf, Cond.code yX0_roomOf cX0_roomOf 3 (some .int), Cond.methodLink RX0 85 yX2_arcOf, Cond.methodLink RX0 89 yX2_goesAlong, Cond.methodLink RX0 112 yX0_priceOf, Cond.instanceMethod yX0_priceOf, Cond.selects RX0 yX0_priceOf yX0_priceOf, Cond.code yX0_priceOf cX0_priceOf 3 (some .int), Cond.methodLink RX0 51 yX2_unitPrice, Cond.instanceMethod yX2_unitPrice, Cond.selects RX2 yX2_unitPrice yX2_unitPrice, Cond.code yX2_unitPrice cX2_unitPrice 3 (some .int), Cond.fieldLink RX2 25 "ConvexConduit$Network" "capacity" "[I", Cond.constant RX2 38 (1000000), Cond.fieldLink RX2 28 "ConvexConduit$Network" "prices" "[I", Cond.methodLink RX0 38 yX0_sendOnWay, Cond.instanceMethod yX0_sendOnWay, Cond.selects RX0 yX0_sendOnWay yX0_sendOnWay, Cond.code yX0_sendOnWay cX0_sendOnWay 8 (some .int), Cond.methodLink RX0 77 Lib.Math.min.name, Cond.static Lib.Math.min.name, Cond.initialized "java/lang/Math", Cond.code Lib.Math.min.name Lib.Math.min.code 2 (some .int)]
def wsL_mostOn_r5 : List Cond := [Cond.methodLink RX0 74 yX0_roomOnWay, Cond.instanceMethod yX0_roomOnWay, Cond.selects RX0 yX0_roomOnWay yX0_roomOnWay, Cond.code yX0_roomOnWay cX0_roomOnWay 7 (some .int), Cond.methodLink RX4 125 yX0_keepToCheapest, Cond.instanceMethod yX0_keepToCheapest, Cond.selects RX0 yX0_keepToCheapest yX0_keepToCheapest, Cond.code yX0_keepToCheapest cX0_keepToCheapest 5 none, Cond.fieldLink RX0 59 "ConvexConduit$Network" "to" "[I", Cond.fieldLink RX0 62 "ConvexConduit$Network" "from" "[I", Cond.methodLink RX0 56 yX0_measureFromAll, Cond.instanceMethod yX0_measureFromAll, Cond.selects RX0 yX0_measureFromAll yX0_measureFromAll, Cond.code yX0_measureFromAll cX0_measureFromAll 2 none, Cond.methodLink RX4 131 yX0_raise, Cond.instanceMethod yX0_raise, Cond.selects RX0 yX0_raise yX0_raise, Cond.code yX0_raise cX0_raise 3 (some .int), Cond.methodLink RX0 68 yX0_hold, Cond.instanceMethod yX0_hold, Cond.selects RX0 yX0_hold yX0_hold, Cond.code yX0_hold cX0_hold 2 none, Cond.methodLink RX0 42 yX0_send, Cond.instanceMethod yX0_send]
def wsL_mostOn_r6 : List Cond := [Cond.selects RX0 yX0_send yX0_send, Cond.code yX0_send cX0_send 7 (some .int), Cond.methodLink RX0 71 yX0_spreadFrom, Cond.instanceMethod yX0_spreadFrom, Cond.selects RX0 yX0_spreadFrom yX0_spreadFrom, Cond.code yX0_spreadFrom cX0_spreadFrom 5 none, Cond.methodLink RX0 115 yX0_widen, Cond.instanceMethod yX0_widen, Cond.selects RX0 yX0_widen yX0_widen, Cond.code yX0_widen cX0_widen 6 (some .boolean)]
def wsL_mostOn : List Cond := .codeWith yL_mostOn cL_mostOn 4 (some .int) [(0, 9, 12, 13)] :: ((wsL_mostOn_r1 ++ (wsL_mostOn_r2 ++ (wsL_mostOn_r3 ++ (wsL_mostOn_r4 ++ (wsL_mostOn_r5 ++ wsL_mostOn_r6))))) ++ wsX40 ++ wsX20 ++ wsX00 ++ (vx_at0 RX4 103 "java/lang/IndexOutOfBoundsException" ["java/lang/RuntimeException", "java/lang/Exception"]).filter goodWord)
def wsL_drivenOn_r1 : List Cond := [Cond.classLink RL 13 "java/lang/IndexOutOfBoundsException", Cond.methodLink RL 47 yX4_drivenOn, Cond.instanceMethod yX4_drivenOn, Cond.selects RX4 yX4_drivenOn yX4_drivenOn, Cond.initialized RX4, Cond.code yX4_drivenOn cX4_drivenOn 2 (some .int), Cond.fieldLink RX4 56 "ConvexConduit" "drivers" "LConvexConduit$Drivers;", Cond.fieldLink RX4 9 "ConvexConduit" "source" "I", Cond.fieldLink RX4 13 "ConvexConduit" "target" "I", Cond.fieldLink RX4 16 "ConvexConduit" "amount" "I", Cond.fieldLink RX4 143 "ConvexConduit$Drivers" "taken" "[I", Cond.methodLink RX4 80 yX4_refuseOtherThanArc, Cond.instanceMethod yX4_refuseOtherThanArc, Cond.selects RX4 yX4_refuseOtherThanArc yX4_refuseOtherThanArc, Cond.code yX4_refuseOtherThanArc cX4_refuseOtherThanArc 2 none, Cond.classLink RX4 101 "java/lang/IndexOutOfBoundsException", Cond.initialized "java/lang/IndexOutOfBoundsException", Cond.fieldLink RX4 33 "ConvexConduit" "network" "LConvexConduit$Network;", Cond.fieldLink RX4 70 "ConvexConduit$Network" "arcs" "I", Cond.methodLink RX4 134 yX1_comeOneByOne, Cond.instanceMethod yX1_comeOneByOne, Cond.selects RX1 yX1_comeOneByOne yX1_comeOneByOne, Cond.initialized RX1, Cond.code yX1_comeOneByOne cX1_comeOneByOne 5 none]
def wsL_drivenOn_r2 : List Cond := [Cond.fieldLink RX1 28 "ConvexConduit$Drivers" "network" "LConvexConduit$Network;", Cond.fieldLink RX1 32 "ConvexConduit$Network" "arcs" "I", Cond.fieldLink RX1 9 "ConvexConduit$Drivers" "taken" "[I", Cond.fieldLink RX1 18 "ConvexConduit$Drivers" "found" "I", Cond.fieldLink RX1 22 "ConvexConduit$Drivers" "paidByAll" "I", Cond.fieldLink RX1 25 "ConvexConduit$Drivers" "paidLast" "I", Cond.fieldLink RX1 15 "ConvexConduit$Drivers" "weightToTarget" "[I", Cond.constant RX1 41 (1000000), Cond.methodLink RX1 37 yX1_weighWaysTo, Cond.instanceMethod yX1_weighWaysTo, Cond.selects RX1 yX1_weighWaysTo yX1_weighWaysTo, Cond.code yX1_weighWaysTo cX1_weighWaysTo 6 none, Cond.fieldLink RX1 46 "ConvexConduit$Network" "nodes" "I", Cond.fieldLink RX1 53 "ConvexConduit$Network" "from" "[I", Cond.methodLink RX1 49 yX1_weightBy, Cond.instanceMethod yX1_weightBy, Cond.selects RX1 yX1_weightBy yX1_weightBy, Cond.code yX1_weightBy cX1_weightBy 2 (some .int), Cond.fieldLink RX1 56 "ConvexConduit$Network" "capacity" "[I", Cond.fieldLink RX1 59 "ConvexConduit$Network" "to" "[I", Cond.methodLink RX1 62 yX1_nextPrice, Cond.instanceMethod yX1_nextPrice, Cond.selects RX1 yX1_nextPrice yX1_nextPrice, Cond.code yX1_nextPrice cX1_nextPrice 2 (some .int)]
def wsL_drivenOn_r3 : List Cond := [Cond.methodLink RX1 68 yX2_unitPrice, Cond.instanceMethod yX2_unitPrice, Cond.selects RX2 yX2_unitPrice yX2_unitPrice, Cond.initialized RX2, Cond.code yX2_unitPrice cX2_unitPrice 3 (some .int), Cond.fieldLink RX2 25 "ConvexConduit$Network" "capacity" "[I", Cond.constant RX2 38 (1000000), Cond.fieldLink RX2 28 "ConvexConduit$Network" "prices" "[I", Cond.methodLink RX1 42 yX1_drive, Cond.instanceMethod yX1_drive, Cond.selects RX1 yX1_drive yX1_drive, Cond.code yX1_drive cX1_drive 7 (some .int), Cond.methodLink RX1 65 yX1_bestArcFrom, Cond.instanceMethod yX1_bestArcFrom, Cond.selects RX1 yX1_bestArcFrom yX1_bestArcFrom, Cond.code yX1_bestArcFrom cX1_bestArcFrom 3 (some .int)]
def wsL_drivenOn : List Cond := .codeWith yL_drivenOn cL_drivenOn 4 (some .int) [(0, 9, 12, 13)] :: ((wsL_drivenOn_r1 ++ (wsL_drivenOn_r2 ++ wsL_drivenOn_r3)) ++ wsX40 ++ wsX10 ++ wsX20 ++ (vx_at0 RX4 103 "java/lang/IndexOutOfBoundsException" ["java/lang/RuntimeException", "java/lang/Exception"]).filter goodWord)
def wsL_law0_r1 : List Cond := [Cond.classLink RL 8 RX4, Cond.instantiable RX4 7, Cond.initialized RX4, Cond.classLink RL 59 RX5, Cond.instantiable RX5 21, Cond.initialized RX5, Cond.arrayClass .long, Cond.methodLink RL 50 yL_cell, Cond.static yL_cell, Cond.initialized RL, Cond.code yL_cell cL_cell 2 (some .int), Cond.methodLink RL 56 yX4_init, Cond.instanceMethod yX4_init, Cond.code yX4_init cX4_init 2 none, Cond.methodLink RX4 3 objectInit, Cond.instanceMethod objectInit, Cond.code objectInit ⟨#[0xb1]⟩ 1 none, Cond.fieldLink RX4 9 "ConvexConduit" "source" "I", Cond.fieldLink RX4 13 "ConvexConduit" "target" "I", Cond.fieldLink RX4 16 "ConvexConduit" "amount" "I", Cond.classLink RX4 19 RX2, Cond.instantiable RX2 7, Cond.initialized RX2, Cond.methodLink RX4 21 Lib.Math.min.name]
def wsL_law0_r2 : List Cond := [Cond.static Lib.Math.min.name, Cond.initialized "java/lang/Math", Cond.code Lib.Math.min.name Lib.Math.min.code 2 (some .int), Cond.methodLink RX4 27 Lib.Math.max.name, Cond.static Lib.Math.max.name, Cond.code Lib.Math.max.name Lib.Math.max.code 2 (some .int), Cond.fieldLink RX4 33 "ConvexConduit" "network" "LConvexConduit$Network;", Cond.classLink RX4 37 RX0, Cond.instantiable RX0 6, Cond.initialized RX0, Cond.fieldLink RX4 42 "ConvexConduit" "cheapest" "LConvexConduit$CheapestFlow;", Cond.classLink RX4 46 RX3, Cond.instantiable RX3 4, Cond.initialized RX3, Cond.fieldLink RX4 49 "ConvexConduit" "circles" "LConvexConduit$UnitCircles;", Cond.classLink RX4 53 RX1, Cond.instantiable RX1 6, Cond.initialized RX1, Cond.fieldLink RX4 56 "ConvexConduit" "drivers" "LConvexConduit$Drivers;", Cond.methodLink RX4 30 yX2_init, Cond.instanceMethod yX2_init, Cond.code yX2_init cX2_init 2 none, Cond.methodLink RX2 3 objectInit, Cond.fieldLink RX2 9 "ConvexConduit$Network" "arcs" "I"]
def wsL_law0_r3 : List Cond := [Cond.arrayClass .int, Cond.fieldLink RX2 15 "ConvexConduit$Network" "from" "[I", Cond.fieldLink RX2 19 "ConvexConduit$Network" "to" "[I", Cond.fieldLink RX2 22 "ConvexConduit$Network" "pieces" "[I", Cond.fieldLink RX2 25 "ConvexConduit$Network" "capacity" "[I", Cond.fieldLink RX2 28 "ConvexConduit$Network" "prices" "[I", Cond.fieldLink RX2 31 "ConvexConduit$Network" "nodes" "I", Cond.methodLink RX4 39 yX0_init, Cond.instanceMethod yX0_init, Cond.code yX0_init cX0_init 2 none, Cond.methodLink RX0 3 objectInit, Cond.fieldLink RX0 9 "ConvexConduit$CheapestFlow" "on" "[I", Cond.fieldLink RX0 15 "ConvexConduit$CheapestFlow" "low" "[I", Cond.fieldLink RX0 18 "ConvexConduit$CheapestFlow" "high" "[I", Cond.fieldLink RX0 21 "ConvexConduit$CheapestFlow" "distance" "[I", Cond.fieldLink RX0 24 "ConvexConduit$CheapestFlow" "cameBy" "[I", Cond.fieldLink RX0 27 "ConvexConduit$CheapestFlow" "network" "LConvexConduit$Network;", Cond.methodLink RX4 48 yX3_init, Cond.instanceMethod yX3_init, Cond.code yX3_init cX3_init 2 none, Cond.methodLink RX3 3 objectInit, Cond.arrayClass .boolean, Cond.fieldLink RX3 9 "ConvexConduit$UnitCircles" "taken" "[Z", Cond.fieldLink RX3 15 "ConvexConduit$UnitCircles" "distance" "[I"]
def wsL_law0_r4 : List Cond := [Cond.fieldLink RX3 19 "ConvexConduit$UnitCircles" "cameBy" "[I", Cond.fieldLink RX3 22 "ConvexConduit$UnitCircles" "network" "LConvexConduit$Network;", Cond.methodLink RX4 55 yX1_init, Cond.instanceMethod yX1_init, Cond.code yX1_init cX1_init 2 none, Cond.methodLink RX1 3 objectInit, Cond.fieldLink RX1 9 "ConvexConduit$Drivers" "taken" "[I", Cond.fieldLink RX1 15 "ConvexConduit$Drivers" "weightToTarget" "[I", Cond.fieldLink RX1 18 "ConvexConduit$Drivers" "found" "I", Cond.fieldLink RX1 22 "ConvexConduit$Drivers" "paidByAll" "I", Cond.fieldLink RX1 25 "ConvexConduit$Drivers" "paidLast" "I", Cond.fieldLink RX1 28 "ConvexConduit$Drivers" "network" "LConvexConduit$Network;", Cond.methodLink RL 61 yX5_init, Cond.instanceMethod yX5_init, Cond.code yX5_init cX5_init 2 none, Cond.methodLink RX5 1 objectInit, Cond.fieldLink RX5 7 "ConvexConduitModel" "froms" "[I", Cond.fieldLink RX5 13 "ConvexConduitModel" "tos" "[I", Cond.fieldLink RX5 16 "ConvexConduitModel" "widths" "[I", Cond.fieldLink RX5 19 "ConvexConduitModel" "prices" "[I", Cond.fieldLink RX5 22 "ConvexConduitModel" "pieces" "[I", Cond.fieldLink RX5 25 "ConvexConduitModel" "target" "I", Cond.fieldLink RX5 29 "ConvexConduitModel" "least" "[I", Cond.fieldLink RX5 32 "ConvexConduitModel" "most" "[I"]
def wsL_law0_r5 : List Cond := [Cond.fieldLink RX5 35 "ConvexConduitModel" "on" "[I", Cond.fieldLink RX5 38 "ConvexConduitModel" "rest" "[I", Cond.fieldLink RX5 41 "ConvexConduitModel" "far" "[I", Cond.fieldLink RX5 44 "ConvexConduitModel" "over" "[I", Cond.fieldLink RX5 47 "ConvexConduitModel" "taken" "[I", Cond.fieldLink RX5 50 "ConvexConduitModel" "nodes" "I", Cond.methodLink RL 62 yL_arc, Cond.static yL_arc, Cond.codeWith yL_arc cL_arc 7 (some .int) [(0, 14, 17, 13), (0, 14, 21, 15), (0, 14, 25, 17)], Cond.classLink RL 13 "java/lang/IndexOutOfBoundsException", Cond.classLink RL 15 "java/lang/IllegalArgumentException", Cond.classLink RL 17 "java/lang/IllegalStateException", Cond.methodLink RL 7 yX4_arc, Cond.instanceMethod yX4_arc, Cond.selects RX4 yX4_arc yX4_arc, Cond.code yX4_arc cX4_arc 5 (some .int), Cond.classLink RX4 67 "java/lang/IllegalArgumentException", Cond.initialized "java/lang/IllegalArgumentException", Cond.classLink RX4 73 "java/lang/IllegalStateException", Cond.initialized "java/lang/IllegalStateException", Cond.fieldLink RX4 70 "ConvexConduit$Network" "arcs" "I", Cond.methodLink RX4 60 yX4_refuseOtherThanNode, Cond.instanceMethod yX4_refuseOtherThanNode, Cond.selects RX4 yX4_refuseOtherThanNode yX4_refuseOtherThanNode]
def wsL_law0_r6 : List Cond := [Cond.code yX4_refuseOtherThanNode cX4_refuseOtherThanNode 2 none, Cond.classLink RX4 101 "java/lang/IndexOutOfBoundsException", Cond.initialized "java/lang/IndexOutOfBoundsException", Cond.fieldLink RX4 98 "ConvexConduit$Network" "nodes" "I", Cond.methodLink RX4 63 yX4_isNoWidth, Cond.static yX4_isNoWidth, Cond.code yX4_isNoWidth cX4_isNoWidth 1 (some .boolean), Cond.methodLink RX4 76 yX2_addArc, Cond.instanceMethod yX2_addArc, Cond.selects RX2 yX2_addArc yX2_addArc, Cond.code yX2_addArc cX2_addArc 6 (some .int), Cond.methodLink RX2 34 yX2_addPiece, Cond.instanceMethod yX2_addPiece, Cond.selects RX2 yX2_addPiece yX2_addPiece, Cond.code yX2_addPiece cX2_addPiece 5 none, Cond.methodLink RL 65 yX5_arc, Cond.instanceMethod yX5_arc, Cond.selects RX5 yX5_arc yX5_arc, Cond.code yX5_arc cX5_arc 6 (some .int), Cond.fieldLink RX5 60 "ConvexConduitModel" "arcs" "I", Cond.methodLink RX5 56 yX5_in, Cond.static yX5_in, Cond.code yX5_in cX5_in 3 (some .boolean), Cond.methodLink RX5 63 yX5_isNode]
def wsL_law0_r7 : List Cond := [Cond.instanceMethod yX5_isNode, Cond.selects RX5 yX5_isNode yX5_isNode, Cond.code yX5_isNode cX5_isNode 2 (some .boolean), Cond.methodLink RX5 67 yX5_goesWell, Cond.instanceMethod yX5_goesWell, Cond.selects RX5 yX5_goesWell yX5_goesWell, Cond.code yX5_goesWell cX5_goesWell 2 (some .boolean), Cond.fieldLink RX5 53 "ConvexConduitModel" "thrown" "I", Cond.methodLink RX5 70 yX5_put, Cond.instanceMethod yX5_put, Cond.selects RX5 yX5_put yX5_put, Cond.code yX5_put cX5_put 4 none, Cond.methodLink RL 66 yX5_thrown, Cond.instanceMethod yX5_thrown, Cond.selects RX5 yX5_thrown yX5_thrown, Cond.code yX5_thrown cX5_thrown 1 (some .int), Cond.methodLink RL 70 yL_piece, Cond.static yL_piece, Cond.codeWith yL_piece cL_piece 6 (some .int) [(0, 12, 15, 13), (0, 12, 19, 15), (0, 12, 23, 17)], Cond.methodLink RL 19 yX4_piece, Cond.instanceMethod yX4_piece, Cond.selects RX4 yX4_piece yX4_piece, Cond.code yX4_piece cX4_piece 4 (some .int), Cond.fieldLink RX4 87 "ConvexConduit$Network" "pieces" "[I"]
def wsL_law0_r8 : List Cond := [Cond.fieldLink RX4 95 "ConvexConduit$Network" "capacity" "[I", Cond.methodLink RX4 80 yX4_refuseOtherThanArc, Cond.instanceMethod yX4_refuseOtherThanArc, Cond.selects RX4 yX4_refuseOtherThanArc yX4_refuseOtherThanArc, Cond.code yX4_refuseOtherThanArc cX4_refuseOtherThanArc 2 none, Cond.methodLink RX4 83 yX2_lastPrice, Cond.instanceMethod yX2_lastPrice, Cond.selects RX2 yX2_lastPrice yX2_lastPrice, Cond.code yX2_lastPrice cX2_lastPrice 2 (some .int), Cond.methodLink RX2 39 yX2_unitPrice, Cond.instanceMethod yX2_unitPrice, Cond.selects RX2 yX2_unitPrice yX2_unitPrice, Cond.code yX2_unitPrice cX2_unitPrice 3 (some .int), Cond.constant RX2 38 (1000000), Cond.methodLink RX4 91 yX2_addPiece, Cond.methodLink RL 73 yX5_piece, Cond.instanceMethod yX5_piece, Cond.selects RX5 yX5_piece yX5_piece, Cond.code yX5_piece cX5_piece 5 (some .int), Cond.methodLink RX5 74 yX5_isArc, Cond.instanceMethod yX5_isArc, Cond.selects RX5 yX5_isArc yX5_isArc, Cond.code yX5_isArc cX5_isArc 2 (some .boolean), Cond.methodLink RX5 77 yX5_capacityOf]
def wsL_law0_r9 : List Cond := [Cond.instanceMethod yX5_capacityOf, Cond.selects RX5 yX5_capacityOf yX5_capacityOf, Cond.code yX5_capacityOf cX5_capacityOf 4 (some .int), Cond.methodLink RL 74 yL_demand, Cond.static yL_demand, Cond.codeWith yL_demand cL_demand 5 (some .int) [(0, 7, 10, 13), (0, 7, 14, 15)], Cond.methodLink RL 23 yX4_demand, Cond.instanceMethod yX4_demand, Cond.selects RX4 yX4_demand yX4_demand, Cond.code yX4_demand cX4_demand 4 none, Cond.methodLink RL 77 yX5_demand, Cond.instanceMethod yX5_demand, Cond.selects RX5 yX5_demand yX5_demand, Cond.code yX5_demand cX5_demand 5 none, Cond.fieldLink RX5 81 "ConvexConduitModel" "source" "I", Cond.fieldLink RX5 84 "ConvexConduitModel" "amount" "I", Cond.methodLink RL 78 yX4_nodes, Cond.instanceMethod yX4_nodes, Cond.selects RX4 yX4_nodes yX4_nodes, Cond.code yX4_nodes cX4_nodes 1 (some .int), Cond.methodLink RL 81 yX5_nodes, Cond.instanceMethod yX5_nodes, Cond.selects RX5 yX5_nodes yX5_nodes, Cond.code yX5_nodes cX5_nodes 1 (some .int)]
def wsL_law0_r10 : List Cond := [Cond.methodLink RL 82 yX4_arcs, Cond.instanceMethod yX4_arcs, Cond.selects RX4 yX4_arcs yX4_arcs, Cond.code yX4_arcs cX4_arcs 1 (some .int), Cond.methodLink RL 85 yX5_arcs, Cond.instanceMethod yX5_arcs, Cond.selects RX5 yX5_arcs yX5_arcs, Cond.code yX5_arcs cX5_arcs 1 (some .int), Cond.methodLink RL 86 yL_capacity, Cond.static yL_capacity, Cond.codeWith yL_capacity cL_capacity 4 (some .int) [(0, 9, 12, 13)], Cond.methodLink RL 27 yX4_capacity, Cond.instanceMethod yX4_capacity, Cond.selects RX4 yX4_capacity yX4_capacity, Cond.code yX4_capacity cX4_capacity 2 (some .int), Cond.methodLink RL 89 yX5_capacity, Cond.instanceMethod yX5_capacity, Cond.selects RX5 yX5_capacity yX5_capacity, Cond.code yX5_capacity cX5_capacity 2 (some .int), Cond.methodLink RL 90 yL_price, Cond.static yL_price, Cond.codeWith yL_price cL_price 5 (some .int) [(0, 10, 13, 13)], Cond.methodLink RL 31 yX4_price, Cond.instanceMethod yX4_price]
def wsL_law0_r11 : List Cond := [Cond.selects RX4 yX4_price yX4_price, Cond.code yX4_price cX4_price 3 (some .int), Cond.methodLink RX4 104 yX2_unitPrice, Cond.methodLink RL 93 yX5_price, Cond.instanceMethod yX5_price, Cond.selects RX5 yX5_price yX5_price, Cond.code yX5_price cX5_price 4 (some .int), Cond.methodLink RX5 87 yX5_priceOf, Cond.instanceMethod yX5_priceOf, Cond.selects RX5 yX5_priceOf yX5_priceOf, Cond.code yX5_priceOf cX5_priceOf 5 (some .int), Cond.methodLink RL 94 yX4_most, Cond.instanceMethod yX4_most, Cond.selects RX4 yX4_most yX4_most, Cond.code yX4_most cX4_most 1 (some .int), Cond.methodLink RX4 107 yX0_greatestAmount, Cond.instanceMethod yX0_greatestAmount, Cond.selects RX0 yX0_greatestAmount yX0_greatestAmount, Cond.code yX0_greatestAmount cX0_greatestAmount 3 (some .int), Cond.methodLink RX0 31 yX0_empty, Cond.instanceMethod yX0_empty, Cond.selects RX0 yX0_empty yX0_empty, Cond.code yX0_empty cX0_empty 2 none, Cond.fieldLink RX0 45 "ConvexConduit$Network" "arcs" "I"]
def wsL_law0_r12 : List Cond := [Cond.fieldLink RX0 65 "ConvexConduit$Network" "capacity" "[I", Cond.methodLink RX0 42 yX0_send, Cond.instanceMethod yX0_send, Cond.selects RX0 yX0_send yX0_send, Cond.code yX0_send cX0_send 7 (some .int), Cond.methodLink RX0 71 yX0_spreadFrom, Cond.instanceMethod yX0_spreadFrom, Cond.selects RX0 yX0_spreadFrom yX0_spreadFrom, Cond.code yX0_spreadFrom cX0_spreadFrom 5 none, Cond.fieldLink RX0 82 "ConvexConduit$Network" "nodes" "I", Cond.methodLink RX0 102 yX2_steps, Cond.instanceMethod yX2_steps, Cond.selects RX2 yX2_steps yX2_steps, Cond.code yX2_steps cX2_steps 1 (some .int), Cond.methodLink RX0 115 yX0_widen, Cond.instanceMethod yX0_widen, Cond.selects RX0 yX0_widen yX0_widen, Cond.code yX0_widen cX0_widen 6 (some .boolean), Cond.methodLink RX0 93 yX2_start, Cond.instanceMethod yX2_start, Cond.selects RX2 yX2_start yX2_start, Cond.code yX2_start cX2_start 2 (some .int), Cond.methodLink RX2 43 yX2_goesAlong, Cond.static yX2_goesAlong]
def wsL_law0_r13 : List Cond := [Cond.code yX2_goesAlong cX2_goesAlong 1 (some .boolean), Cond.methodLink RX2 47 yX2_arcOf, Cond.static yX2_arcOf, Cond.code yX2_arcOf cX2_arcOf 1 (some .int), Cond.methodLink RX0 109 yX2_end, Cond.instanceMethod yX2_end, Cond.selects RX2 yX2_end yX2_end, Cond.code yX2_end cX2_end 2 (some .int), Cond.methodLink RX0 96 yX0_roomOf, Cond.instanceMethod yX0_roomOf, Cond.selects RX0 yX0_roomOf yX0_roomOf, Cond.code yX0_roomOf cX0_roomOf 3 (some .int), Cond.methodLink RX0 85 yX2_arcOf, Cond.methodLink RX0 89 yX2_goesAlong, Cond.methodLink RX0 38 yX0_sendOnWay, Cond.instanceMethod yX0_sendOnWay, Cond.selects RX0 yX0_sendOnWay yX0_sendOnWay, Cond.code yX0_sendOnWay cX0_sendOnWay 8 (some .int), Cond.methodLink RX0 77 Lib.Math.min.name, Cond.methodLink RX0 74 yX0_roomOnWay, Cond.instanceMethod yX0_roomOnWay, Cond.selects RX0 yX0_roomOnWay yX0_roomOnWay, Cond.code yX0_roomOnWay cX0_roomOnWay 7 (some .int), Cond.constant RX0 55 (1000000)]
def wsL_law0_r14 : List Cond := [Cond.methodLink RL 97 yX5_most, Cond.instanceMethod yX5_most, Cond.selects RX5 yX5_most yX5_most, Cond.code yX5_most cX5_most 2 (some .int), Cond.constant RX5 91 (1000000), Cond.methodLink RX5 106 yX5_open, Cond.instanceMethod yX5_open, Cond.selects RX5 yX5_open yX5_open, Cond.code yX5_open cX5_open 2 none, Cond.methodLink RX5 109 yX5_cheapest, Cond.instanceMethod yX5_cheapest, Cond.selects RX5 yX5_cheapest yX5_cheapest, Cond.code yX5_cheapest cX5_cheapest 8 (some .int), Cond.methodLink RX5 96 yX5_begin, Cond.instanceMethod yX5_begin, Cond.selects RX5 yX5_begin yX5_begin, Cond.code yX5_begin cX5_begin 6 (some .int), Cond.methodLink RX5 99 yX5_measure, Cond.instanceMethod yX5_measure, Cond.selects RX5 yX5_measure yX5_measure, Cond.code yX5_measure cX5_measure 3 none, Cond.methodLink RX5 92 yX5_steps, Cond.instanceMethod yX5_steps, Cond.selects RX5 yX5_steps yX5_steps]
def wsL_law0_r15 : List Cond := [Cond.code yX5_steps cX5_steps 5 (some .boolean), Cond.methodLink RX5 102 yX5_send, Cond.instanceMethod yX5_send, Cond.selects RX5 yX5_send yX5_send, Cond.code yX5_send cX5_send 5 none, Cond.methodLink RL 98 yX4_cost, Cond.instanceMethod yX4_cost, Cond.selects RX4 yX4_cost yX4_cost, Cond.code yX4_cost cX4_cost 1 (some .int), Cond.methodLink RX4 110 yX0_meet, Cond.instanceMethod yX0_meet, Cond.selects RX0 yX0_meet yX0_meet, Cond.code yX0_meet cX0_meet 5 (some .boolean), Cond.methodLink RX0 34 yX0_measureFrom, Cond.instanceMethod yX0_measureFrom, Cond.selects RX0 yX0_measureFrom yX0_measureFrom, Cond.code yX0_measureFrom cX0_measureFrom 3 none, Cond.methodLink RX0 99 yX0_measure, Cond.instanceMethod yX0_measure, Cond.selects RX0 yX0_measure yX0_measure, Cond.code yX0_measure cX0_measure 4 none, Cond.methodLink RX0 106 yX0_shorten, Cond.instanceMethod yX0_shorten, Cond.selects RX0 yX0_shorten yX0_shorten]
def wsL_law0_r16 : List Cond := [Cond.code yX0_shorten cX0_shorten 4 (some .boolean), Cond.methodLink RX0 112 yX0_priceOf, Cond.instanceMethod yX0_priceOf, Cond.selects RX0 yX0_priceOf yX0_priceOf, Cond.code yX0_priceOf cX0_priceOf 3 (some .int), Cond.methodLink RX0 51 yX2_unitPrice, Cond.methodLink RX4 114 yX0_totalPrice, Cond.instanceMethod yX0_totalPrice, Cond.selects RX0 yX0_totalPrice yX0_totalPrice, Cond.code yX0_totalPrice cX0_totalPrice 4 (some .int), Cond.methodLink RL 101 yX5_cost, Cond.instanceMethod yX5_cost, Cond.selects RX5 yX5_cost yX5_cost, Cond.code yX5_cost cX5_cost 1 (some .int), Cond.methodLink RX5 112 yX5_costOpen, Cond.instanceMethod yX5_costOpen, Cond.selects RX5 yX5_costOpen yX5_costOpen, Cond.code yX5_costOpen cX5_costOpen 2 (some .int), Cond.methodLink RL 102 yX4_costByCircles, Cond.instanceMethod yX4_costByCircles, Cond.selects RX4 yX4_costByCircles yX4_costByCircles, Cond.code yX4_costByCircles cX4_costByCircles 1 (some .int), Cond.methodLink RX4 118 yX3_leastPrice, Cond.instanceMethod yX3_leastPrice]
def wsL_law0_r17 : List Cond := [Cond.selects RX3 yX3_leastPrice yX3_leastPrice, Cond.code yX3_leastPrice cX3_leastPrice 5 (some .int), Cond.methodLink RX3 26 yX3_takeWay, Cond.instanceMethod yX3_takeWay, Cond.selects RX3 yX3_takeWay yX3_takeWay, Cond.code yX3_takeWay cX3_takeWay 5 (some .boolean), Cond.fieldLink RX3 37 "ConvexConduit$Network" "nodes" "I", Cond.constant RX3 43 (1000000), Cond.methodLink RX3 44 yX3_shortenAll, Cond.instanceMethod yX3_shortenAll, Cond.selects RX3 yX3_shortenAll yX3_shortenAll, Cond.code yX3_shortenAll cX3_shortenAll 10 (some .int), Cond.fieldLink RX3 60 "ConvexConduit$Network" "arcs" "I", Cond.fieldLink RX3 63 "ConvexConduit$Network" "capacity" "[I", Cond.fieldLink RX3 66 "ConvexConduit$Network" "to" "[I", Cond.fieldLink RX3 69 "ConvexConduit$Network" "from" "[I", Cond.methodLink RX3 72 yX2_unitPrice, Cond.methodLink RX3 48 yX3_turnBack, Cond.instanceMethod yX3_turnBack, Cond.selects RX3 yX3_turnBack yX3_turnBack, Cond.code yX3_turnBack cX3_turnBack 7 none, Cond.methodLink RX3 56 yX3_nodeBefore, Cond.instanceMethod yX3_nodeBefore, Cond.selects RX3 yX3_nodeBefore yX3_nodeBefore]
def wsL_law0_r18 : List Cond := [Cond.code yX3_nodeBefore cX3_nodeBefore 4 (some .int), Cond.methodLink RX3 30 yX3_takeOutCircles, Cond.instanceMethod yX3_takeOutCircles, Cond.selects RX3 yX3_takeOutCircles yX3_takeOutCircles, Cond.code yX3_takeOutCircles cX3_takeOutCircles 3 none, Cond.methodLink RX3 52 yX3_takeOutCircle, Cond.instanceMethod yX3_takeOutCircle, Cond.selects RX3 yX3_takeOutCircle yX3_takeOutCircle, Cond.code yX3_takeOutCircle cX3_takeOutCircle 4 (some .boolean), Cond.methodLink RX3 33 yX3_priceOfTaken, Cond.instanceMethod yX3_priceOfTaken, Cond.selects RX3 yX3_priceOfTaken yX3_priceOfTaken, Cond.code yX3_priceOfTaken cX3_priceOfTaken 4 (some .int), Cond.methodLink RL 105 yX5_costByCircles, Cond.instanceMethod yX5_costByCircles, Cond.selects RX5 yX5_costByCircles yX5_costByCircles, Cond.code yX5_costByCircles cX5_costByCircles 1 (some .int), Cond.methodLink RL 106 yL_more, Cond.static yL_more, Cond.codeWith yL_more cL_more 4 (some .int) [(0, 9, 12, 13)], Cond.methodLink RL 35 yX4_more, Cond.instanceMethod yX4_more, Cond.selects RX4 yX4_more yX4_more, Cond.code yX4_more cX4_more 2 (some .int)]
def wsL_law0_r19 : List Cond := [Cond.methodLink RX4 122 yX0_priceOfUnitMore, Cond.instanceMethod yX0_priceOfUnitMore, Cond.selects RX0 yX0_priceOfUnitMore yX0_priceOfUnitMore, Cond.code yX0_priceOfUnitMore cX0_priceOfUnitMore 3 (some .int), Cond.methodLink RL 108 yX5_more, Cond.instanceMethod yX5_more, Cond.selects RX5 yX5_more yX5_more, Cond.code yX5_more cX5_more 4 (some .int), Cond.methodLink RL 109 yL_flow, Cond.static yL_flow, Cond.codeWith yL_flow cL_flow 4 (some .int) [(0, 9, 12, 13)], Cond.methodLink RL 38 yX4_flow, Cond.instanceMethod yX4_flow, Cond.selects RX4 yX4_flow yX4_flow, Cond.code yX4_flow cX4_flow 3 (some .int), Cond.methodLink RX4 125 yX0_keepToCheapest, Cond.instanceMethod yX0_keepToCheapest, Cond.selects RX0 yX0_keepToCheapest yX0_keepToCheapest, Cond.code yX0_keepToCheapest cX0_keepToCheapest 5 none, Cond.fieldLink RX0 59 "ConvexConduit$Network" "to" "[I", Cond.fieldLink RX0 62 "ConvexConduit$Network" "from" "[I", Cond.methodLink RX0 56 yX0_measureFromAll, Cond.instanceMethod yX0_measureFromAll, Cond.selects RX0 yX0_measureFromAll yX0_measureFromAll]
def wsL_law0_r20 : List Cond := [Cond.code yX0_measureFromAll cX0_measureFromAll 2 none, Cond.methodLink RX4 128 yX0_lower, Cond.instanceMethod yX0_lower, Cond.selects RX0 yX0_lower yX0_lower, Cond.code yX0_lower cX0_lower 3 (some .int), Cond.methodLink RX0 68 yX0_hold, Cond.instanceMethod yX0_hold, Cond.selects RX0 yX0_hold yX0_hold, Cond.code yX0_hold cX0_hold 2 none, Cond.methodLink RL 111 yX5_flow, Cond.instanceMethod yX5_flow, Cond.selects RX5 yX5_flow yX5_flow, Cond.code yX5_flow cX5_flow 5 (some .int), Cond.methodLink RX5 116 yX5_fit, Cond.instanceMethod yX5_fit, Cond.selects RX5 yX5_fit yX5_fit, Cond.code yX5_fit cX5_fit 9 (some .int), Cond.methodLink RL 112 yL_leastOn, Cond.static yL_leastOn, Cond.codeWith yL_leastOn cL_leastOn 4 (some .int) [(0, 9, 12, 13)], Cond.methodLink RL 41 yX4_leastOn, Cond.instanceMethod yX4_leastOn, Cond.selects RX4 yX4_leastOn yX4_leastOn, Cond.code yX4_leastOn cX4_leastOn 2 (some .int)]
def wsL_law0_r21 : List Cond := [Cond.methodLink RL 114 yX5_leastOn, Cond.instanceMethod yX5_leastOn, Cond.selects RX5 yX5_leastOn yX5_leastOn, Cond.code yX5_leastOn cX5_leastOn 3 (some .int), Cond.methodLink RL 115 yL_mostOn, Cond.static yL_mostOn, Cond.codeWith yL_mostOn cL_mostOn 4 (some .int) [(0, 9, 12, 13)], Cond.methodLink RL 44 yX4_mostOn, Cond.instanceMethod yX4_mostOn, Cond.selects RX4 yX4_mostOn yX4_mostOn, Cond.code yX4_mostOn cX4_mostOn 2 (some .int), Cond.methodLink RX4 131 yX0_raise, Cond.instanceMethod yX0_raise, Cond.selects RX0 yX0_raise yX0_raise, Cond.code yX0_raise cX0_raise 3 (some .int), Cond.methodLink RL 117 yX5_mostOn, Cond.instanceMethod yX5_mostOn, Cond.selects RX5 yX5_mostOn yX5_mostOn, Cond.code yX5_mostOn cX5_mostOn 3 (some .int), Cond.methodLink RL 118 yX4_driven, Cond.instanceMethod yX4_driven, Cond.selects RX4 yX4_driven yX4_driven, Cond.code yX4_driven cX4_driven 1 (some .int), Cond.fieldLink RX4 137 "ConvexConduit$Drivers" "found" "I"]
def wsL_law0_r22 : List Cond := [Cond.fieldLink RX4 140 "ConvexConduit$Drivers" "paidByAll" "I", Cond.methodLink RX4 134 yX1_comeOneByOne, Cond.instanceMethod yX1_comeOneByOne, Cond.selects RX1 yX1_comeOneByOne yX1_comeOneByOne, Cond.code yX1_comeOneByOne cX1_comeOneByOne 5 none, Cond.fieldLink RX1 32 "ConvexConduit$Network" "arcs" "I", Cond.constant RX1 41 (1000000), Cond.methodLink RX1 37 yX1_weighWaysTo, Cond.instanceMethod yX1_weighWaysTo, Cond.selects RX1 yX1_weighWaysTo yX1_weighWaysTo, Cond.code yX1_weighWaysTo cX1_weighWaysTo 6 none, Cond.fieldLink RX1 46 "ConvexConduit$Network" "nodes" "I", Cond.fieldLink RX1 53 "ConvexConduit$Network" "from" "[I", Cond.methodLink RX1 49 yX1_weightBy, Cond.instanceMethod yX1_weightBy, Cond.selects RX1 yX1_weightBy yX1_weightBy, Cond.code yX1_weightBy cX1_weightBy 2 (some .int), Cond.fieldLink RX1 56 "ConvexConduit$Network" "capacity" "[I", Cond.fieldLink RX1 59 "ConvexConduit$Network" "to" "[I", Cond.methodLink RX1 62 yX1_nextPrice, Cond.instanceMethod yX1_nextPrice, Cond.selects RX1 yX1_nextPrice yX1_nextPrice, Cond.code yX1_nextPrice cX1_nextPrice 2 (some .int), Cond.methodLink RX1 68 yX2_unitPrice]
def wsL_law0_r23 : List Cond := [Cond.methodLink RX1 42 yX1_drive, Cond.instanceMethod yX1_drive, Cond.selects RX1 yX1_drive yX1_drive, Cond.code yX1_drive cX1_drive 7 (some .int), Cond.methodLink RX1 65 yX1_bestArcFrom, Cond.instanceMethod yX1_bestArcFrom, Cond.selects RX1 yX1_bestArcFrom yX1_bestArcFrom, Cond.code yX1_bestArcFrom cX1_bestArcFrom 3 (some .int), Cond.methodLink RL 121 yX5_driven, Cond.instanceMethod yX5_driven, Cond.selects RX5 yX5_driven yX5_driven, Cond.code yX5_driven cX5_driven 1 (some .int), Cond.fieldLink RX5 120 "ConvexConduitModel" "ways" "I", Cond.fieldLink RX5 123 "ConvexConduitModel" "paid" "I", Cond.methodLink RX5 139 yX5_drive, Cond.instanceMethod yX5_drive, Cond.selects RX5 yX5_drive yX5_drive, Cond.code yX5_drive cX5_drive 2 none, Cond.fieldLink RX5 126 "ConvexConduitModel" "latest" "I", Cond.methodLink RX5 129 yX5_lookBack, Cond.instanceMethod yX5_lookBack, Cond.selects RX5 yX5_lookBack yX5_lookBack, Cond.code yX5_lookBack cX5_lookBack 4 none, Cond.methodLink RX5 132 yX5_takeWay]
def wsL_law0_r24 : List Cond := [Cond.instanceMethod yX5_takeWay, Cond.selects RX5 yX5_takeWay yX5_takeWay, Cond.code yX5_takeWay cX5_takeWay 3 none, Cond.methodLink RX5 135 yX5_isNext, Cond.instanceMethod yX5_isNext, Cond.selects RX5 yX5_isNext yX5_isNext, Cond.code yX5_isNext cX5_isNext 4 (some .boolean), Cond.methodLink RL 122 yL_drivenOn, Cond.static yL_drivenOn, Cond.codeWith yL_drivenOn cL_drivenOn 4 (some .int) [(0, 9, 12, 13)], Cond.methodLink RL 47 yX4_drivenOn, Cond.instanceMethod yX4_drivenOn, Cond.selects RX4 yX4_drivenOn yX4_drivenOn, Cond.code yX4_drivenOn cX4_drivenOn 2 (some .int), Cond.fieldLink RX4 143 "ConvexConduit$Drivers" "taken" "[I", Cond.methodLink RL 124 yX5_drivenOn, Cond.instanceMethod yX5_drivenOn, Cond.selects RX5 yX5_drivenOn yX5_drivenOn, Cond.code yX5_drivenOn cX5_drivenOn 2 (some .int), Cond.methodLink RL 125 yX4_lastPaid, Cond.instanceMethod yX4_lastPaid, Cond.selects RX4 yX4_lastPaid yX4_lastPaid, Cond.code yX4_lastPaid cX4_lastPaid 1 (some .int), Cond.fieldLink RX4 146 "ConvexConduit$Drivers" "paidLast" "I"]
def wsL_law0_r25 : List Cond := [Cond.methodLink RL 128 yX5_lastPaid, Cond.instanceMethod yX5_lastPaid, Cond.selects RX5 yX5_lastPaid yX5_lastPaid, Cond.code yX5_lastPaid cX5_lastPaid 1 (some .int)]
def wsL_law0 : List Cond := (wsL_law0_r1 ++ (wsL_law0_r2 ++ (wsL_law0_r3 ++ (wsL_law0_r4 ++ (wsL_law0_r5 ++ (wsL_law0_r6 ++ (wsL_law0_r7 ++ (wsL_law0_r8 ++ (wsL_law0_r9 ++ (wsL_law0_r10 ++ (wsL_law0_r11 ++ (wsL_law0_r12 ++ (wsL_law0_r13 ++ (wsL_law0_r14 ++ (wsL_law0_r15 ++ (wsL_law0_r16 ++ (wsL_law0_r17 ++ (wsL_law0_r18 ++ (wsL_law0_r19 ++ (wsL_law0_r20 ++ (wsL_law0_r21 ++ (wsL_law0_r22 ++ (wsL_law0_r23 ++ (wsL_law0_r24 ++ wsL_law0_r25)))))))))))))))))))))))) ++ wsX40 ++ wsX50 ++ wsX20 ++ wsX00 ++ wsX30 ++ wsX10 ++ ([] : List Cond)
def wsL_law : List Cond := wsL_law0 ++ (vx_at0 RX4 69 "java/lang/IllegalArgumentException" ["java/lang/RuntimeException", "java/lang/Exception"]).filter goodWord ++ (vx_at0 RX4 75 "java/lang/IllegalStateException" ["java/lang/RuntimeException", "java/lang/Exception"]).filter goodWord ++ (vx_at0 RX4 103 "java/lang/IndexOutOfBoundsException" ["java/lang/RuntimeException", "java/lang/Exception"]).filter goodWord
abbrev vwCl : List vw_C := [(RX0, TX0, 6), (RX1, TX1, 6), (RX2, TX2, 7), (RX3, TX3, 4), (RX4, TX4, 7), (RX5, TX5, 21)]
end
section
/-! rows of my own: option-valued pictures of methods, and the kit's rows bound to them -/
def rd (n : Nat) (f : Nat → Int32) (i : Int32) : Option Int32 := if i < 0 ∨ n ≤ i.toNatClampNeg then none else some (f i.toNatClampNeg)
def wr (n : Nat) (f : Nat → Int32) (i x : Int32) : Option (Nat → Int32) := if i < 0 ∨ n ≤ i.toNatClampNeg then none else some (upd f i.toNatClampNeg x)
def b2i : Bool → Int32
  | true => 1
  | false => 0
def imin (x y : Int32) : Int32 := if y < x then y else x
def imax (x y : Int32) : Int32 := if x < y then y else x
def lp {S R : Type} (step : S → Option (R ⊕ S)) : Nat → S → Option R
  | 0, _ => none
  | n + 1, s => (step s).bind (fun o => match o with
    | .inl r => some r
    | .inr s' => lp step n s')
def lpk {S R : Type} (step : S → Option (R ⊕ S)) (n : Nat) : R ⊕ S → Option R
  | .inl r => some r
  | .inr s' => lp step n s'
theorem bd {α β : Type} {x : Option α} {f : α → Option β} {b : β} (h : x.bind f = some b) : ∃ a, x = some a ∧ f a = some b := by
  cases x with
  | none => cases h
  | some a => exact ⟨a, rfl, h⟩
theorem lps {S R : Type} {step : S → Option (R ⊕ S)} {n : Nat} {s : S} {r : R} (h : lp step (n + 1) s = some r) : ∃ o, step s = some o ∧ lpk step n o = some r := by
  obtain ⟨o, h1, h2⟩ := bd (show (step s).bind _ = some r from h)
  refine ⟨o, h1, ?_⟩
  cases o <;> exact h2
theorem lp0 {S R : Type} {step : S → Option (R ⊕ S)} {s : S} {r : R} {P : Prop} (h : lp step 0 s = some r) : P := by cases h
theorem lpx {S R : Type} {step : S → Option (R ⊕ S)} {n : Nat} {x r : R} (h : lpk step n (.inl x) = some r) : x = r := Option.some.inj h
def un2 {A B R : Type} (f : A → B → R) : A × B → R := fun s => f s.1 s.2
def un3 {A B C R : Type} (f : A → B → C → R) : A × B × C → R := fun s => f s.1 s.2.1 s.2.2
def un4 {A B C D R : Type} (f : A → B → C → D → R) : A × B × C × D → R := fun s => f s.1 s.2.1 s.2.2.1 s.2.2.2
def un5 {A B C D E R : Type} (f : A → B → C → D → E → R) : A × B × C × D × E → R := fun s => f s.1 s.2.1 s.2.2.1 s.2.2.2.1 s.2.2.2.2
def un6 {A B C D E F R : Type} (f : A → B → C → D → E → F → R) : A × B × C × D × E × F → R := fun s => f s.1 s.2.1 s.2.2.1 s.2.2.2.1 s.2.2.2.2.1 s.2.2.2.2.2
def un7 {A B C D E F G R : Type} (f : A → B → C → D → E → F → G → R) : A × B × C × D × E × F × G → R := fun s => f s.1 s.2.1 s.2.2.1 s.2.2.2.1 s.2.2.2.2.1 s.2.2.2.2.2.1 s.2.2.2.2.2.2
def bnd2 {A B R : Type} (x : Option (A × B)) (f : A → B → Option R) : Option R := x.bind (un2 f)
def bnd3 {A B C R : Type} (x : Option (A × B × C)) (f : A → B → C → Option R) : Option R := x.bind (un3 f)
def bnd4 {A B C D R : Type} (x : Option (A × B × C × D)) (f : A → B → C → D → Option R) : Option R := x.bind (un4 f)
def bnd5 {A B C D E R : Type} (x : Option (A × B × C × D × E)) (f : A → B → C → D → E → Option R) : Option R := x.bind (un5 f)
def bnd6 {A B C D E F R : Type} (x : Option (A × B × C × D × E × F)) (f : A → B → C → D → E → F → Option R) : Option R := x.bind (un6 f)
def bnd7 {A B C D E F G R : Type} (x : Option (A × B × C × D × E × F × G)) (f : A → B → C → D → E → F → G → Option R) : Option R := x.bind (un7 f)
theorem bd2 {A B R : Type} {x : Option (A × B)} {f : A → B → Option R} {r : R} (h : bnd2 x f = some r) : ∃ a b, x = some (a, b) ∧ f a b = some r := by
  obtain ⟨⟨a, b⟩, h1, h2⟩ := bd h
  exact ⟨a, b, h1, h2⟩
theorem bd3 {A B C R : Type} {x : Option (A × B × C)} {f : A → B → C → Option R} {r : R} (h : bnd3 x f = some r) : ∃ a b c, x = some (a, b, c) ∧ f a b c = some r := by
  obtain ⟨⟨a, b, c⟩, h1, h2⟩ := bd h
  exact ⟨a, b, c, h1, h2⟩
theorem bd4 {A B C D R : Type} {x : Option (A × B × C × D)} {f : A → B → C → D → Option R} {r : R} (h : bnd4 x f = some r) : ∃ a b c d, x = some (a, b, c, d) ∧ f a b c d = some r := by
  obtain ⟨⟨a, b, c, d⟩, h1, h2⟩ := bd h
  exact ⟨a, b, c, d, h1, h2⟩
theorem bd5 {A B C D E R : Type} {x : Option (A × B × C × D × E)} {f : A → B → C → D → E → Option R} {r : R} (h : bnd5 x f = some r) : ∃ a b c d e, x = some (a, b, c, d, e) ∧ f a b c d e = some r := by
  obtain ⟨⟨a, b, c, d, e⟩, h1, h2⟩ := bd h
  exact ⟨a, b, c, d, e, h1, h2⟩
theorem bd6 {A B C D E F R : Type} {x : Option (A × B × C × D × E × F)} {f : A → B → C → D → E → F → Option R} {r : R} (h : bnd6 x f = some r) : ∃ a b c d e f', x = some (a, b, c, d, e, f') ∧ f a b c d e f' = some r := by
  obtain ⟨⟨a, b, c, d, e, g⟩, h1, h2⟩ := bd h
  exact ⟨a, b, c, d, e, g, h1, h2⟩
theorem bd7 {A B C D E F G R : Type} {x : Option (A × B × C × D × E × F × G)} {f : A → B → C → D → E → F → G → Option R} {r : R} (h : bnd7 x f = some r) : ∃ a b c d e f' g, x = some (a, b, c, d, e, f', g) ∧ f a b c d e f' g = some r := by
  obtain ⟨⟨a, b, c, d, e, g, k⟩, h1, h2⟩ := bd h
  exact ⟨a, b, c, d, e, g, k, h1, h2⟩
/-- behind a loop that may also return: an exit goes on, a return is the answer -/
def sel {S R : Type} (f : S → Option R) : S ⊕ R → Option R
  | .inl s => f s
  | .inr r => some r
theorem ipos {c : Prop} [Decidable c] {α : Type} {a b r : α} (hc : c) (h : (if c then a else b) = r) : a = r := by rw [if_pos hc] at h; exact h
theorem ineg {c : Prop} [Decidable c] {α : Type} {a b r : α} (hc : ¬ c) (h : (if c then a else b) = r) : b = r := by rw [if_neg hc] at h; exact h
theorem rdE {n : Nat} {f : Nat → Int32} {i t : Int32} (h : rd n f i = some t) : vp_in i n ∧ f i.toNatClampNeg = t := by
  unfold rd at h
  by_cases hc : i < 0 ∨ n ≤ i.toNatClampNeg
  · rw [if_pos hc] at h; cases h
  · rw [if_neg hc] at h; exact ⟨hc, Option.some.inj h⟩
theorem wrE {n : Nat} {f g : Nat → Int32} {i x : Int32} (h : wr n f i x = some g) : vp_in i n ∧ upd f i.toNatClampNeg x = g := by
  unfold wr at h
  by_cases hc : i < 0 ∨ n ≤ i.toNatClampNeg
  · rw [if_pos hc] at h; cases h
  · rw [if_neg hc] at h; exact ⟨hc, Option.some.inj h⟩
abbrev zPre (D : va_G) (ws : va_W) (tys : List (ClassId × FieldType)) (sz : Nat) : State → Prop := fun U => U.heap.size = sz ∧ va_P D vwCl ws U.heap ∧ va_K D vwCl tys U ∧ va_D (fun _ => True) ws
abbrev zB (D : va_G) (ws : va_W) (tys : List (ClassId × FieldType)) (A : Nat → Prop) : Unit → State → Prop := fun _ t => va_P D vwCl ws t.heap ∧ va_K D vwCl tys t ∧ va_D A ws
abbrev zQi (D : va_G) (ws : va_W) (tys : List (ClassId × FieldType)) (ret : Int32) (A : Nat → Prop) : Array Value → State → Outcome → State → Prop := va_Qi (fun (r : Int32) (_ : Unit) => r = ret) (zB D ws tys A) A
abbrev zQv (D : va_G) (ws : va_W) (tys : List (ClassId × FieldType)) (A : Nat → Prop) : Array Value → State → Outcome → State → Prop := va_Qv (fun (_ : Unit) => True) (zB D ws tys A) A
theorem zBlind {D : va_G} {ws : va_W} {tys : List (ClassId × FieldType)} {sz : Nat} {av : List Value} : FrameBlind (va_Pc av (zPre D ws tys sz)) := by
  intro a U g mk q
  obtain ⟨q0, q1, qP, qK, qD⟩ := q
  exact ⟨q0, q1, qP, va_K.moved (u := U) (U := U.calling g mk a) (Vm.Alike.refl U.vm) qK, qD⟩
theorem fm_of_map {α β : Type} {f : α → Option β} : ∀ {l : List α} {r : List β}, l.map f = r.map some → l.filterMap f = r := by
  intro l
  induction l with
  | nil => intro r h; cases r with
    | nil => rfl
    | cons => cases h
  | cons a l ih => intro r h; cases r with
    | nil => cases h
    | cons b r =>
      rw [List.map_cons, List.map_cons] at h
      obtain ⟨h1, h2⟩ := List.cons.inj h
      rw [List.filterMap_cons, h1, ih h2]
section QW
variable {p : Program} {l : Launch} {e : Env} {R : Room} {s : State} {m : MethodId} {args : Array Value} {below : List Frame} {meth : Method} {c : Code} {H : Heap} {locs : List Loc} {cells slots : Nat} {Q : State → Prop}
variable {cc : ByteArray} {pc : Nat} {ls : Array Slot} {rest : List Value} {D : va_G} {ws : va_W} {tys : List (ClassId × FieldType)} {a : Nat} {A A0 : Nat → Prop} {H0 : Heap}
theorem q_iald (hexec : p.tables.exec = Jvm.exec) (hb : c.code = cc) (hK : va_K D vwCl tys s) (hP : va_P D vwCl ws H) (q0 t0 : Nat) {cA : ClassId} {n : Nat} {f : Nat → Int32} (ha : ws[q0]? = some (a, .inl (cA, n, .inl f))) (ht : tys[t0]? = some (cA, .int)) {i t : Int32} (hr : rd n f i = some t) (hdg : decode cc pc = .ok (.iaload, 1))
    (kk : W p l e R s m args below meth c H locs cells slots Q (F0 m (pc + 1) ls (.int t :: rest))) : W p l e R s m args below meth c H locs cells slots Q (F0 m pc ls (.int i :: .ref a :: rest)) := by
  obtain ⟨h1, h2⟩ := rdE hr
  exact va_iald hexec hb hK hP q0 t0 ha ht h1 hdg (by rw [h2]; exact kk)
theorem q_zald (hexec : p.tables.exec = Jvm.exec) (hb : c.code = cc) (hK : va_K D vwCl tys s) (hP : va_P D vwCl ws H) (q0 t0 : Nat) {cA : ClassId} {n : Nat} {f : Nat → Int32} (ha : ws[q0]? = some (a, .inl (cA, n, .inl f))) (ht : tys[t0]? = some (cA, .boolean)) {i t : Int32} (hr : rd n f i = some t) (hdg : decode cc pc = .ok (.baload, 1))
    (kk : W p l e R s m args below meth c H locs cells slots Q (F0 m (pc + 1) ls (.int t :: rest))) : W p l e R s m args below meth c H locs cells slots Q (F0 m pc ls (.int i :: .ref a :: rest)) := by
  obtain ⟨h1, h2⟩ := rdE hr
  exact va_zald hexec hb hK hP q0 t0 ha ht h1 hdg (by rw [h2]; exact kk)
theorem q_iast (hexec : p.tables.exec = Jvm.exec) (hb : c.code = cc) (hK : va_K D vwCl tys s) (hP : va_P D vwCl ws H) (hD : va_D A ws) (hS : va_S A H0 H locs) (q0 t0 : Nat) {cA : ClassId} {n : Nat} {f g : Nat → Int32} (ha : ws[q0]? = some (a, .inl (cA, n, .inl f))) (ht : tys[t0]? = some (cA, .int)) {i x : Int32} (hr : wr n f i x = some g) (hdg : decode cc pc = .ok (.iastore, 1)) {ws2 : va_W} (hw : ws.set q0 (a, .inl (cA, n, .inl g)) = ws2)
    (kk : ∀ (H1 : Heap) (locs1 : List Loc), va_P D vwCl ws2 H1 → va_D A ws2 → va_S A H0 H1 locs1 → W p l e R s m args below meth c H1 locs1 cells slots Q (F0 m (pc + 1) ls rest)) : W p l e R s m args below meth c H locs cells slots Q (F0 m pc ls (.int x :: .int i :: .ref a :: rest)) := by
  obtain ⟨h1, h2⟩ := wrE hr
  subst hw
  exact va_iast hexec hb hK hP hD hS q0 t0 ha ht h1 hdg (fun H1 locs1 a1 a2 a3 => kk H1 locs1 (by rw [← h2]; exact a1) (by rw [← h2]; exact a2) a3)
theorem q_zast (hexec : p.tables.exec = Jvm.exec) (hb : c.code = cc) (hK : va_K D vwCl tys s) (hP : va_P D vwCl ws H) (hD : va_D A ws) (hS : va_S A H0 H locs) (q0 t0 : Nat) {cA : ClassId} {n : Nat} {f g : Nat → Int32} (ha : ws[q0]? = some (a, .inl (cA, n, .inl f))) (ht : tys[t0]? = some (cA, .boolean)) {i x : Int32} (hx : vp_nar .boolean x = x) (hr : wr n f i x = some g) (hdg : decode cc pc = .ok (.bastore, 1)) {ws2 : va_W} (hw : ws.set q0 (a, .inl (cA, n, .inl g)) = ws2)
    (kk : ∀ (H1 : Heap) (locs1 : List Loc), va_P D vwCl ws2 H1 → va_D A ws2 → va_S A H0 H1 locs1 → W p l e R s m args below meth c H1 locs1 cells slots Q (F0 m (pc + 1) ls rest)) : W p l e R s m args below meth c H locs cells slots Q (F0 m pc ls (.int x :: .int i :: .ref a :: rest)) := by
  obtain ⟨h1, h2⟩ := wrE hr
  subst hw
  exact va_zast hexec hb hK hP hD hS q0 t0 ha ht h1 hdg (fun H1 locs1 a1 a2 a3 => kk H1 locs1 (by rw [hx] at a1; rw [← h2]; exact a1) (by rw [hx] at a2; rw [← h2]; exact a2) a3)
theorem q_iret {ret : Int32} {w1 : va_W} (hQ : Q = MQ below (zQi D w1 tys ret A) args s cells slots A) (hexec : p.tables.exec = Jvm.exec) (hb : c.code = cc) (hr : meth.sig.returnType = some .int) (hlocks : meth.locks = false) (hP : va_P D vwCl w1 H) (hK : va_K D vwCl tys s) (hD : va_D A w1) (hS : va_S A s.heap H locs) (hdg : decode cc pc = .ok (.ireturn, 1)) : W p l e R s m args below meth c H locs cells slots Q (F0 m pc ls [.int ret]) := by
  subst hQ
  exact W.iret (v := ret) hexec hb hr (fun t ht hW => ⟨⟨ret, (), rfl, rfl, by rw [ht]; exact hP, va_K.moved hW.alike hK, hD⟩, hS.F ht⟩) hS.2.2 hdg hlocks
theorem q_zret {b : Bool} {w1 : va_W} (hQ : Q = MQ below (zQi D w1 tys (b2i b) A) args s cells slots A) (hexec : p.tables.exec = Jvm.exec) (hb : c.code = cc) (hr : meth.sig.returnType = some .boolean) (hlocks : meth.locks = false) (hP : va_P D vwCl w1 H) (hK : va_K D vwCl tys s) (hD : va_D A w1) (hS : va_S A s.heap H locs) (hdg : decode cc pc = .ok (.ireturn, 1)) : W p l e R s m args below meth c H locs cells slots Q (F0 m pc ls [.int (b2i b)]) := by
  subst hQ
  exact W.zret (v := b2i b) hexec hb hr (by cases b <;> rfl) (fun t ht hW => ⟨⟨b2i b, (), rfl, rfl, by rw [ht]; exact hP, va_K.moved hW.alike hK, hD⟩, hS.F ht⟩) hS.2.2 hdg hlocks
theorem q_vret {w1 : va_W} (hQ : Q = MQ below (zQv D w1 tys A) args s cells slots A) (hexec : p.tables.exec = Jvm.exec) (hb : c.code = cc) (hr : meth.sig.returnType = none) (hlocks : meth.locks = false) (hP : va_P D vwCl w1 H) (hK : va_K D vwCl tys s) (hD : va_D A w1) (hS : va_S A s.heap H locs) (hdg : decode cc pc = .ok (.return_, 1)) : W p l e R s m args below meth c H locs cells slots Q (F0 m pc ls []) := by
  subst hQ
  exact W.vret hexec hb hr (fun t ht hW => ⟨⟨(), rfl, trivial, by rw [ht]; exact hP, va_K.moved hW.alike hK, hD⟩, hS.F ht⟩) hS.2.2 hdg hlocks
variable {y : MethodName} {bytes : ByteArray} {maxL nL n index : Nat} {rt : Option FieldType} {wsY : List Cond} {rm : Room} {Ts : List Cond} {own C : String} {b : Nat} {As : List Value} {wc w1 ws2 : va_W} {tysc : List (ClassId × FieldType)} {ret : Int32} {st : List Value}
theorem q_callVi (S : CallFix p m c cc nL s args Ts own) (hM : Met l y wsY rm (va_Pc (.ref b :: As) (zPre D wc tysc H.size)) (zQi D w1 tysc ret (va_A wc H.size)) 0 0 (va_A wc H.size))
    (cw : CallW R s args own C index y bytes maxL rt wsY rm 0 0 n) (hK : va_K D vwCl tys s) (hP : va_P D vwCl ws H) (hD : va_D A0 ws) (hS : va_S A0 H0 H locs) (hA : ∀ q, H0.size ≤ q → A0 q)
    (isC isR isP isT : List Nat) (hC : isC.map (fun i => ws[i]?) = wc.map some) (hnC : va_nd isC = true) (hR : isR.map (fun i => ws[i]?) = (isR.filterMap (fun i => ws[i]?)).map some) (hnR : va_nd isR = true) (hdis : ∀ i ∈ isR, i ∉ isC)
    (hp : isP.map (fun i => (isR.filterMap (fun i => ws[i]?) ++ w1)[i]?) = ws2.map some) (hnP : va_nd isP = true) (hT : isT.filterMap (fun i => tys[i]?) = tysc)
    (ci q0 : Nat) {T : u_T} {N : Nat} {fs : List Value} (hcl : vwCl[ci]? = some (C, T, N)) (hrec : wc[q0]? = some (b, .inr (ci, fs)))
    (hn : As.length = n) (hsize : ls.size = nL) (hW : (rest.map fun v => v.category).sum ≤ 8) (hfc : cells ≤ R.cells) (hfs : slots ≤ R.slots) (hst : st = As.reverse ++ .ref b :: rest) (hdg : decode cc pc = .ok (.invokevirtual index, 3))
    (kk : ∀ (H1 : Heap) (locs1 : List Loc), va_P D vwCl ws2 H1 → va_D A0 ws2 → va_S A0 H0 H1 locs1 → W p l e R s m args below meth c H1 locs1 cells slots Q (F0 m (pc + 3) ls (.int ret :: rest))) : W p l e R s m args below meth c H locs cells slots Q (F0 m pc ls st) := by
  have hPc : va_P D vwCl wc H := hP.sub isC (fm_of_map hC)
  have hDc : va_D A0 wc := hD.sub isC hnC hC
  have hKc := hK.sub isT hT
  have hFc := va_free hD hS hA isC hC
  refine va_calli (va_runV S hM cw ⟨zBlind, va_recv hKc hPc hcl hrec, fun U hU hW => ⟨rfl, by rw [hU], by rw [hU]; exact hPc, va_K.moved hW.alike hKc, hDc.weaken (fun _ _ _ _ => trivial)⟩⟩ rfl hn hsize hst (lv_room hW) hdg ⟨hfc, hfs⟩) hS (fun q _ h => hFc q h) hFc (fun r u t H1 locs1 ht hvm hw hB hz1 hk1 hS1 => ?_)
  obtain ⟨hP1, hK1, hD1⟩ := hB
  rw [ht] at hP1
  obtain ⟨hP2, hD2⟩ := va_join hP hD isC isR hC hR hnR hdis hk1 hFc hP1 hD1
  have hw : r = ret := hw
  rw [hw]
  exact kk H1 locs1 (hP2.sub isP (fm_of_map hp)) (hD2.sub isP hnP hp) hS1
theorem q_callVv (S : CallFix p m c cc nL s args Ts own) (hM : Met l y wsY rm (va_Pc (.ref b :: As) (zPre D wc tysc H.size)) (zQv D w1 tysc (va_A wc H.size)) 0 0 (va_A wc H.size))
    (cw : CallW R s args own C index y bytes maxL rt wsY rm 0 0 n) (hK : va_K D vwCl tys s) (hP : va_P D vwCl ws H) (hD : va_D A0 ws) (hS : va_S A0 H0 H locs) (hA : ∀ q, H0.size ≤ q → A0 q)
    (isC isR isP isT : List Nat) (hC : isC.map (fun i => ws[i]?) = wc.map some) (hnC : va_nd isC = true) (hR : isR.map (fun i => ws[i]?) = (isR.filterMap (fun i => ws[i]?)).map some) (hnR : va_nd isR = true) (hdis : ∀ i ∈ isR, i ∉ isC)
    (hp : isP.map (fun i => (isR.filterMap (fun i => ws[i]?) ++ w1)[i]?) = ws2.map some) (hnP : va_nd isP = true) (hT : isT.filterMap (fun i => tys[i]?) = tysc)
    (ci q0 : Nat) {T : u_T} {N : Nat} {fs : List Value} (hcl : vwCl[ci]? = some (C, T, N)) (hrec : wc[q0]? = some (b, .inr (ci, fs)))
    (hn : As.length = n) (hsize : ls.size = nL) (hW : (rest.map fun v => v.category).sum ≤ 8) (hfc : cells ≤ R.cells) (hfs : slots ≤ R.slots) (hst : st = As.reverse ++ .ref b :: rest) (hdg : decode cc pc = .ok (.invokevirtual index, 3))
    (kk : ∀ (H1 : Heap) (locs1 : List Loc), va_P D vwCl ws2 H1 → va_D A0 ws2 → va_S A0 H0 H1 locs1 → W p l e R s m args below meth c H1 locs1 cells slots Q (F0 m (pc + 3) ls rest)) : W p l e R s m args below meth c H locs cells slots Q (F0 m pc ls st) := by
  have hPc : va_P D vwCl wc H := hP.sub isC (fm_of_map hC)
  have hDc : va_D A0 wc := hD.sub isC hnC hC
  have hKc := hK.sub isT hT
  have hFc := va_free hD hS hA isC hC
  refine va_callv (va_runV S hM cw ⟨zBlind, va_recv hKc hPc hcl hrec, fun U hU hW => ⟨rfl, by rw [hU], by rw [hU]; exact hPc, va_K.moved hW.alike hKc, hDc.weaken (fun _ _ _ _ => trivial)⟩⟩ rfl hn hsize hst (lv_room hW) hdg ⟨hfc, hfs⟩) hS (fun q _ h => hFc q h) hFc (fun u t H1 locs1 ht hvm hw hB hz1 hk1 hS1 => ?_)
  obtain ⟨hP1, hK1, hD1⟩ := hB
  rw [ht] at hP1
  obtain ⟨hP2, hD2⟩ := va_join hP hD isC isR hC hR hnR hdis hk1 hFc hP1 hD1
  exact kk H1 locs1 (hP2.sub isP (fm_of_map hp)) (hD2.sub isP hnP hp) hS1
/-- a static method that knows no cell -/
theorem q_callSi (S : CallFix p m c cc nL s args Ts own) (hM : Met l y wsY rm (va_Pc As (zPre D [] [] H.size)) (zQi D [] [] ret (va_A [] H.size)) 0 0 (va_A [] H.size))
    (cw : CallB R s args own index y bytes maxL rt wsY rm 0 0 n ∧ (Cond.static y).before args s = true) (hK : va_K D vwCl tys s) (hP : va_P D vwCl ws H) (hD : va_D A0 ws) (hS : va_S A0 H0 H locs) (hA : ∀ q, H0.size ≤ q → A0 q)
    (isR : List Nat) (hR : isR.map (fun i => ws[i]?) = ws.map some) (hnR : va_nd isR = true)
    (hn : As.length = n) (hsize : ls.size = nL) (hW : (rest.map fun v => v.category).sum ≤ 8) (hfc : cells ≤ R.cells) (hfs : slots ≤ R.slots) (hst : st = As.reverse ++ rest) (hdg : decode cc pc = .ok (.invokestatic index, 3))
    (kk : ∀ (H1 : Heap) (locs1 : List Loc), va_P D vwCl ws H1 → va_D A0 ws → va_S A0 H0 H1 locs1 → W p l e R s m args below meth c H1 locs1 cells slots Q (F0 m (pc + 3) ls (.int ret :: rest))) : W p l e R s m args below meth c H locs cells slots Q (F0 m pc ls st) := by
  have hKc := hK.sub (tys' := []) [] rfl
  have hFc := va_free (wc := []) hD hS hA [] rfl
  have hPc : va_P D vwCl [] H := hP.sub [] rfl
  have hDc : va_D A0 [] := hD.sub [] rfl rfl
  refine va_calli (va_runS S hM cw ⟨zBlind, fun U hU hW => ⟨rfl, by rw [hU], by rw [hU]; exact hPc, va_K.moved hW.alike hKc, hDc.weaken (fun _ _ _ _ => trivial)⟩⟩ rfl hn hsize hst (lv_room hW) hdg ⟨hfc, hfs⟩) hS (fun q _ h => hFc q h) hFc (fun r u t H1 locs1 ht hvm hw hB hz1 hk1 hS1 => ?_)
  obtain ⟨hP1, hK1, hD1⟩ := hB
  rw [ht] at hP1
  obtain ⟨hP2, hD2⟩ := va_join (wr := ws) hP hD [] isR rfl hR hnR (fun _ _ h => by cases h) hk1 hFc hP1 hD1
  have hw : r = ret := hw
  rw [hw]
  rw [List.append_nil] at hP2 hD2
  exact kk H1 locs1 hP2 hD2 hS1
end QW
theorem q_ofWi {l : Launch} {y : MethodName} {ws ws' : List Cond} {rm : Room} {cc : ByteArray} {maxL : Nat} {rt : Option FieldType} {av : List Value} {D : va_G} {W0 w1 : va_W} {tys : List (ClassId × FieldType)} {sz : Nat} {ret : Int32}
    (hy : plainName y.cls = true) (hw : ws = Cond.code y cc maxL rt :: ws') (hn : (lg_sl av).length ≤ maxL)
    (body : ∀ (p : Program) (e : Env) (s : State) (m : MethodId) (args : Array Value) (below : List Frame) (meth : Method) (c : Code) (ls : Array Slot) (A : Nat → Prop) (Q : State → Prop) (H : Heap) (locs : List Loc), Q = MQ below (zQi D w1 tys ret A) args s 0 0 A → p.tables.exec = Jvm.exec → c.code = cc → meth.sig.returnType = rt → (∀ w ∈ ws, w.before args s = true) → s.vm.findClass y.cls = some m.cls → meth.locks = false → c.maxLocals = maxL → (∀ q, s.heap.size ≤ q → A q) → va_K D vwCl tys s → va_P D vwCl W0 H → va_D A W0 → va_S A s.heap H locs → lv_has ls maxL (lv_args 0 av) → W p l e rm s m args below meth c H locs 0 0 Q (F0 m 0 ls [])) :
    Met l y ws rm (va_Pc av (zPre D W0 tys sz)) (zQi D w1 tys ret (va_A W0 sz)) 0 0 (va_A W0 sz) := by
  refine Met.ofW hy hw ?_
  intro p e s m args below meth c s₁ B hml hv
  obtain ⟨rfl, hsz, hP, hK, hD0⟩ := hv
  subst hsz
  rw [lg_entry_eq]
  exact body p e s m _ below meth c _ _ _ _ _ rfl B.exec B.bytes B.returns (atoms_spec (ws := ws) B.pre) (findClass_of_methodNamed B.named) B.notSynchronized hml (fun q h => Or.inr h) hK hP (hD0.self (sz := s.heap.size)) va_S.rf (lv_entry av hn)
theorem q_ofWv {l : Launch} {y : MethodName} {ws ws' : List Cond} {rm : Room} {cc : ByteArray} {maxL : Nat} {rt : Option FieldType} {av : List Value} {D : va_G} {W0 w1 : va_W} {tys : List (ClassId × FieldType)} {sz : Nat}
    (hy : plainName y.cls = true) (hw : ws = Cond.code y cc maxL rt :: ws') (hn : (lg_sl av).length ≤ maxL)
    (body : ∀ (p : Program) (e : Env) (s : State) (m : MethodId) (args : Array Value) (below : List Frame) (meth : Method) (c : Code) (ls : Array Slot) (A : Nat → Prop) (Q : State → Prop) (H : Heap) (locs : List Loc), Q = MQ below (zQv D w1 tys A) args s 0 0 A → p.tables.exec = Jvm.exec → c.code = cc → meth.sig.returnType = rt → (∀ w ∈ ws, w.before args s = true) → s.vm.findClass y.cls = some m.cls → meth.locks = false → c.maxLocals = maxL → (∀ q, s.heap.size ≤ q → A q) → va_K D vwCl tys s → va_P D vwCl W0 H → va_D A W0 → va_S A s.heap H locs → lv_has ls maxL (lv_args 0 av) → W p l e rm s m args below meth c H locs 0 0 Q (F0 m 0 ls [])) :
    Met l y ws rm (va_Pc av (zPre D W0 tys sz)) (zQv D w1 tys (va_A W0 sz)) 0 0 (va_A W0 sz) := by
  refine Met.ofW hy hw ?_
  intro p e s m args below meth c s₁ B hml hv
  obtain ⟨rfl, hsz, hP, hK, hD0⟩ := hv
  subst hsz
  rw [lg_entry_eq]
  exact body p e s m _ below meth c _ _ _ _ _ rfl B.exec B.bytes B.returns (atoms_spec (ws := ws) B.pre) (findClass_of_methodNamed B.named) B.notSynchronized hml (fun q h => Or.inr h) hK hP (hD0.self (sz := s.heap.size)) va_S.rf (lv_entry av hn)
end
section
theorem dX2_init_0 : decode cX2_init 0 = .ok (.aload_n 0, 1) := by decide +kernel
theorem dX2_init_1 : decode cX2_init 1 = .ok (.invokespecial 3, 3) := by decide +kernel
theorem dX2_init_4 : decode cX2_init 4 = .ok (.aload_n 0, 1) := by decide +kernel
theorem dX2_init_5 : decode cX2_init 5 = .ok (.iconst 0, 1) := by decide +kernel
theorem dX2_init_6 : decode cX2_init 6 = .ok (.putfield 9, 3) := by decide +kernel
theorem dX2_init_9 : decode cX2_init 9 = .ok (.aload_n 0, 1) := by decide +kernel
theorem dX2_init_10 : decode cX2_init 10 = .ok (.bipush 12, 2) := by decide +kernel
theorem dX2_init_12 : decode cX2_init 12 = .ok (.newarray .int, 2) := by decide +kernel
theorem dX2_init_14 : decode cX2_init 14 = .ok (.putfield 15, 3) := by decide +kernel
theorem dX2_init_17 : decode cX2_init 17 = .ok (.aload_n 0, 1) := by decide +kernel
theorem dX2_init_18 : decode cX2_init 18 = .ok (.bipush 12, 2) := by decide +kernel
theorem dX2_init_20 : decode cX2_init 20 = .ok (.newarray .int, 2) := by decide +kernel
theorem dX2_init_22 : decode cX2_init 22 = .ok (.putfield 19, 3) := by decide +kernel
theorem dX2_init_25 : decode cX2_init 25 = .ok (.aload_n 0, 1) := by decide +kernel
theorem dX2_init_26 : decode cX2_init 26 = .ok (.bipush 12, 2) := by decide +kernel
theorem dX2_init_28 : decode cX2_init 28 = .ok (.newarray .int, 2) := by decide +kernel
theorem dX2_init_30 : decode cX2_init 30 = .ok (.putfield 22, 3) := by decide +kernel
theorem dX2_init_33 : decode cX2_init 33 = .ok (.aload_n 0, 1) := by decide +kernel
theorem dX2_init_34 : decode cX2_init 34 = .ok (.bipush 12, 2) := by decide +kernel
theorem dX2_init_36 : decode cX2_init 36 = .ok (.newarray .int, 2) := by decide +kernel
theorem dX2_init_38 : decode cX2_init 38 = .ok (.putfield 25, 3) := by decide +kernel
theorem dX2_init_41 : decode cX2_init 41 = .ok (.aload_n 0, 1) := by decide +kernel
theorem dX2_init_42 : decode cX2_init 42 = .ok (.sipush 180, 3) := by decide +kernel
theorem dX2_init_45 : decode cX2_init 45 = .ok (.newarray .int, 2) := by decide +kernel
theorem dX2_init_47 : decode cX2_init 47 = .ok (.putfield 28, 3) := by decide +kernel
theorem dX2_init_50 : decode cX2_init 50 = .ok (.aload_n 0, 1) := by decide +kernel
theorem dX2_init_51 : decode cX2_init 51 = .ok (.iload_n 1, 1) := by decide +kernel
theorem dX2_init_52 : decode cX2_init 52 = .ok (.putfield 31, 3) := by decide +kernel
theorem dX2_init_55 : decode cX2_init 55 = .ok (.return_, 1) := by decide +kernel
set_option maxRecDepth 20000 in
theorem ggX2_addArc_X2_addPiece : GoodIn wsX2_addArc wsX2_addPiece := goodIn_r _ [8, 9, 10, 11, 12, 13, 14, 15, 16, 17, 18] (by decide +kernel) (by decide +kernel)
set_option maxRecDepth 20000 in
theorem gX2_addArc_X2_addPiece : GoodIn wsX2_addArc (wsV RX2 34 RX2 yX2_addPiece wsX2_addPiece) := goodIn_app (goodIn_of _ (by decide +kernel)) ggX2_addArc_X2_addPiece
theorem dX2_addArc_0 : decode cX2_addArc 0 = .ok (.aload_n 0, 1) := by decide +kernel
theorem dX2_addArc_1 : decode cX2_addArc 1 = .ok (.getfield 9, 3) := by decide +kernel
theorem dX2_addArc_4 : decode cX2_addArc 4 = .ok (.istore 5, 2) := by decide +kernel
theorem dX2_addArc_6 : decode cX2_addArc 6 = .ok (.iload 5, 2) := by decide +kernel
theorem dX2_addArc_8 : decode cX2_addArc 8 = .ok (.bipush 12, 2) := by decide +kernel
theorem dX2_addArc_10 : decode cX2_addArc 10 = .ok (.if_icmp .lt 5, 3) := by decide +kernel
theorem dX2_addArc_13 : decode cX2_addArc 13 = .ok (.iconst (-1), 1) := by decide +kernel
theorem dX2_addArc_14 : decode cX2_addArc 14 = .ok (.ireturn, 1) := by decide +kernel
theorem dX2_addArc_15 : decode cX2_addArc 15 = .ok (.aload_n 0, 1) := by decide +kernel
theorem dX2_addArc_16 : decode cX2_addArc 16 = .ok (.getfield 15, 3) := by decide +kernel
theorem dX2_addArc_19 : decode cX2_addArc 19 = .ok (.iload 5, 2) := by decide +kernel
theorem dX2_addArc_21 : decode cX2_addArc 21 = .ok (.iload_n 1, 1) := by decide +kernel
theorem dX2_addArc_22 : decode cX2_addArc 22 = .ok (.iastore, 1) := by decide +kernel
theorem dX2_addArc_23 : decode cX2_addArc 23 = .ok (.aload_n 0, 1) := by decide +kernel
theorem dX2_addArc_24 : decode cX2_addArc 24 = .ok (.getfield 19, 3) := by decide +kernel
theorem dX2_addArc_27 : decode cX2_addArc 27 = .ok (.iload 5, 2) := by decide +kernel
theorem dX2_addArc_29 : decode cX2_addArc 29 = .ok (.iload_n 2, 1) := by decide +kernel
theorem dX2_addArc_30 : decode cX2_addArc 30 = .ok (.iastore, 1) := by decide +kernel
theorem dX2_addArc_31 : decode cX2_addArc 31 = .ok (.aload_n 0, 1) := by decide +kernel
theorem dX2_addArc_32 : decode cX2_addArc 32 = .ok (.dup, 1) := by decide +kernel
theorem dX2_addArc_33 : decode cX2_addArc 33 = .ok (.getfield 9, 3) := by decide +kernel
theorem dX2_addArc_36 : decode cX2_addArc 36 = .ok (.iconst 1, 1) := by decide +kernel
theorem dX2_addArc_37 : decode cX2_addArc 37 = .ok (.iadd, 1) := by decide +kernel
theorem dX2_addArc_38 : decode cX2_addArc 38 = .ok (.putfield 9, 3) := by decide +kernel
theorem dX2_addArc_41 : decode cX2_addArc 41 = .ok (.aload_n 0, 1) := by decide +kernel
theorem dX2_addArc_42 : decode cX2_addArc 42 = .ok (.iload 5, 2) := by decide +kernel
theorem dX2_addArc_44 : decode cX2_addArc 44 = .ok (.iload_n 3, 1) := by decide +kernel
theorem dX2_addArc_45 : decode cX2_addArc 45 = .ok (.iload 4, 2) := by decide +kernel
theorem dX2_addArc_47 : decode cX2_addArc 47 = .ok (.invokevirtual 34, 3) := by decide +kernel
theorem dX2_addArc_50 : decode cX2_addArc 50 = .ok (.iload 5, 2) := by decide +kernel
theorem dX2_addArc_52 : decode cX2_addArc 52 = .ok (.ireturn, 1) := by decide +kernel
theorem dX2_addPiece_0 : decode cX2_addPiece 0 = .ok (.iconst 0, 1) := by decide +kernel
theorem dX2_addPiece_1 : decode cX2_addPiece 1 = .ok (.istore 4, 2) := by decide +kernel
theorem dX2_addPiece_3 : decode cX2_addPiece 3 = .ok (.iload 4, 2) := by decide +kernel
theorem dX2_addPiece_5 : decode cX2_addPiece 5 = .ok (.iload_n 2, 1) := by decide +kernel
theorem dX2_addPiece_6 : decode cX2_addPiece 6 = .ok (.if_icmp .ge 47, 3) := by decide +kernel
theorem dX2_addPiece_9 : decode cX2_addPiece 9 = .ok (.aload_n 0, 1) := by decide +kernel
theorem dX2_addPiece_10 : decode cX2_addPiece 10 = .ok (.getfield 25, 3) := by decide +kernel
theorem dX2_addPiece_13 : decode cX2_addPiece 13 = .ok (.iload_n 1, 1) := by decide +kernel
theorem dX2_addPiece_14 : decode cX2_addPiece 14 = .ok (.iaload, 1) := by decide +kernel
theorem dX2_addPiece_15 : decode cX2_addPiece 15 = .ok (.bipush 15, 2) := by decide +kernel
theorem dX2_addPiece_17 : decode cX2_addPiece 17 = .ok (.if_icmp .ge 36, 3) := by decide +kernel
theorem dX2_addPiece_20 : decode cX2_addPiece 20 = .ok (.aload_n 0, 1) := by decide +kernel
theorem dX2_addPiece_21 : decode cX2_addPiece 21 = .ok (.getfield 28, 3) := by decide +kernel
theorem dX2_addPiece_24 : decode cX2_addPiece 24 = .ok (.iload_n 1, 1) := by decide +kernel
theorem dX2_addPiece_25 : decode cX2_addPiece 25 = .ok (.bipush 15, 2) := by decide +kernel
theorem dX2_addPiece_27 : decode cX2_addPiece 27 = .ok (.imul, 1) := by decide +kernel
theorem dX2_addPiece_28 : decode cX2_addPiece 28 = .ok (.aload_n 0, 1) := by decide +kernel
theorem dX2_addPiece_29 : decode cX2_addPiece 29 = .ok (.getfield 25, 3) := by decide +kernel
theorem dX2_addPiece_32 : decode cX2_addPiece 32 = .ok (.iload_n 1, 1) := by decide +kernel
theorem dX2_addPiece_33 : decode cX2_addPiece 33 = .ok (.iaload, 1) := by decide +kernel
theorem dX2_addPiece_34 : decode cX2_addPiece 34 = .ok (.iadd, 1) := by decide +kernel
theorem dX2_addPiece_35 : decode cX2_addPiece 35 = .ok (.iload_n 3, 1) := by decide +kernel
theorem dX2_addPiece_36 : decode cX2_addPiece 36 = .ok (.iastore, 1) := by decide +kernel
theorem dX2_addPiece_37 : decode cX2_addPiece 37 = .ok (.aload_n 0, 1) := by decide +kernel
theorem dX2_addPiece_38 : decode cX2_addPiece 38 = .ok (.getfield 25, 3) := by decide +kernel
theorem dX2_addPiece_41 : decode cX2_addPiece 41 = .ok (.iload_n 1, 1) := by decide +kernel
theorem dX2_addPiece_42 : decode cX2_addPiece 42 = .ok (.dup2, 1) := by decide +kernel
theorem dX2_addPiece_43 : decode cX2_addPiece 43 = .ok (.iaload, 1) := by decide +kernel
theorem dX2_addPiece_44 : decode cX2_addPiece 44 = .ok (.iconst 1, 1) := by decide +kernel
theorem dX2_addPiece_45 : decode cX2_addPiece 45 = .ok (.iadd, 1) := by decide +kernel
theorem dX2_addPiece_46 : decode cX2_addPiece 46 = .ok (.iastore, 1) := by decide +kernel
theorem dX2_addPiece_47 : decode cX2_addPiece 47 = .ok (.iinc 4 1, 3) := by decide +kernel
theorem dX2_addPiece_50 : decode cX2_addPiece 50 = .ok (.goto (-47), 3) := by decide +kernel
theorem dX2_addPiece_53 : decode cX2_addPiece 53 = .ok (.aload_n 0, 1) := by decide +kernel
theorem dX2_addPiece_54 : decode cX2_addPiece 54 = .ok (.getfield 22, 3) := by decide +kernel
theorem dX2_addPiece_57 : decode cX2_addPiece 57 = .ok (.iload_n 1, 1) := by decide +kernel
theorem dX2_addPiece_58 : decode cX2_addPiece 58 = .ok (.dup2, 1) := by decide +kernel
theorem dX2_addPiece_59 : decode cX2_addPiece 59 = .ok (.iaload, 1) := by decide +kernel
theorem dX2_addPiece_60 : decode cX2_addPiece 60 = .ok (.iconst 1, 1) := by decide +kernel
theorem dX2_addPiece_61 : decode cX2_addPiece 61 = .ok (.iadd, 1) := by decide +kernel
theorem dX2_addPiece_62 : decode cX2_addPiece 62 = .ok (.iastore, 1) := by decide +kernel
theorem dX2_addPiece_63 : decode cX2_addPiece 63 = .ok (.return_, 1) := by decide +kernel
theorem dX2_unitPrice_0 : decode cX2_unitPrice 0 = .ok (.iload_n 2, 1) := by decide +kernel
theorem dX2_unitPrice_1 : decode cX2_unitPrice 1 = .ok (.iconst 1, 1) := by decide +kernel
theorem dX2_unitPrice_2 : decode cX2_unitPrice 2 = .ok (.if_icmp .lt 13, 3) := by decide +kernel
theorem dX2_unitPrice_5 : decode cX2_unitPrice 5 = .ok (.iload_n 2, 1) := by decide +kernel
theorem dX2_unitPrice_6 : decode cX2_unitPrice 6 = .ok (.aload_n 0, 1) := by decide +kernel
theorem dX2_unitPrice_7 : decode cX2_unitPrice 7 = .ok (.getfield 25, 3) := by decide +kernel
theorem dX2_unitPrice_10 : decode cX2_unitPrice 10 = .ok (.iload_n 1, 1) := by decide +kernel
theorem dX2_unitPrice_11 : decode cX2_unitPrice 11 = .ok (.iaload, 1) := by decide +kernel
theorem dX2_unitPrice_12 : decode cX2_unitPrice 12 = .ok (.if_icmp .le 6, 3) := by decide +kernel
theorem dX2_unitPrice_15 : decode cX2_unitPrice 15 = .ok (.ldc 38, 2) := by decide +kernel
theorem dX2_unitPrice_17 : decode cX2_unitPrice 17 = .ok (.ireturn, 1) := by decide +kernel
theorem dX2_unitPrice_18 : decode cX2_unitPrice 18 = .ok (.aload_n 0, 1) := by decide +kernel
theorem dX2_unitPrice_19 : decode cX2_unitPrice 19 = .ok (.getfield 28, 3) := by decide +kernel
theorem dX2_unitPrice_22 : decode cX2_unitPrice 22 = .ok (.iload_n 1, 1) := by decide +kernel
theorem dX2_unitPrice_23 : decode cX2_unitPrice 23 = .ok (.bipush 15, 2) := by decide +kernel
theorem dX2_unitPrice_25 : decode cX2_unitPrice 25 = .ok (.imul, 1) := by decide +kernel
theorem dX2_unitPrice_26 : decode cX2_unitPrice 26 = .ok (.iload_n 2, 1) := by decide +kernel
theorem dX2_unitPrice_27 : decode cX2_unitPrice 27 = .ok (.iadd, 1) := by decide +kernel
theorem dX2_unitPrice_28 : decode cX2_unitPrice 28 = .ok (.iconst 1, 1) := by decide +kernel
theorem dX2_unitPrice_29 : decode cX2_unitPrice 29 = .ok (.isub, 1) := by decide +kernel
theorem dX2_unitPrice_30 : decode cX2_unitPrice 30 = .ok (.iaload, 1) := by decide +kernel
theorem dX2_unitPrice_31 : decode cX2_unitPrice 31 = .ok (.ireturn, 1) := by decide +kernel
set_option maxRecDepth 20000 in
theorem ggX2_lastPrice_X2_unitPrice : GoodIn wsX2_lastPrice wsX2_unitPrice := goodIn_r _ [6, 1, 7, 8, 9, 10, 11, 12, 13, 14, 15] (by decide +kernel) (by decide +kernel)
set_option maxRecDepth 20000 in
theorem gX2_lastPrice_X2_unitPrice : GoodIn wsX2_lastPrice (wsV RX2 39 RX2 yX2_unitPrice wsX2_unitPrice) := goodIn_app (goodIn_of _ (by decide +kernel)) ggX2_lastPrice_X2_unitPrice
theorem dX2_lastPrice_0 : decode cX2_lastPrice 0 = .ok (.aload_n 0, 1) := by decide +kernel
theorem dX2_lastPrice_1 : decode cX2_lastPrice 1 = .ok (.iload_n 1, 1) := by decide +kernel
theorem dX2_lastPrice_2 : decode cX2_lastPrice 2 = .ok (.aload_n 0, 1) := by decide +kernel
theorem dX2_lastPrice_3 : decode cX2_lastPrice 3 = .ok (.getfield 25, 3) := by decide +kernel
theorem dX2_lastPrice_6 : decode cX2_lastPrice 6 = .ok (.iload_n 1, 1) := by decide +kernel
theorem dX2_lastPrice_7 : decode cX2_lastPrice 7 = .ok (.iaload, 1) := by decide +kernel
theorem dX2_lastPrice_8 : decode cX2_lastPrice 8 = .ok (.invokevirtual 39, 3) := by decide +kernel
theorem dX2_lastPrice_11 : decode cX2_lastPrice 11 = .ok (.ireturn, 1) := by decide +kernel
theorem dX2_steps_0 : decode cX2_steps 0 = .ok (.iconst 2, 1) := by decide +kernel
theorem dX2_steps_1 : decode cX2_steps 1 = .ok (.aload_n 0, 1) := by decide +kernel
theorem dX2_steps_2 : decode cX2_steps 2 = .ok (.getfield 9, 3) := by decide +kernel
theorem dX2_steps_5 : decode cX2_steps 5 = .ok (.imul, 1) := by decide +kernel
theorem dX2_steps_6 : decode cX2_steps 6 = .ok (.ireturn, 1) := by decide +kernel
theorem dX2_arcOf_0 : decode cX2_arcOf 0 = .ok (.iload_n 0, 1) := by decide +kernel
theorem dX2_arcOf_1 : decode cX2_arcOf 1 = .ok (.iconst 1, 1) := by decide +kernel
theorem dX2_arcOf_2 : decode cX2_arcOf 2 = .ok (.ishr, 1) := by decide +kernel
theorem dX2_arcOf_3 : decode cX2_arcOf 3 = .ok (.ireturn, 1) := by decide +kernel
theorem dX2_goesAlong_0 : decode cX2_goesAlong 0 = .ok (.iload_n 0, 1) := by decide +kernel
theorem dX2_goesAlong_1 : decode cX2_goesAlong 1 = .ok (.iconst 1, 1) := by decide +kernel
theorem dX2_goesAlong_2 : decode cX2_goesAlong 2 = .ok (.iand, 1) := by decide +kernel
theorem dX2_goesAlong_3 : decode cX2_goesAlong 3 = .ok (.ifCond .ne 7, 3) := by decide +kernel
theorem dX2_goesAlong_6 : decode cX2_goesAlong 6 = .ok (.iconst 1, 1) := by decide +kernel
theorem dX2_goesAlong_7 : decode cX2_goesAlong 7 = .ok (.goto 4, 3) := by decide +kernel
theorem dX2_goesAlong_10 : decode cX2_goesAlong 10 = .ok (.iconst 0, 1) := by decide +kernel
theorem dX2_goesAlong_11 : decode cX2_goesAlong 11 = .ok (.ireturn, 1) := by decide +kernel
set_option maxRecDepth 20000 in
theorem ggX2_start_X2_goesAlong : GoodIn wsX2_start wsX2_goesAlong := goodIn_r _ [6] (by decide +kernel) (by decide +kernel)
set_option maxRecDepth 20000 in
theorem gX2_start_X2_goesAlong : GoodIn wsX2_start (va_wsS RX2 43 yX2_goesAlong wsX2_goesAlong) := goodIn_app (goodIn_of _ (by decide +kernel)) ggX2_start_X2_goesAlong
set_option maxRecDepth 20000 in
theorem ggX2_start_X2_arcOf : GoodIn wsX2_start wsX2_arcOf := goodIn_r _ [9] (by decide +kernel) (by decide +kernel)
set_option maxRecDepth 20000 in
theorem gX2_start_X2_arcOf : GoodIn wsX2_start (va_wsS RX2 47 yX2_arcOf wsX2_arcOf) := goodIn_app (goodIn_of _ (by decide +kernel)) ggX2_start_X2_arcOf
theorem dX2_start_0 : decode cX2_start 0 = .ok (.iload_n 1, 1) := by decide +kernel
theorem dX2_start_1 : decode cX2_start 1 = .ok (.invokestatic 43, 3) := by decide +kernel
theorem dX2_start_4 : decode cX2_start 4 = .ok (.ifCond .eq 15, 3) := by decide +kernel
theorem dX2_start_7 : decode cX2_start 7 = .ok (.aload_n 0, 1) := by decide +kernel
theorem dX2_start_8 : decode cX2_start 8 = .ok (.getfield 15, 3) := by decide +kernel
theorem dX2_start_11 : decode cX2_start 11 = .ok (.iload_n 1, 1) := by decide +kernel
theorem dX2_start_12 : decode cX2_start 12 = .ok (.invokestatic 47, 3) := by decide +kernel
theorem dX2_start_15 : decode cX2_start 15 = .ok (.iaload, 1) := by decide +kernel
theorem dX2_start_16 : decode cX2_start 16 = .ok (.goto 12, 3) := by decide +kernel
theorem dX2_start_19 : decode cX2_start 19 = .ok (.aload_n 0, 1) := by decide +kernel
theorem dX2_start_20 : decode cX2_start 20 = .ok (.getfield 19, 3) := by decide +kernel
theorem dX2_start_23 : decode cX2_start 23 = .ok (.iload_n 1, 1) := by decide +kernel
theorem dX2_start_24 : decode cX2_start 24 = .ok (.invokestatic 47, 3) := by decide +kernel
theorem dX2_start_27 : decode cX2_start 27 = .ok (.iaload, 1) := by decide +kernel
theorem dX2_start_28 : decode cX2_start 28 = .ok (.ireturn, 1) := by decide +kernel
set_option maxRecDepth 20000 in
theorem ggX2_end_X2_goesAlong : GoodIn wsX2_end wsX2_goesAlong := goodIn_r _ [6] (by decide +kernel) (by decide +kernel)
set_option maxRecDepth 20000 in
theorem gX2_end_X2_goesAlong : GoodIn wsX2_end (va_wsS RX2 43 yX2_goesAlong wsX2_goesAlong) := goodIn_app (goodIn_of _ (by decide +kernel)) ggX2_end_X2_goesAlong
set_option maxRecDepth 20000 in
theorem ggX2_end_X2_arcOf : GoodIn wsX2_end wsX2_arcOf := goodIn_r _ [9] (by decide +kernel) (by decide +kernel)
set_option maxRecDepth 20000 in
theorem gX2_end_X2_arcOf : GoodIn wsX2_end (va_wsS RX2 47 yX2_arcOf wsX2_arcOf) := goodIn_app (goodIn_of _ (by decide +kernel)) ggX2_end_X2_arcOf
theorem dX2_end_0 : decode cX2_end 0 = .ok (.iload_n 1, 1) := by decide +kernel
theorem dX2_end_1 : decode cX2_end 1 = .ok (.invokestatic 43, 3) := by decide +kernel
theorem dX2_end_4 : decode cX2_end 4 = .ok (.ifCond .eq 15, 3) := by decide +kernel
theorem dX2_end_7 : decode cX2_end 7 = .ok (.aload_n 0, 1) := by decide +kernel
theorem dX2_end_8 : decode cX2_end 8 = .ok (.getfield 19, 3) := by decide +kernel
theorem dX2_end_11 : decode cX2_end 11 = .ok (.iload_n 1, 1) := by decide +kernel
theorem dX2_end_12 : decode cX2_end 12 = .ok (.invokestatic 47, 3) := by decide +kernel
theorem dX2_end_15 : decode cX2_end 15 = .ok (.iaload, 1) := by decide +kernel
theorem dX2_end_16 : decode cX2_end 16 = .ok (.goto 12, 3) := by decide +kernel
theorem dX2_end_19 : decode cX2_end 19 = .ok (.aload_n 0, 1) := by decide +kernel
theorem dX2_end_20 : decode cX2_end 20 = .ok (.getfield 15, 3) := by decide +kernel
theorem dX2_end_23 : decode cX2_end 23 = .ok (.iload_n 1, 1) := by decide +kernel
theorem dX2_end_24 : decode cX2_end 24 = .ok (.invokestatic 47, 3) := by decide +kernel
theorem dX2_end_27 : decode cX2_end 27 = .ok (.iaload, 1) := by decide +kernel
theorem dX2_end_28 : decode cX2_end 28 = .ok (.ireturn, 1) := by decide +kernel
end
section
abbrev wX2 (cyI : ClassId) (nw aF aT aP aC aU : Nat) (nN nA : Int32) (nF nT nP nC nU : Nat → Int32) : va_W := [(nw, .inr (2, [.int nN, .int nA, .ref aF, .ref aT, .ref aP, .ref aC, .ref aU])), (aF, .inl (cyI, 12, .inl nF)), (aT, .inl (cyI, 12, .inl nT)), (aP, .inl (cyI, 12, .inl nP)), (aC, .inl (cyI, 12, .inl nC)), (aU, .inl (cyI, 180, .inl nU))]
abbrev wX0 (cyI : ClassId) (cf nw aF aT aP aC aU aO aL aH aD aB : Nat) (nN nA : Int32) (nF nT nP nC nU cO cL cH cD cB : Nat → Int32) : va_W := [(cf, .inr (0, [.ref nw, .ref aO, .ref aL, .ref aH, .ref aD, .ref aB])), (nw, .inr (2, [.int nN, .int nA, .ref aF, .ref aT, .ref aP, .ref aC, .ref aU])), (aF, .inl (cyI, 12, .inl nF)), (aT, .inl (cyI, 12, .inl nT)), (aP, .inl (cyI, 12, .inl nP)), (aC, .inl (cyI, 12, .inl nC)), (aU, .inl (cyI, 180, .inl nU)), (aO, .inl (cyI, 12, .inl cO)), (aL, .inl (cyI, 12, .inl cL)), (aH, .inl (cyI, 12, .inl cH)), (aD, .inl (cyI, 8, .inl cD)), (aB, .inl (cyI, 8, .inl cB))]
abbrev wX1 (cyI : ClassId) (dr nw aF aT aP aC aU aDT aDW : Nat) (dFo dPa dLa nN nA : Int32) (nF nT nP nC nU dT dW : Nat → Int32) : va_W := [(dr, .inr (1, [.ref nw, .ref aDT, .ref aDW, .int dFo, .int dPa, .int dLa])), (nw, .inr (2, [.int nN, .int nA, .ref aF, .ref aT, .ref aP, .ref aC, .ref aU])), (aF, .inl (cyI, 12, .inl nF)), (aT, .inl (cyI, 12, .inl nT)), (aP, .inl (cyI, 12, .inl nP)), (aC, .inl (cyI, 12, .inl nC)), (aU, .inl (cyI, 180, .inl nU)), (aDT, .inl (cyI, 12, .inl dT)), (aDW, .inl (cyI, 8, .inl dW))]
abbrev wX3 (cyI cyZ : ClassId) (uc nw aF aT aP aC aU aUT aUD aUB : Nat) (nN nA : Int32) (nF nT nP nC nU uT uD uB : Nat → Int32) : va_W := [(uc, .inr (3, [.ref nw, .ref aUT, .ref aUD, .ref aUB])), (nw, .inr (2, [.int nN, .int nA, .ref aF, .ref aT, .ref aP, .ref aC, .ref aU])), (aF, .inl (cyI, 12, .inl nF)), (aT, .inl (cyI, 12, .inl nT)), (aP, .inl (cyI, 12, .inl nP)), (aC, .inl (cyI, 12, .inl nC)), (aU, .inl (cyI, 180, .inl nU)), (aUT, .inl (cyZ, 180, .inl uT)), (aUD, .inl (cyI, 8, .inl uD)), (aUB, .inl (cyI, 8, .inl uB))]
abbrev wX4 (cyI cyZ : ClassId) (ob nw aF aT aP aC aU cf aO aL aH aD aB uc aUT aUD aUB dr aDT aDW : Nat) (xS xT xA nN nA dFo dPa dLa : Int32) (nF nT nP nC nU cO cL cH cD cB uT uD uB dT dW : Nat → Int32) : va_W := [(ob, .inr (4, [.ref nw, .ref cf, .ref uc, .ref dr, .int xS, .int xT, .int xA])), (nw, .inr (2, [.int nN, .int nA, .ref aF, .ref aT, .ref aP, .ref aC, .ref aU])), (aF, .inl (cyI, 12, .inl nF)), (aT, .inl (cyI, 12, .inl nT)), (aP, .inl (cyI, 12, .inl nP)), (aC, .inl (cyI, 12, .inl nC)), (aU, .inl (cyI, 180, .inl nU)), (cf, .inr (0, [.ref nw, .ref aO, .ref aL, .ref aH, .ref aD, .ref aB])), (aO, .inl (cyI, 12, .inl cO)), (aL, .inl (cyI, 12, .inl cL)), (aH, .inl (cyI, 12, .inl cH)), (aD, .inl (cyI, 8, .inl cD)), (aB, .inl (cyI, 8, .inl cB)), (uc, .inr (3, [.ref nw, .ref aUT, .ref aUD, .ref aUB])), (aUT, .inl (cyZ, 180, .inl uT)), (aUD, .inl (cyI, 8, .inl uD)), (aUB, .inl (cyI, 8, .inl uB)), (dr, .inr (1, [.ref nw, .ref aDT, .ref aDW, .int dFo, .int dPa, .int dLa])), (aDT, .inl (cyI, 12, .inl dT)), (aDW, .inl (cyI, 8, .inl dW))]
abbrev wX5 (cyI : ClassId) (mo aMF aMT aMW aMU aMP aML aMM aMO aMR aMD aMB aMK : Nat) (mTh mNo mAr mS mG mQ mWa mPa mLa : Int32) (mF mT mW mU mP mL mM mO mR mD mB mK : Nat → Int32) : va_W := [(mo, .inr (5, [.int mTh, .int mNo, .int mAr, .ref aMF, .ref aMT, .ref aMW, .ref aMU, .ref aMP, .int mS, .int mG, .int mQ, .ref aML, .ref aMM, .ref aMO, .ref aMR, .ref aMD, .ref aMB, .ref aMK, .int mWa, .int mPa, .int mLa])), (aMF, .inl (cyI, 12, .inl mF)), (aMT, .inl (cyI, 12, .inl mT)), (aMW, .inl (cyI, 36, .inl mW)), (aMU, .inl (cyI, 36, .inl mU)), (aMP, .inl (cyI, 12, .inl mP)), (aML, .inl (cyI, 12, .inl mL)), (aMM, .inl (cyI, 12, .inl mM)), (aMO, .inl (cyI, 12, .inl mO)), (aMR, .inl (cyI, 8, .inl mR)), (aMD, .inl (cyI, 8, .inl mD)), (aMB, .inl (cyI, 8, .inl mB)), (aMK, .inl (cyI, 12, .inl mK))]
end
section
def pX2_arcOf (p0 : Int32) : Option (Int32) :=
  some (p0 >>> (1 &&& 31))
def pX2_goesAlong (p0 : Int32) : Option (Bool) :=
  if (p0 &&& 1) = 0 then
    some true
  else
    some false
def pX2_steps (nA : Int32) : Option (Int32) :=
  some (2 * nA)
def pX2_unitPrice (nC : Nat → Int32) (nU : Nat → Int32) (p0 : Int32) (p1 : Int32) : Option (Int32) :=
  if p1 < 1 then
    some 1000000
  else
    (rd 12 nC p0).bind fun t1 =>
    if p1 ≤ t1 then
      (rd 180 nU (((p0 * 15) + p1) - 1)).bind fun t2 =>
      some t2
    else
      some 1000000
def pX2_lastPrice (nC : Nat → Int32) (nU : Nat → Int32) (p0 : Int32) : Option (Int32) :=
  (rd 12 nC p0).bind fun t1 =>
  (pX2_unitPrice nC nU p0 t1).bind fun r2 =>
  some r2
def pX2_start (nF : Nat → Int32) (nT : Nat → Int32) (p0 : Int32) : Option (Int32) :=
  (pX2_goesAlong p0).bind fun b1 =>
  if (b2i b1) = 0 then
    (pX2_arcOf p0).bind fun r2 =>
    (rd 12 nT r2).bind fun t3 =>
    some t3
  else
    (pX2_arcOf p0).bind fun r4 =>
    (rd 12 nF r4).bind fun t5 =>
    some t5
def pX2_end (nF : Nat → Int32) (nT : Nat → Int32) (p0 : Int32) : Option (Int32) :=
  (pX2_goesAlong p0).bind fun b1 =>
  if (b2i b1) = 0 then
    (pX2_arcOf p0).bind fun r2 =>
    (rd 12 nF r2).bind fun t3 =>
    some t3
  else
    (pX2_arcOf p0).bind fun r4 =>
    (rd 12 nT r4).bind fun t5 =>
    some t5
def pX2_addPiece_l3 (p0 : Int32) (p1 : Int32) (p2 : Int32) (x4_1 : Int32) (nC_2 : Nat → Int32) (nU_3 : Nat → Int32) : Option ((Int32 × (Nat → Int32) × (Nat → Int32)) ⊕ (Int32 × (Nat → Int32) × (Nat → Int32))) :=
  if p1 ≤ x4_1 then
    some (.inl ((x4_1, nC_2, nU_3)))
  else
    (rd 12 nC_2 p0).bind fun t4 =>
    if 15 ≤ t4 then
      some (.inl ((x4_1, nC_2, nU_3)))
    else
      (rd 12 nC_2 p0).bind fun t5 =>
      (wr 180 nU_3 ((p0 * 15) + t5) p2).bind fun nU_6 =>
      (rd 12 nC_2 p0).bind fun t7 =>
      (wr 12 nC_2 p0 (t7 + 1)).bind fun nC_8 =>
      some (.inr ((x4_1 + 1, nC_8, nU_6)))
def pX2_addPiece (N : Nat) (nP : Nat → Int32) (nC : Nat → Int32) (nU : Nat → Int32) (p0 : Int32) (p1 : Int32) (p2 : Int32) : Option ((Nat → Int32) × (Nat → Int32) × (Nat → Int32)) :=
  bnd3 (lp (un3 (pX2_addPiece_l3 p0 p1 p2)) N ((0, nC, nU))) fun x4_9 nC_10 nU_11 =>
  (rd 12 nP p0).bind fun t12 =>
  (wr 12 nP p0 (t12 + 1)).bind fun nP_13 =>
  some ((nP_13, nC_10, nU_11))
def pX2_addArc (N : Nat) (nA : Int32) (nF : Nat → Int32) (nT : Nat → Int32) (nP : Nat → Int32) (nC : Nat → Int32) (nU : Nat → Int32) (p0 : Int32) (p1 : Int32) (p2 : Int32) (p3 : Int32) : Option (Int32 × Int32 × (Nat → Int32) × (Nat → Int32) × (Nat → Int32) × (Nat → Int32) × (Nat → Int32)) :=
  if nA < 12 then
    (wr 12 nF nA p0).bind fun nF_1 =>
    (wr 12 nT nA p1).bind fun nT_2 =>
    bnd3 (pX2_addPiece N nP nC nU nA p2 p3) fun nP_3 nC_4 nU_5 =>
    some ((nA, nA + 1, nF_1, nT_2, nP_3, nC_4, nU_5))
  else
    some (((-1), nA, nF, nT, nP, nC, nU))
end
section
set_option maxHeartbeats 4000000 in
set_option maxRecDepth 100000 in
theorem c_X2_arcOf (l : Launch) (dC : Nat → ClassId) (dI : Nat → Nat → Nat) (sz : Nat) (p0 : Int32) (res : Int32) (h : pX2_arcOf p0 = some res) : Met l yX2_arcOf wsX2_arcOf { frames := 0, cells := 0, slots := 0, locals := 0 } (va_Pc [.int p0] (zPre (dC, dI) ([]) [] sz)) (zQi (dC, dI) ([]) [] (res) (va_A ([]) sz)) 0 0 (va_A ([]) sz) := by
  refine q_ofWi (cc := cX2_arcOf) (maxL := 1) (rt := (some .int)) (by decide) rfl (Nat.le_of_ble_eq_true rfl) ?_
  intro p e s m args below meth c ls A Q H locs hQ hx hb hr hts hown hlocks hml hA hK hP hD hS hl
  have hl : lv_has ls 1 [(0, .int p0)] := hl
  unfold pX2_arcOf at h
  refine lv_iload_n hx hb dX2_arcOf_0 rfl (lv_at hl 0 rfl) ?_
  refine lv_iconst (v := 1) hx hb dX2_arcOf_1 (by decide) ?_
  refine lv_ishr hx hb dX2_arcOf_2 ?_
  cases h
  exact q_iret hQ hx hb hr hlocks hP hK hD hS dX2_arcOf_3
set_option maxHeartbeats 4000000 in
set_option maxRecDepth 100000 in
theorem c_X2_goesAlong (l : Launch) (dC : Nat → ClassId) (dI : Nat → Nat → Nat) (sz : Nat) (p0 : Int32) (res : Bool) (h : pX2_goesAlong p0 = some res) : Met l yX2_goesAlong wsX2_goesAlong { frames := 0, cells := 0, slots := 0, locals := 0 } (va_Pc [.int p0] (zPre (dC, dI) ([]) [] sz)) (zQi (dC, dI) ([]) [] (b2i res) (va_A ([]) sz)) 0 0 (va_A ([]) sz) := by
  refine q_ofWi (cc := cX2_goesAlong) (maxL := 1) (rt := (some .boolean)) (by decide) rfl (Nat.le_of_ble_eq_true rfl) ?_
  intro p e s m args below meth c ls A Q H locs hQ hx hb hr hts hown hlocks hml hA hK hP hD hS hl
  have hl : lv_has ls 1 [(0, .int p0)] := hl
  unfold pX2_goesAlong at h
  refine lv_iload_n hx hb dX2_goesAlong_0 rfl (lv_at hl 0 rfl) ?_
  refine lv_iconst (v := 1) hx hb dX2_goesAlong_1 (by decide) ?_
  refine lv_iand hx hb dX2_goesAlong_2 ?_
  refine lv_if_ne (tgt := 10) hx hb dX2_goesAlong_3 (by decide) (fun c9 => ?_) (fun c9 => ?_)
  · have h := ineg c9 h
    refine lv_iconst (v := 0) hx hb dX2_goesAlong_10 (by decide) ?_
    cases h
    exact q_zret (b := false) hQ hx hb hr hlocks hP hK hD hS dX2_goesAlong_11
  · have h := ipos c9 h
    refine lv_iconst (v := 1) hx hb dX2_goesAlong_6 (by decide) ?_
    refine lv_goto (tgt := 11) hx hb dX2_goesAlong_7 (by decide) ?_
    cases h
    exact q_zret (b := true) hQ hx hb hr hlocks hP hK hD hS dX2_goesAlong_11
set_option maxHeartbeats 4000000 in
set_option maxRecDepth 100000 in
theorem c_X2_steps (l : Launch) (dC : Nat → ClassId) (dI : Nat → Nat → Nat) (cyI : ClassId) (nw aF aT aP aC aU : Nat) (sz : Nat) (nN nA : Int32) (nF nT nP nC nU : Nat → Int32) (res : Int32) (h : pX2_steps nA = some res) : Met l yX2_steps wsX2_steps { frames := 0, cells := 0, slots := 0, locals := 0 } (va_Pc [.ref nw] (zPre (dC, dI) (wX2 cyI nw aF aT aP aC aU nN nA nF nT nP nC nU) [(cyI, .int)] sz)) (zQi (dC, dI) (wX2 cyI nw aF aT aP aC aU nN nA nF nT nP nC nU) [(cyI, .int)] (res) (va_A (wX2 cyI nw aF aT aP aC aU nN nA nF nT nP nC nU) sz)) 0 0 (va_A (wX2 cyI nw aF aT aP aC aU nN nA nF nT nP nC nU) sz) := by
  refine q_ofWi (cc := cX2_steps) (maxL := 1) (rt := (some .int)) (by decide) rfl (Nat.le_of_ble_eq_true rfl) ?_
  intro p e s m args below meth c ls A Q H locs hQ hx hb hr hts hown hlocks hml hA hK hP hD hS hl
  have hl : lv_has ls 1 [(0, .ref nw)] := hl
  have k0 := hts (.fieldLink RX2 9 "ConvexConduit$Network" "arcs" "I") (by decide +kernel)
  have k1 : ∀ w ∈ u_ws RX2 TX2 7, w ∈ wsX2_steps := by decide +kernel
  unfold pX2_steps at h
  refine lv_iconst (v := 2) hx hb dX2_steps_0 (by decide) ?_
  refine lv_aload_n hx hb dX2_steps_1 rfl (lv_at hl 0 rfl) ?_
  refine va_get (D := (dC, dI)) (ci := 2) (v := .int nA) (C := RX2) (T := TX2) (N := 7) hx hb hts k1 hown hK hP 0 rfl rfl 1 (by decide) k0 (fun _ h9 => h9) rfl dX2_steps_2 ?_
  refine lv_imul hx hb dX2_steps_5 ?_
  cases h
  exact q_iret hQ hx hb hr hlocks hP hK hD hS dX2_steps_6
set_option maxHeartbeats 4000000 in
set_option maxRecDepth 100000 in
theorem c_X2_unitPrice (l : Launch) (dC : Nat → ClassId) (dI : Nat → Nat → Nat) (cyI : ClassId) (nw aF aT aP aC aU : Nat) (sz : Nat) (nN nA : Int32) (nF nT nP nC nU : Nat → Int32) (p0 p1 : Int32) (res : Int32) (h : pX2_unitPrice nC nU p0 p1 = some res) : Met l yX2_unitPrice wsX2_unitPrice { frames := 0, cells := 0, slots := 0, locals := 0 } (va_Pc [.ref nw, .int p0, .int p1] (zPre (dC, dI) (wX2 cyI nw aF aT aP aC aU nN nA nF nT nP nC nU) [(cyI, .int)] sz)) (zQi (dC, dI) (wX2 cyI nw aF aT aP aC aU nN nA nF nT nP nC nU) [(cyI, .int)] (res) (va_A (wX2 cyI nw aF aT aP aC aU nN nA nF nT nP nC nU) sz)) 0 0 (va_A (wX2 cyI nw aF aT aP aC aU nN nA nF nT nP nC nU) sz) := by
  refine q_ofWi (cc := cX2_unitPrice) (maxL := 3) (rt := (some .int)) (by decide) rfl (Nat.le_of_ble_eq_true rfl) ?_
  intro p e s m args below meth c ls A Q H locs hQ hx hb hr hts hown hlocks hml hA hK hP hD hS hl
  have hl : lv_has ls 3 [(0, .ref nw), (1, .int p0), (2, .int p1)] := hl
  have k0 := hts (.constant RX2 38 (1000000)) (by decide +kernel)
  have k1 := hts (.fieldLink RX2 25 "ConvexConduit$Network" "capacity" "[I") (by decide +kernel)
  have k2 : ∀ w ∈ u_ws RX2 TX2 7, w ∈ wsX2_unitPrice := by decide +kernel
  have k3 := hts (.fieldLink RX2 28 "ConvexConduit$Network" "prices" "[I") (by decide +kernel)
  unfold pX2_unitPrice at h
  refine lv_iload_n hx hb dX2_unitPrice_0 rfl (lv_at hl 2 rfl) ?_
  refine lv_iconst (v := 1) hx hb dX2_unitPrice_1 (by decide) ?_
  refine lv_icmp_lt (tgt := 15) hx hb dX2_unitPrice_2 (by decide) (fun c9 => ?_) (fun c9 => ?_)
  · have h := ipos c9 h
    refine lv_ldc (own := RX2) (v := 1000000) hx hb hown k0 dX2_unitPrice_15 ?_
    cases h
    exact q_iret hQ hx hb hr hlocks hP hK hD hS dX2_unitPrice_17
  · have h := ineg c9 h
    refine lv_iload_n hx hb dX2_unitPrice_5 rfl (lv_at hl 2 rfl) ?_
    refine lv_aload_n hx hb dX2_unitPrice_6 rfl (lv_at hl 0 rfl) ?_
    refine va_get (D := (dC, dI)) (ci := 2) (v := .ref aC) (C := RX2) (T := TX2) (N := 7) hx hb hts k2 hown hK hP 0 rfl rfl 5 (by decide) k1 (fun _ h9 => h9) rfl dX2_unitPrice_7 ?_
    refine lv_iload_n hx hb dX2_unitPrice_10 rfl (lv_at hl 1 rfl) ?_
    obtain ⟨t1, e9, h⟩ := bd h
    refine q_iald hx hb hK hP 4 0 rfl rfl e9 dX2_unitPrice_11 ?_
    refine lv_icmp_le (tgt := 18) hx hb dX2_unitPrice_12 (by decide) (fun c9 => ?_) (fun c9 => ?_)
    · have h := ipos c9 h
      refine lv_aload_n hx hb dX2_unitPrice_18 rfl (lv_at hl 0 rfl) ?_
      refine va_get (D := (dC, dI)) (ci := 2) (v := .ref aU) (C := RX2) (T := TX2) (N := 7) hx hb hts k2 hown hK hP 0 rfl rfl 6 (by decide) k3 (fun _ h9 => h9) rfl dX2_unitPrice_19 ?_
      refine lv_iload_n hx hb dX2_unitPrice_22 rfl (lv_at hl 1 rfl) ?_
      refine lv_bipush (v := 15) hx hb dX2_unitPrice_23 (by decide) ?_
      refine lv_imul hx hb dX2_unitPrice_25 ?_
      refine lv_iload_n hx hb dX2_unitPrice_26 rfl (lv_at hl 2 rfl) ?_
      refine lv_iadd hx hb dX2_unitPrice_27 ?_
      refine lv_iconst (v := 1) hx hb dX2_unitPrice_28 (by decide) ?_
      refine lv_isub hx hb dX2_unitPrice_29 ?_
      obtain ⟨t2, e9, h⟩ := bd h
      refine q_iald hx hb hK hP 5 0 rfl rfl e9 dX2_unitPrice_30 ?_
      cases h
      exact q_iret hQ hx hb hr hlocks hP hK hD hS dX2_unitPrice_31
    · have h := ineg c9 h
      refine lv_ldc (own := RX2) (v := 1000000) hx hb hown k0 dX2_unitPrice_15 ?_
      cases h
      exact q_iret hQ hx hb hr hlocks hP hK hD hS dX2_unitPrice_17
set_option maxHeartbeats 4000000 in
set_option maxRecDepth 100000 in
theorem c_X2_lastPrice (l : Launch) (dC : Nat → ClassId) (dI : Nat → Nat → Nat) (cyI : ClassId) (nw aF aT aP aC aU : Nat) (sz : Nat) (nN nA : Int32) (nF nT nP nC nU : Nat → Int32) (p0 : Int32) (res : Int32) (h : pX2_lastPrice nC nU p0 = some res) : Met l yX2_lastPrice wsX2_lastPrice { frames := 1, cells := 0, slots := 0, locals := 22 } (va_Pc [.ref nw, .int p0] (zPre (dC, dI) (wX2 cyI nw aF aT aP aC aU nN nA nF nT nP nC nU) [(cyI, .int)] sz)) (zQi (dC, dI) (wX2 cyI nw aF aT aP aC aU nN nA nF nT nP nC nU) [(cyI, .int)] (res) (va_A (wX2 cyI nw aF aT aP aC aU nN nA nF nT nP nC nU) sz)) 0 0 (va_A (wX2 cyI nw aF aT aP aC aU nN nA nF nT nP nC nU) sz) := by
  refine q_ofWi (cc := cX2_lastPrice) (maxL := 2) (rt := (some .int)) (by decide) rfl (Nat.le_of_ble_eq_true rfl) ?_
  intro p e s m args below meth c ls A Q H locs hQ hx hb hr hts hown hlocks hml hA hK hP hD hS hl
  have hl : lv_has ls 2 [(0, .ref nw), (1, .int p0)] := hl
  have k0 := hts (.fieldLink RX2 25 "ConvexConduit$Network" "capacity" "[I") (by decide +kernel)
  have k1 : ∀ w ∈ u_ws RX2 TX2 7, w ∈ wsX2_lastPrice := by decide +kernel
  unfold pX2_lastPrice at h
  refine lv_aload_n hx hb dX2_lastPrice_0 rfl (lv_at hl 0 rfl) ?_
  refine lv_iload_n hx hb dX2_lastPrice_1 rfl (lv_at hl 1 rfl) ?_
  refine lv_aload_n hx hb dX2_lastPrice_2 rfl (lv_at hl 0 rfl) ?_
  refine va_get (D := (dC, dI)) (ci := 2) (v := .ref aC) (C := RX2) (T := TX2) (N := 7) hx hb hts k1 hown hK hP 0 rfl rfl 5 (by decide) k0 (fun _ h9 => h9) rfl dX2_lastPrice_3 ?_
  refine lv_iload_n hx hb dX2_lastPrice_6 rfl (lv_at hl 1 rfl) ?_
  obtain ⟨t1, e9, h⟩ := bd h
  refine q_iald hx hb hK hP 4 0 rfl rfl e9 dX2_lastPrice_7 ?_
  obtain ⟨r2, e9, h⟩ := bd h
  refine q_callVi (ret := r2) (As := [.int p0, .int t1]) (w1 := wX2 cyI nw aF aT aP aC aU nN nA nF nT nP nC nU) (ws2 := wX2 cyI nw aF aT aP aC aU nN nA nF nT nP nC nU) ⟨hx, hb, hml, hown, hts⟩ (c_X2_unitPrice l dC dI cyI nw aF aT aP aC aU H.size nN nA nF nT nP nC nU p0 t1 _ e9) (cwV 2 hts gX2_lastPrice_X2_unitPrice rfl rfl rfl (by decide +kernel) ⟨Nat.le_of_ble_eq_true rfl, Nat.le_of_ble_eq_true rfl⟩) hK hP hD hS hA [0, 1, 2, 3, 4, 5] [] [0, 1, 2, 3, 4, 5] [0] rfl rfl rfl rfl (by decide) rfl rfl rfl 2 0 rfl rfl rfl hl.1 (Nat.le_of_ble_eq_true rfl) (Nat.le_of_ble_eq_true rfl) (Nat.le_of_ble_eq_true rfl) rfl dX2_lastPrice_8 (fun H locs hP hD hS => ?_)
  cases h
  exact q_iret hQ hx hb hr hlocks hP hK hD hS dX2_lastPrice_11
set_option maxHeartbeats 4000000 in
set_option maxRecDepth 100000 in
theorem c_X2_start (l : Launch) (dC : Nat → ClassId) (dI : Nat → Nat → Nat) (cyI : ClassId) (nw aF aT aP aC aU : Nat) (sz : Nat) (nN nA : Int32) (nF nT nP nC nU : Nat → Int32) (p0 : Int32) (res : Int32) (h : pX2_start nF nT p0 = some res) : Met l yX2_start wsX2_start { frames := 1, cells := 0, slots := 0, locals := 20 } (va_Pc [.ref nw, .int p0] (zPre (dC, dI) (wX2 cyI nw aF aT aP aC aU nN nA nF nT nP nC nU) [(cyI, .int)] sz)) (zQi (dC, dI) (wX2 cyI nw aF aT aP aC aU nN nA nF nT nP nC nU) [(cyI, .int)] (res) (va_A (wX2 cyI nw aF aT aP aC aU nN nA nF nT nP nC nU) sz)) 0 0 (va_A (wX2 cyI nw aF aT aP aC aU nN nA nF nT nP nC nU) sz) := by
  refine q_ofWi (cc := cX2_start) (maxL := 2) (rt := (some .int)) (by decide) rfl (Nat.le_of_ble_eq_true rfl) ?_
  intro p e s m args below meth c ls A Q H locs hQ hx hb hr hts hown hlocks hml hA hK hP hD hS hl
  have hl : lv_has ls 2 [(0, .ref nw), (1, .int p0)] := hl
  have k0 := hts (.fieldLink RX2 19 "ConvexConduit$Network" "to" "[I") (by decide +kernel)
  have k1 : ∀ w ∈ u_ws RX2 TX2 7, w ∈ wsX2_start := by decide +kernel
  have k2 := hts (.fieldLink RX2 15 "ConvexConduit$Network" "from" "[I") (by decide +kernel)
  unfold pX2_start at h
  refine lv_iload_n hx hb dX2_start_0 rfl (lv_at hl 1 rfl) ?_
  obtain ⟨b1, e9, h⟩ := bd h
  refine q_callSi (ret := b2i b1) (As := [.int p0]) ⟨hx, hb, hml, hown, hts⟩ (c_X2_goesAlong l dC dI H.size p0 _ e9) (va_cwS 1 hts gX2_start_X2_goesAlong rfl rfl rfl (by decide +kernel) ⟨Nat.le_of_ble_eq_true rfl, Nat.le_of_ble_eq_true rfl⟩) hK hP hD hS hA [0, 1, 2, 3, 4, 5] rfl rfl rfl hl.1 (Nat.le_of_ble_eq_true rfl) (Nat.le_of_ble_eq_true rfl) (Nat.le_of_ble_eq_true rfl) rfl dX2_start_1 (fun H locs hP hD hS => ?_)
  refine lv_if_eq (tgt := 19) hx hb dX2_start_4 (by decide) (fun c9 => ?_) (fun c9 => ?_)
  · have h := ipos c9 h
    refine lv_aload_n hx hb dX2_start_19 rfl (lv_at hl 0 rfl) ?_
    refine va_get (D := (dC, dI)) (ci := 2) (v := .ref aT) (C := RX2) (T := TX2) (N := 7) hx hb hts k1 hown hK hP 0 rfl rfl 3 (by decide) k0 (fun _ h9 => h9) rfl dX2_start_20 ?_
    refine lv_iload_n hx hb dX2_start_23 rfl (lv_at hl 1 rfl) ?_
    obtain ⟨r2, e9, h⟩ := bd h
    refine q_callSi (ret := r2) (As := [.int p0]) ⟨hx, hb, hml, hown, hts⟩ (c_X2_arcOf l dC dI H.size p0 _ e9) (va_cwS 1 hts gX2_start_X2_arcOf rfl rfl rfl (by decide +kernel) ⟨Nat.le_of_ble_eq_true rfl, Nat.le_of_ble_eq_true rfl⟩) hK hP hD hS hA [0, 1, 2, 3, 4, 5] rfl rfl rfl hl.1 (Nat.le_of_ble_eq_true rfl) (Nat.le_of_ble_eq_true rfl) (Nat.le_of_ble_eq_true rfl) rfl dX2_start_24 (fun H locs hP hD hS => ?_)
    obtain ⟨t3, e9, h⟩ := bd h
    refine q_iald hx hb hK hP 2 0 rfl rfl e9 dX2_start_27 ?_
    cases h
    exact q_iret hQ hx hb hr hlocks hP hK hD hS dX2_start_28
  · have h := ineg c9 h
    refine lv_aload_n hx hb dX2_start_7 rfl (lv_at hl 0 rfl) ?_
    refine va_get (D := (dC, dI)) (ci := 2) (v := .ref aF) (C := RX2) (T := TX2) (N := 7) hx hb hts k1 hown hK hP 0 rfl rfl 2 (by decide) k2 (fun _ h9 => h9) rfl dX2_start_8 ?_
    refine lv_iload_n hx hb dX2_start_11 rfl (lv_at hl 1 rfl) ?_
    obtain ⟨r4, e9, h⟩ := bd h
    refine q_callSi (ret := r4) (As := [.int p0]) ⟨hx, hb, hml, hown, hts⟩ (c_X2_arcOf l dC dI H.size p0 _ e9) (va_cwS 1 hts gX2_start_X2_arcOf rfl rfl rfl (by decide +kernel) ⟨Nat.le_of_ble_eq_true rfl, Nat.le_of_ble_eq_true rfl⟩) hK hP hD hS hA [0, 1, 2, 3, 4, 5] rfl rfl rfl hl.1 (Nat.le_of_ble_eq_true rfl) (Nat.le_of_ble_eq_true rfl) (Nat.le_of_ble_eq_true rfl) rfl dX2_start_12 (fun H locs hP hD hS => ?_)
    obtain ⟨t5, e9, h⟩ := bd h
    refine q_iald hx hb hK hP 1 0 rfl rfl e9 dX2_start_15 ?_
    refine lv_goto (tgt := 28) hx hb dX2_start_16 (by decide) ?_
    cases h
    exact q_iret hQ hx hb hr hlocks hP hK hD hS dX2_start_28
set_option maxHeartbeats 4000000 in
set_option maxRecDepth 100000 in
theorem c_X2_end (l : Launch) (dC : Nat → ClassId) (dI : Nat → Nat → Nat) (cyI : ClassId) (nw aF aT aP aC aU : Nat) (sz : Nat) (nN nA : Int32) (nF nT nP nC nU : Nat → Int32) (p0 : Int32) (res : Int32) (h : pX2_end nF nT p0 = some res) : Met l yX2_end wsX2_end { frames := 1, cells := 0, slots := 0, locals := 20 } (va_Pc [.ref nw, .int p0] (zPre (dC, dI) (wX2 cyI nw aF aT aP aC aU nN nA nF nT nP nC nU) [(cyI, .int)] sz)) (zQi (dC, dI) (wX2 cyI nw aF aT aP aC aU nN nA nF nT nP nC nU) [(cyI, .int)] (res) (va_A (wX2 cyI nw aF aT aP aC aU nN nA nF nT nP nC nU) sz)) 0 0 (va_A (wX2 cyI nw aF aT aP aC aU nN nA nF nT nP nC nU) sz) := by
  refine q_ofWi (cc := cX2_end) (maxL := 2) (rt := (some .int)) (by decide) rfl (Nat.le_of_ble_eq_true rfl) ?_
  intro p e s m args below meth c ls A Q H locs hQ hx hb hr hts hown hlocks hml hA hK hP hD hS hl
  have hl : lv_has ls 2 [(0, .ref nw), (1, .int p0)] := hl
  have k0 := hts (.fieldLink RX2 15 "ConvexConduit$Network" "from" "[I") (by decide +kernel)
  have k1 : ∀ w ∈ u_ws RX2 TX2 7, w ∈ wsX2_end := by decide +kernel
  have k2 := hts (.fieldLink RX2 19 "ConvexConduit$Network" "to" "[I") (by decide +kernel)
  unfold pX2_end at h
  refine lv_iload_n hx hb dX2_end_0 rfl (lv_at hl 1 rfl) ?_
  obtain ⟨b1, e9, h⟩ := bd h
  refine q_callSi (ret := b2i b1) (As := [.int p0]) ⟨hx, hb, hml, hown, hts⟩ (c_X2_goesAlong l dC dI H.size p0 _ e9) (va_cwS 1 hts gX2_end_X2_goesAlong rfl rfl rfl (by decide +kernel) ⟨Nat.le_of_ble_eq_true rfl, Nat.le_of_ble_eq_true rfl⟩) hK hP hD hS hA [0, 1, 2, 3, 4, 5] rfl rfl rfl hl.1 (Nat.le_of_ble_eq_true rfl) (Nat.le_of_ble_eq_true rfl) (Nat.le_of_ble_eq_true rfl) rfl dX2_end_1 (fun H locs hP hD hS => ?_)
  refine lv_if_eq (tgt := 19) hx hb dX2_end_4 (by decide) (fun c9 => ?_) (fun c9 => ?_)
  · have h := ipos c9 h
    refine lv_aload_n hx hb dX2_end_19 rfl (lv_at hl 0 rfl) ?_
    refine va_get (D := (dC, dI)) (ci := 2) (v := .ref aF) (C := RX2) (T := TX2) (N := 7) hx hb hts k1 hown hK hP 0 rfl rfl 2 (by decide) k0 (fun _ h9 => h9) rfl dX2_end_20 ?_
    refine lv_iload_n hx hb dX2_end_23 rfl (lv_at hl 1 rfl) ?_
    obtain ⟨r2, e9, h⟩ := bd h
    refine q_callSi (ret := r2) (As := [.int p0]) ⟨hx, hb, hml, hown, hts⟩ (c_X2_arcOf l dC dI H.size p0 _ e9) (va_cwS 1 hts gX2_end_X2_arcOf rfl rfl rfl (by decide +kernel) ⟨Nat.le_of_ble_eq_true rfl, Nat.le_of_ble_eq_true rfl⟩) hK hP hD hS hA [0, 1, 2, 3, 4, 5] rfl rfl rfl hl.1 (Nat.le_of_ble_eq_true rfl) (Nat.le_of_ble_eq_true rfl) (Nat.le_of_ble_eq_true rfl) rfl dX2_end_24 (fun H locs hP hD hS => ?_)
    obtain ⟨t3, e9, h⟩ := bd h
    refine q_iald hx hb hK hP 1 0 rfl rfl e9 dX2_end_27 ?_
    cases h
    exact q_iret hQ hx hb hr hlocks hP hK hD hS dX2_end_28
  · have h := ineg c9 h
    refine lv_aload_n hx hb dX2_end_7 rfl (lv_at hl 0 rfl) ?_
    refine va_get (D := (dC, dI)) (ci := 2) (v := .ref aT) (C := RX2) (T := TX2) (N := 7) hx hb hts k1 hown hK hP 0 rfl rfl 3 (by decide) k2 (fun _ h9 => h9) rfl dX2_end_8 ?_
    refine lv_iload_n hx hb dX2_end_11 rfl (lv_at hl 1 rfl) ?_
    obtain ⟨r4, e9, h⟩ := bd h
    refine q_callSi (ret := r4) (As := [.int p0]) ⟨hx, hb, hml, hown, hts⟩ (c_X2_arcOf l dC dI H.size p0 _ e9) (va_cwS 1 hts gX2_end_X2_arcOf rfl rfl rfl (by decide +kernel) ⟨Nat.le_of_ble_eq_true rfl, Nat.le_of_ble_eq_true rfl⟩) hK hP hD hS hA [0, 1, 2, 3, 4, 5] rfl rfl rfl hl.1 (Nat.le_of_ble_eq_true rfl) (Nat.le_of_ble_eq_true rfl) (Nat.le_of_ble_eq_true rfl) rfl dX2_end_12 (fun H locs hP hD hS => ?_)
    obtain ⟨t5, e9, h⟩ := bd h
    refine q_iald hx hb hK hP 2 0 rfl rfl e9 dX2_end_15 ?_
    refine lv_goto (tgt := 28) hx hb dX2_end_16 (by decide) ?_
    cases h
    exact q_iret hQ hx hb hr hlocks hP hK hD hS dX2_end_28
set_option maxHeartbeats 4000000 in
set_option maxRecDepth 100000 in
theorem c_X2_addPiece (l : Launch) (dC : Nat → ClassId) (dI : Nat → Nat → Nat) (cyI : ClassId) (nw aF aT aP aC aU : Nat) (sz : Nat) (nN nA : Int32) (nF nT nP nC nU : Nat → Int32) (p0 p1 p2 : Int32) (N : Nat) (res : (Nat → Int32) × (Nat → Int32) × (Nat → Int32)) (h : pX2_addPiece N nP nC nU p0 p1 p2 = some res) : Met l yX2_addPiece wsX2_addPiece { frames := 0, cells := 0, slots := 0, locals := 0 } (va_Pc [.ref nw, .int p0, .int p1, .int p2] (zPre (dC, dI) (wX2 cyI nw aF aT aP aC aU nN nA nF nT nP nC nU) [(cyI, .int)] sz)) (zQv (dC, dI) (wX2 cyI nw aF aT aP aC aU nN nA nF nT res.1 res.2.1 res.2.2) [(cyI, .int)] (va_A (wX2 cyI nw aF aT aP aC aU nN nA nF nT nP nC nU) sz)) 0 0 (va_A (wX2 cyI nw aF aT aP aC aU nN nA nF nT nP nC nU) sz) := by
  refine q_ofWv (cc := cX2_addPiece) (maxL := 5) (rt := none) (by decide) rfl (Nat.le_of_ble_eq_true rfl) ?_
  intro p e s m args below meth c ls A Q H locs hQ hx hb hr hts hown hlocks hml hA hK hP hD hS hl
  have hl : lv_has ls 5 [(0, .ref nw), (1, .int p0), (2, .int p1), (3, .int p2)] := hl
  have k0 := hts (.fieldLink RX2 25 "ConvexConduit$Network" "capacity" "[I") (by decide +kernel)
  have k1 : ∀ w ∈ u_ws RX2 TX2 7, w ∈ wsX2_addPiece := by decide +kernel
  have k2 := hts (.fieldLink RX2 28 "ConvexConduit$Network" "prices" "[I") (by decide +kernel)
  have k3 := hts (.fieldLink RX2 22 "ConvexConduit$Network" "pieces" "[I") (by decide +kernel)
  unfold pX2_addPiece at h
  refine lv_iconst (v := 0) hx hb dX2_addPiece_0 (by decide) ?_
  refine lv_istore (lv' := [(4, .int 0), (0, .ref nw), (1, .int p0), (2, .int p1), (3, .int p2)]) hx hb dX2_addPiece_1 hl (by decide) rfl (fun ls hl => ?_)
  obtain ⟨x4_9, nC_10, nU_11, e0, h⟩ := bd3 h
  have hT0 : ∀ (H : Heap) (locs : List Loc), va_P (dC, dI) vwCl (wX2 cyI nw aF aT aP aC aU nN nA nF nT nP nC_10 nU_11) H → va_D A (wX2 cyI nw aF aT aP aC aU nN nA nF nT nP nC_10 nU_11) → va_S A s.heap H locs → ∀ ls : Array Slot, lv_has ls 5 [(0, .ref nw), (1, .int p0), (2, .int p1), (3, .int p2), (4, .int x4_9)] → W p l e { frames := 0, cells := 0, slots := 0, locals := 0 } s m args below meth c H locs 0 0 Q (F0 m 53 ls []) := by
    intro H locs hP hD hS ls hl
    refine lv_aload_n hx hb dX2_addPiece_53 rfl (lv_at hl 0 rfl) ?_
    refine va_get (D := (dC, dI)) (ci := 2) (v := .ref aP) (C := RX2) (T := TX2) (N := 7) hx hb hts k1 hown hK hP 0 rfl rfl 4 (by decide) k3 (fun _ h9 => h9) rfl dX2_addPiece_54 ?_
    refine lv_iload_n hx hb dX2_addPiece_57 rfl (lv_at hl 1 rfl) ?_
    refine lv_dup2_11 hx hb dX2_addPiece_58 rfl rfl ?_
    obtain ⟨t12, e9, h⟩ := bd h
    refine q_iald hx hb hK hP 3 0 rfl rfl e9 dX2_addPiece_59 ?_
    refine lv_iconst (v := 1) hx hb dX2_addPiece_60 (by decide) ?_
    refine lv_iadd hx hb dX2_addPiece_61 ?_
    obtain ⟨nP_13, e9, h⟩ := bd h
    refine q_iast (ws2 := wX2 cyI nw aF aT aP aC aU nN nA nF nT nP_13 nC_10 nU_11) hx hb hK hP hD hS 3 0 rfl rfl e9 dX2_addPiece_62 rfl (fun H locs hP hD hS => ?_)
    cases h
    exact q_vret hQ hx hb hr hlocks hP hK hD hS dX2_addPiece_63
  have hL0 : ∀ (n9 : Nat) (x4_1 : Int32) (nC_2 : Nat → Int32) (nU_3 : Nat → Int32), lp (un3 (pX2_addPiece_l3 p0 p1 p2)) n9 ((x4_1, nC_2, nU_3)) = some ((x4_9, nC_10, nU_11)) → ∀ (H : Heap) (locs : List Loc), va_P (dC, dI) vwCl (wX2 cyI nw aF aT aP aC aU nN nA nF nT nP nC_2 nU_3) H → va_D A (wX2 cyI nw aF aT aP aC aU nN nA nF nT nP nC_2 nU_3) → va_S A s.heap H locs → ∀ ls : Array Slot, lv_has ls 5 [(0, .ref nw), (1, .int p0), (2, .int p1), (3, .int p2), (4, .int x4_1)] → W p l e { frames := 0, cells := 0, slots := 0, locals := 0 } s m args below meth c H locs 0 0 Q (F0 m 3 ls []) := by
    intro n9
    induction n9 with
    | zero =>
      intro x4_1 nC_2 nU_3 h
      exact lp0 h
    | succ n9 ih0 =>
      intro x4_1 nC_2 nU_3 h H locs hP hD hS ls hl
      obtain ⟨o9, e, h⟩ := lps h
      replace e : pX2_addPiece_l3 p0 p1 p2 x4_1 nC_2 nU_3 = some o9 := e
      unfold pX2_addPiece_l3 at e
      refine lv_iload hx hb dX2_addPiece_3 (lv_at hl 4 rfl) ?_
      refine lv_iload_n hx hb dX2_addPiece_5 rfl (lv_at hl 2 rfl) ?_
      refine lv_icmp_ge (tgt := 53) hx hb dX2_addPiece_6 (by decide) (fun c9 => ?_) (fun c9 => ?_)
      · have e := ipos c9 e
        cases e
        have h := lpx h
        cases h
        exact hT0 _ _ hP hD hS _ (lv_sub hl [0, 1, 2, 3, 4] rfl)
      · have e := ineg c9 e
        refine lv_aload_n hx hb dX2_addPiece_9 rfl (lv_at hl 0 rfl) ?_
        refine va_get (D := (dC, dI)) (ci := 2) (v := .ref aC) (C := RX2) (T := TX2) (N := 7) hx hb hts k1 hown hK hP 0 rfl rfl 5 (by decide) k0 (fun _ h9 => h9) rfl dX2_addPiece_10 ?_
        refine lv_iload_n hx hb dX2_addPiece_13 rfl (lv_at hl 1 rfl) ?_
        obtain ⟨t4, e9, e⟩ := bd e
        refine q_iald hx hb hK hP 4 0 rfl rfl e9 dX2_addPiece_14 ?_
        refine lv_bipush (v := 15) hx hb dX2_addPiece_15 (by decide) ?_
        refine lv_icmp_ge (tgt := 53) hx hb dX2_addPiece_17 (by decide) (fun c9 => ?_) (fun c9 => ?_)
        · have e := ipos c9 e
          cases e
          have h := lpx h
          cases h
          exact hT0 _ _ hP hD hS _ (lv_sub hl [0, 1, 2, 3, 4] rfl)
        · have e := ineg c9 e
          refine lv_aload_n hx hb dX2_addPiece_20 rfl (lv_at hl 0 rfl) ?_
          refine va_get (D := (dC, dI)) (ci := 2) (v := .ref aU) (C := RX2) (T := TX2) (N := 7) hx hb hts k1 hown hK hP 0 rfl rfl 6 (by decide) k2 (fun _ h9 => h9) rfl dX2_addPiece_21 ?_
          refine lv_iload_n hx hb dX2_addPiece_24 rfl (lv_at hl 1 rfl) ?_
          refine lv_bipush (v := 15) hx hb dX2_addPiece_25 (by decide) ?_
          refine lv_imul hx hb dX2_addPiece_27 ?_
          refine lv_aload_n hx hb dX2_addPiece_28 rfl (lv_at hl 0 rfl) ?_
          refine va_get (D := (dC, dI)) (ci := 2) (v := .ref aC) (C := RX2) (T := TX2) (N := 7) hx hb hts k1 hown hK hP 0 rfl rfl 5 (by decide) k0 (fun _ h9 => h9) rfl dX2_addPiece_29 ?_
          refine lv_iload_n hx hb dX2_addPiece_32 rfl (lv_at hl 1 rfl) ?_
          obtain ⟨t5, e9, e⟩ := bd e
          refine q_iald hx hb hK hP 4 0 rfl rfl e9 dX2_addPiece_33 ?_
          refine lv_iadd hx hb dX2_addPiece_34 ?_
          refine lv_iload_n hx hb dX2_addPiece_35 rfl (lv_at hl 3 rfl) ?_
          obtain ⟨nU_6, e9, e⟩ := bd e
          refine q_iast (ws2 := wX2 cyI nw aF aT aP aC aU nN nA nF nT nP nC_2 nU_6) hx hb hK hP hD hS 5 0 rfl rfl e9 dX2_addPiece_36 rfl (fun H locs hP hD hS => ?_)
          refine lv_aload_n hx hb dX2_addPiece_37 rfl (lv_at hl 0 rfl) ?_
          refine va_get (D := (dC, dI)) (ci := 2) (v := .ref aC) (C := RX2) (T := TX2) (N := 7) hx hb hts k1 hown hK hP 0 rfl rfl 5 (by decide) k0 (fun _ h9 => h9) rfl dX2_addPiece_38 ?_
          refine lv_iload_n hx hb dX2_addPiece_41 rfl (lv_at hl 1 rfl) ?_
          refine lv_dup2_11 hx hb dX2_addPiece_42 rfl rfl ?_
          obtain ⟨t7, e9, e⟩ := bd e
          refine q_iald hx hb hK hP 4 0 rfl rfl e9 dX2_addPiece_43 ?_
          refine lv_iconst (v := 1) hx hb dX2_addPiece_44 (by decide) ?_
          refine lv_iadd hx hb dX2_addPiece_45 ?_
          obtain ⟨nC_8, e9, e⟩ := bd e
          refine q_iast (ws2 := wX2 cyI nw aF aT aP aC aU nN nA nF nT nP nC_8 nU_6) hx hb hK hP hD hS 4 0 rfl rfl e9 dX2_addPiece_46 rfl (fun H locs hP hD hS => ?_)
          refine lv_iinc (v := x4_1 + 1) (lv' := [(4, .int (x4_1 + 1)), (0, .ref nw), (1, .int p0), (2, .int p1), (3, .int p2)]) hx hb dX2_addPiece_47 hl (k := 4) rfl (by rfl) (by decide) rfl (fun ls hl => ?_)
          refine lv_goto (tgt := 3) hx hb dX2_addPiece_50 (by decide) ?_
          cases e
          exact ih0 _ _ _ h _ _ hP hD hS _ (lv_sub hl [1, 2, 3, 4, 0] rfl)
  exact hL0 N _ _ _  e0 _ _ hP hD hS _ (lv_sub hl [1, 2, 3, 4, 0] rfl)
set_option maxHeartbeats 4000000 in
set_option maxRecDepth 100000 in
theorem c_X2_addArc (l : Launch) (dC : Nat → ClassId) (dI : Nat → Nat → Nat) (cyI : ClassId) (nw aF aT aP aC aU : Nat) (sz : Nat) (nN nA : Int32) (nF nT nP nC nU : Nat → Int32) (p0 p1 p2 p3 : Int32) (N : Nat) (res : Int32 × Int32 × (Nat → Int32) × (Nat → Int32) × (Nat → Int32) × (Nat → Int32) × (Nat → Int32)) (h : pX2_addArc N nA nF nT nP nC nU p0 p1 p2 p3 = some res) : Met l yX2_addArc wsX2_addArc { frames := 1, cells := 0, slots := 0, locals := 24 } (va_Pc [.ref nw, .int p0, .int p1, .int p2, .int p3] (zPre (dC, dI) (wX2 cyI nw aF aT aP aC aU nN nA nF nT nP nC nU) [(cyI, .int)] sz)) (zQi (dC, dI) (wX2 cyI nw aF aT aP aC aU nN res.2.1 res.2.2.1 res.2.2.2.1 res.2.2.2.2.1 res.2.2.2.2.2.1 res.2.2.2.2.2.2) [(cyI, .int)] (res.1) (va_A (wX2 cyI nw aF aT aP aC aU nN nA nF nT nP nC nU) sz)) 0 0 (va_A (wX2 cyI nw aF aT aP aC aU nN nA nF nT nP nC nU) sz) := by
  refine q_ofWi (cc := cX2_addArc) (maxL := 6) (rt := (some .int)) (by decide) rfl (Nat.le_of_ble_eq_true rfl) ?_
  intro p e s m args below meth c ls A Q H locs hQ hx hb hr hts hown hlocks hml hA hK hP hD hS hl
  have hl : lv_has ls 6 [(0, .ref nw), (1, .int p0), (2, .int p1), (3, .int p2), (4, .int p3)] := hl
  have k0 := hts (.fieldLink RX2 9 "ConvexConduit$Network" "arcs" "I") (by decide +kernel)
  have k1 : ∀ w ∈ u_ws RX2 TX2 7, w ∈ wsX2_addArc := by decide +kernel
  have k2 := hts (.fieldLink RX2 15 "ConvexConduit$Network" "from" "[I") (by decide +kernel)
  have k3 := hts (.fieldLink RX2 19 "ConvexConduit$Network" "to" "[I") (by decide +kernel)
  unfold pX2_addArc at h
  refine lv_aload_n hx hb dX2_addArc_0 rfl (lv_at hl 0 rfl) ?_
  refine va_get (D := (dC, dI)) (ci := 2) (v := .int nA) (C := RX2) (T := TX2) (N := 7) hx hb hts k1 hown hK hP 0 rfl rfl 1 (by decide) k0 (fun _ h9 => h9) rfl dX2_addArc_1 ?_
  refine lv_istore (lv' := [(5, .int nA), (0, .ref nw), (1, .int p0), (2, .int p1), (3, .int p2), (4, .int p3)]) hx hb dX2_addArc_4 hl (by decide) rfl (fun ls hl => ?_)
  refine lv_iload hx hb dX2_addArc_6 (lv_at hl 0 rfl) ?_
  refine lv_bipush (v := 12) hx hb dX2_addArc_8 (by decide) ?_
  refine lv_icmp_lt (tgt := 15) hx hb dX2_addArc_10 (by decide) (fun c9 => ?_) (fun c9 => ?_)
  · have h := ipos c9 h
    refine lv_aload_n hx hb dX2_addArc_15 rfl (lv_at hl 1 rfl) ?_
    refine va_get (D := (dC, dI)) (ci := 2) (v := .ref aF) (C := RX2) (T := TX2) (N := 7) hx hb hts k1 hown hK hP 0 rfl rfl 2 (by decide) k2 (fun _ h9 => h9) rfl dX2_addArc_16 ?_
    refine lv_iload hx hb dX2_addArc_19 (lv_at hl 0 rfl) ?_
    refine lv_iload_n hx hb dX2_addArc_21 rfl (lv_at hl 2 rfl) ?_
    obtain ⟨nF_1, e9, h⟩ := bd h
    refine q_iast (ws2 := wX2 cyI nw aF aT aP aC aU nN nA nF_1 nT nP nC nU) hx hb hK hP hD hS 1 0 rfl rfl e9 dX2_addArc_22 rfl (fun H locs hP hD hS => ?_)
    refine lv_aload_n hx hb dX2_addArc_23 rfl (lv_at hl 1 rfl) ?_
    refine va_get (D := (dC, dI)) (ci := 2) (v := .ref aT) (C := RX2) (T := TX2) (N := 7) hx hb hts k1 hown hK hP 0 rfl rfl 3 (by decide) k3 (fun _ h9 => h9) rfl dX2_addArc_24 ?_
    refine lv_iload hx hb dX2_addArc_27 (lv_at hl 0 rfl) ?_
    refine lv_iload_n hx hb dX2_addArc_29 rfl (lv_at hl 3 rfl) ?_
    obtain ⟨nT_2, e9, h⟩ := bd h
    refine q_iast (ws2 := wX2 cyI nw aF aT aP aC aU nN nA nF_1 nT_2 nP nC nU) hx hb hK hP hD hS 2 0 rfl rfl e9 dX2_addArc_30 rfl (fun H locs hP hD hS => ?_)
    refine lv_aload_n hx hb dX2_addArc_31 rfl (lv_at hl 1 rfl) ?_
    refine lv_dup hx hb dX2_addArc_32 rfl ?_
    refine va_get (D := (dC, dI)) (ci := 2) (v := .int nA) (C := RX2) (T := TX2) (N := 7) hx hb hts k1 hown hK hP 0 rfl rfl 1 (by decide) k0 (fun _ h9 => h9) rfl dX2_addArc_33 ?_
    refine lv_iconst (v := 1) hx hb dX2_addArc_36 (by decide) ?_
    refine lv_iadd hx hb dX2_addArc_37 ?_
    refine va_put (D := (dC, dI)) (ci := 2) (v := .int (nA + 1)) (ty := .int) (C := RX2) (T := TX2) (N := 7) hx hb hts k1 tyX2 tyX2_ok nmX2 hown hK hP hD hS 0 rfl rfl 1 (by decide) k0 (fun _ h9 => h9) rfl (by decide +kernel) rfl rfl (Nat.le_of_ble_eq_true rfl) dX2_addArc_38 (fun H locs hP hD hS => ?_)
    have hP : va_P (dC, dI) vwCl (wX2 cyI nw aF aT aP aC aU nN (nA + 1) nF_1 nT_2 nP nC nU) H := hP
    have hD : va_D A (wX2 cyI nw aF aT aP aC aU nN (nA + 1) nF_1 nT_2 nP nC nU) := hD
    refine lv_aload_n hx hb dX2_addArc_41 rfl (lv_at hl 1 rfl) ?_
    refine lv_iload hx hb dX2_addArc_42 (lv_at hl 0 rfl) ?_
    refine lv_iload_n hx hb dX2_addArc_44 rfl (lv_at hl 4 rfl) ?_
    refine lv_iload hx hb dX2_addArc_45 (lv_at hl 5 rfl) ?_
    obtain ⟨nP_3, nC_4, nU_5, e9, h⟩ := bd3 h
    refine q_callVv (As := [.int nA, .int p2, .int p3]) (w1 := wX2 cyI nw aF aT aP aC aU nN (nA + 1) nF_1 nT_2 nP_3 nC_4 nU_5) (ws2 := wX2 cyI nw aF aT aP aC aU nN (nA + 1) nF_1 nT_2 nP_3 nC_4 nU_5) ⟨hx, hb, hml, hown, hts⟩ (c_X2_addPiece l dC dI cyI nw aF aT aP aC aU H.size nN (nA + 1) nF_1 nT_2 nP nC nU nA p2 p3 N _ e9) (cwV 3 hts gX2_addArc_X2_addPiece rfl rfl rfl (by decide +kernel) ⟨Nat.le_of_ble_eq_true rfl, Nat.le_of_ble_eq_true rfl⟩) hK hP hD hS hA [0, 1, 2, 3, 4, 5] [] [0, 1, 2, 3, 4, 5] [0] rfl rfl rfl rfl (by decide) rfl rfl rfl 2 0 rfl rfl rfl hl.1 (Nat.le_of_ble_eq_true rfl) (Nat.le_of_ble_eq_true rfl) (Nat.le_of_ble_eq_true rfl) rfl dX2_addArc_47 (fun H locs hP hD hS => ?_)
    refine lv_iload hx hb dX2_addArc_50 (lv_at hl 0 rfl) ?_
    cases h
    exact q_iret hQ hx hb hr hlocks hP hK hD hS dX2_addArc_52
  · have h := ineg c9 h
    refine lv_iconst (v := -1) hx hb dX2_addArc_13 (by decide) ?_
    cases h
    exact q_iret hQ hx hb hr hlocks hP hK hD hS dX2_addArc_14
end
