theorem dX2_init_0 : decode cX2_init 0 = .ok (.aload_n 0, 1) := by decide +kernel
theorem dX2_init_1 : decode cX2_init 1 = .ok (.invokespecial 3, 3) := by decide +kernel
theorem dX2_init_4 : decode cX2_init 4 = .ok (.aload_n 0, 1) := by decide +kernel
theorem dX2_init_5 : decode cX2_init 5 = .ok (.iconst 0, 1) := by decide +kernel
theorem dX2_init_6 : decode cX2_init 6 = .ok (.putfield 9, 3) := by decide +kernel
theorem dX2_init_9 : decode cX2_init 9 = .ok (.aload_n 0, 1) := by decide +kernel
theorem dX2_init_10 : decode cX2_init 10 = .ok (.bipush 12, 2) := by decide +kernel
theorem dX2_init_12 : decode cX2_init 12 = .ok (.newarray .int, 2) := by decide +kernel
theorem dX2_init_14 : decode cX2_init 14 = .ok (.putfield 15, 3) := by decide +kernel
theorem dX2_init_17 : decode cX2_init 17 = .ok (.aload_n 0, 1) := by decide +kernel
theorem dX2_init_18 : decode cX2_init 18 = .ok (.bipush 12, 2) := by decide +kernel
theorem dX2_init_20 : decode cX2_init 20 = .ok (.newarray .int, 2) := by decide +kernel
theorem dX2_init_22 : decode cX2_init 22 = .ok (.putfield 19, 3) := by decide +kernel
theorem dX2_init_25 : decode cX2_init 25 = .ok (.aload_n 0, 1) := by decide +kernel
theorem dX2_init_26 : decode cX2_init 26 = .ok (.bipush 12, 2) := by decide +kernel
theorem dX2_init_28 : decode cX2_init 28 = .ok (.newarray .int, 2) := by decide +kernel
theorem dX2_init_30 : decode cX2_init 30 = .ok (.putfield 22, 3) := by decide +kernel
theorem dX2_init_33 : decode cX2_init 33 = .ok (.aload_n 0, 1) := by decide +kernel
theorem dX2_init_34 : decode cX2_init 34 = .ok (.bipush 12, 2) := by decide +kernel
theorem dX2_init_36 : decode cX2_init 36 = .ok (.newarray .int, 2) := by decide +kernel
theorem dX2_init_38 : decode cX2_init 38 = .ok (.putfield 25, 3) := by decide +kernel
theorem dX2_init_41 : decode cX2_init 41 = .ok (.aload_n 0, 1) := by decide +kernel
theorem dX2_init_42 : decode cX2_init 42 = .ok (.sipush 180, 3) := by decide +kernel
theorem dX2_init_45 : decode cX2_init 45 = .ok (.newarray .int, 2) := by decide +kernel
theorem dX2_init_47 : decode cX2_init 47 = .ok (.putfield 28, 3) := by decide +kernel
theorem dX2_init_50 : decode cX2_init 50 = .ok (.aload_n 0, 1) := by decide +kernel
theorem dX2_init_51 : decode cX2_init 51 = .ok (.iload_n 1, 1) := by decide +kernel
theorem dX2_init_52 : decode cX2_init 52 = .ok (.putfield 31, 3) := by decide +kernel
theorem dX2_init_55 : decode cX2_init 55 = .ok (.return_, 1) := by decide +kernel
set_option maxRecDepth 20000 in
theorem ggX2_addArc_X2_addPiece : GoodIn wsX2_addArc wsX2_addPiece := goodIn_r _ [8, 9, 10, 11, 12, 13, 14, 15, 16, 17, 18] (by decide +kernel) (by decide +kernel)
set_option maxRecDepth 20000 in
theorem gX2_addArc_X2_addPiece : GoodIn wsX2_addArc (wsV RX2 34 RX2 yX2_addPiece wsX2_addPiece) := goodIn_app (goodIn_of _ (by decide +kernel)) ggX2_addArc_X2_addPiece
theorem dX2_addArc_0 : decode cX2_addArc 0 = .ok (.aload_n 0, 1) := by decide +kernel
theorem dX2_addArc_1 : decode cX2_addArc 1 = .ok (.getfield 9, 3) := by decide +kernel
theorem dX2_addArc_4 : decode cX2_addArc 4 = .ok (.istore 5, 2) := by decide +kernel
theorem dX2_addArc_6 : decode cX2_addArc 6 = .ok (.iload 5, 2) := by decide +kernel
theorem dX2_addArc_8 : decode cX2_addArc 8 = .ok (.bipush 12, 2) := by decide +kernel
theorem dX2_addArc_10 : decode cX2_addArc 10 = .ok (.if_icmp .lt 5, 3) := by decide +kernel
theorem dX2_addArc_13 : decode cX2_addArc 13 = .ok (.iconst (-1), 1) := by decide +kernel
theorem dX2_addArc_14 : decode cX2_addArc 14 = .ok (.ireturn, 1) := by decide +kernel
theorem dX2_addArc_15 : decode cX2_addArc 15 = .ok (.aload_n 0, 1) := by decide +kernel
theorem dX2_addArc_16 : decode cX2_addArc 16 = .ok (.getfield 15, 3) := by decide +kernel
theorem dX2_addArc_19 : decode cX2_addArc 19 = .ok (.iload 5, 2) := by decide +kernel
theorem dX2_addArc_21 : decode cX2_addArc 21 = .ok (.iload_n 1, 1) := by decide +kernel
theorem dX2_addArc_22 : decode cX2_addArc 22 = .ok (.iastore, 1) := by decide +kernel
theorem dX2_addArc_23 : decode cX2_addArc 23 = .ok (.aload_n 0, 1) := by decide +kernel
theorem dX2_addArc_24 : decode cX2_addArc 24 = .ok (.getfield 19, 3) := by decide +kernel
theorem dX2_addArc_27 : decode cX2_addArc 27 = .ok (.iload 5, 2) := by decide +kernel
theorem dX2_addArc_29 : decode cX2_addArc 29 = .ok (.iload_n 2, 1) := by decide +kernel
theorem dX2_addArc_30 : decode cX2_addArc 30 = .ok (.iastore, 1) := by decide +kernel
theorem dX2_addArc_31 : decode cX2_addArc 31 = .ok (.aload_n 0, 1) := by decide +kernel
theorem dX2_addArc_32 : decode cX2_addArc 32 = .ok (.dup, 1) := by decide +kernel
theorem dX2_addArc_33 : decode cX2_addArc 33 = .ok (.getfield 9, 3) := by decide +kernel
theorem dX2_addArc_36 : decode cX2_addArc 36 = .ok (.iconst 1, 1) := by decide +kernel
theorem dX2_addArc_37 : decode cX2_addArc 37 = .ok (.iadd, 1) := by decide +kernel
theorem dX2_addArc_38 : decode cX2_addArc 38 = .ok (.putfield 9, 3) := by decide +kernel
theorem dX2_addArc_41 : decode cX2_addArc 41 = .ok (.aload_n 0, 1) := by decide +kernel
theorem dX2_addArc_42 : decode cX2_addArc 42 = .ok (.iload 5, 2) := by decide +kernel
theorem dX2_addArc_44 : decode cX2_addArc 44 = .ok (.iload_n 3, 1) := by decide +kernel
theorem dX2_addArc_45 : decode cX2_addArc 45 = .ok (.iload 4, 2) := by decide +kernel
theorem dX2_addArc_47 : decode cX2_addArc 47 = .ok (.invokevirtual 34, 3) := by decide +kernel
theorem dX2_addArc_50 : decode cX2_addArc 50 = .ok (.iload 5, 2) := by decide +kernel
theorem dX2_addArc_52 : decode cX2_addArc 52 = .ok (.ireturn, 1) := by decide +kernel
theorem dX2_addPiece_0 : decode cX2_addPiece 0 = .ok (.iconst 0, 1) := by decide +kernel
theorem dX2_addPiece_1 : decode cX2_addPiece 1 = .ok (.istore 4, 2) := by decide +kernel
theorem dX2_addPiece_3 : decode cX2_addPiece 3 = .ok (.iload 4, 2) := by decide +kernel
theorem dX2_addPiece_5 : decode cX2_addPiece 5 = .ok (.iload_n 2, 1) := by decide +kernel
theorem dX2_addPiece_6 : decode cX2_addPiece 6 = .ok (.if_icmp .ge 47, 3) := by decide +kernel
theorem dX2_addPiece_9 : decode cX2_addPiece 9 = .ok (.aload_n 0, 1) := by decide +kernel
theorem dX2_addPiece_10 : decode cX2_addPiece 10 = .ok (.getfield 25, 3) := by decide +kernel
theorem dX2_addPiece_13 : decode cX2_addPiece 13 = .ok (.iload_n 1, 1) := by decide +kernel
theorem dX2_addPiece_14 : decode cX2_addPiece 14 = .ok (.iaload, 1) := by decide +kernel
theorem dX2_addPiece_15 : decode cX2_addPiece 15 = .ok (.bipush 15, 2) := by decide +kernel
theorem dX2_addPiece_17 : decode cX2_addPiece 17 = .ok (.if_icmp .ge 36, 3) := by decide +kernel
theorem dX2_addPiece_20 : decode cX2_addPiece 20 = .ok (.aload_n 0, 1) := by decide +kernel
theorem dX2_addPiece_21 : decode cX2_addPiece 21 = .ok (.getfield 28, 3) := by decide +kernel
theorem dX2_addPiece_24 : decode cX2_addPiece 24 = .ok (.iload_n 1, 1) := by decide +kernel
theorem dX2_addPiece_25 : decode cX2_addPiece 25 = .ok (.bipush 15, 2) := by decide +kernel
theorem dX2_addPiece_27 : decode cX2_addPiece 27 = .ok (.imul, 1) := by decide +kernel
theorem dX2_addPiece_28 : decode cX2_addPiece 28 = .ok (.aload_n 0, 1) := by decide +kernel
theorem dX2_addPiece_29 : decode cX2_addPiece 29 = .ok (.getfield 25, 3) := by decide +kernel
theorem dX2_addPiece_32 : decode cX2_addPiece 32 = .ok (.iload_n 1, 1) := by decide +kernel
theorem dX2_addPiece_33 : decode cX2_addPiece 33 = .ok (.iaload, 1) := by decide +kernel
theorem dX2_addPiece_34 : decode cX2_addPiece 34 = .ok (.iadd, 1) := by decide +kernel
theorem dX2_addPiece_35 : decode cX2_addPiece 35 = .ok (.iload_n 3, 1) := by decide +kernel
theorem dX2_addPiece_36 : decode cX2_addPiece 36 = .ok (.iastore, 1) := by decide +kernel
theorem dX2_addPiece_37 : decode cX2_addPiece 37 = .ok (.aload_n 0, 1) := by decide +kernel
theorem dX2_addPiece_38 : decode cX2_addPiece 38 = .ok (.getfield 25, 3) := by decide +kernel
theorem dX2_addPiece_41 : decode cX2_addPiece 41 = .ok (.iload_n 1, 1) := by decide +kernel
theorem dX2_addPiece_42 : decode cX2_addPiece 42 = .ok (.dup2, 1) := by decide +kernel
theorem dX2_addPiece_43 : decode cX2_addPiece 43 = .ok (.iaload, 1) := by decide +kernel
theorem dX2_addPiece_44 : decode cX2_addPiece 44 = .ok (.iconst 1, 1) := by decide +kernel
theorem dX2_addPiece_45 : decode cX2_addPiece 45 = .ok (.iadd, 1) := by decide +kernel
theorem dX2_addPiece_46 : decode cX2_addPiece 46 = .ok (.iastore, 1) := by decide +kernel
theorem dX2_addPiece_47 : decode cX2_addPiece 47 = .ok (.iinc 4 1, 3) := by decide +kernel
theorem dX2_addPiece_50 : decode cX2_addPiece 50 = .ok (.goto (-47), 3) := by decide +kernel
theorem dX2_addPiece_53 : decode cX2_addPiece 53 = .ok (.aload_n 0, 1) := by decide +kernel
theorem dX2_addPiece_54 : decode cX2_addPiece 54 = .ok (.getfield 22, 3) := by decide +kernel
theorem dX2_addPiece_57 : decode cX2_addPiece 57 = .ok (.iload_n 1, 1) := by decide +kernel
theorem dX2_addPiece_58 : decode cX2_addPiece 58 = .ok (.dup2, 1) := by decide +kernel
theorem dX2_addPiece_59 : decode cX2_addPiece 59 = .ok (.iaload, 1) := by decide +kernel
theorem dX2_addPiece_60 : decode cX2_addPiece 60 = .ok (.iconst 1, 1) := by decide +kernel
theorem dX2_addPiece_61 : decode cX2_addPiece 61 = .ok (.iadd, 1) := by decide +kernel
theorem dX2_addPiece_62 : decode cX2_addPiece 62 = .ok (.iastore, 1) := by decide +kernel
theorem dX2_addPiece_63 : decode cX2_addPiece 63 = .ok (.return_, 1) := by decide +kernel
theorem dX2_unitPrice_0 : decode cX2_unitPrice 0 = .ok (.iload_n 2, 1) := by decide +kernel
theorem dX2_unitPrice_1 : decode cX2_unitPrice 1 = .ok (.iconst 1, 1) := by decide +kernel
theorem dX2_unitPrice_2 : decode cX2_unitPrice 2 = .ok (.if_icmp .lt 13, 3) := by decide +kernel
theorem dX2_unitPrice_5 : decode cX2_unitPrice 5 = .ok (.iload_n 2, 1) := by decide +kernel
theorem dX2_unitPrice_6 : decode cX2_unitPrice 6 = .ok (.aload_n 0, 1) := by decide +kernel
theorem dX2_unitPrice_7 : decode cX2_unitPrice 7 = .ok (.getfield 25, 3) := by decide +kernel
theorem dX2_unitPrice_10 : decode cX2_unitPrice 10 = .ok (.iload_n 1, 1) := by decide +kernel
theorem dX2_unitPrice_11 : decode cX2_unitPrice 11 = .ok (.iaload, 1) := by decide +kernel
theorem dX2_unitPrice_12 : decode cX2_unitPrice 12 = .ok (.if_icmp .le 6, 3) := by decide +kernel
theorem dX2_unitPrice_15 : decode cX2_unitPrice 15 = .ok (.ldc 38, 2) := by decide +kernel
theorem dX2_unitPrice_17 : decode cX2_unitPrice 17 = .ok (.ireturn, 1) := by decide +kernel
theorem dX2_unitPrice_18 : decode cX2_unitPrice 18 = .ok (.aload_n 0, 1) := by decide +kernel
theorem dX2_unitPrice_19 : decode cX2_unitPrice 19 = .ok (.getfield 28, 3) := by decide +kernel
theorem dX2_unitPrice_22 : decode cX2_unitPrice 22 = .ok (.iload_n 1, 1) := by decide +kernel
theorem dX2_unitPrice_23 : decode cX2_unitPrice 23 = .ok (.bipush 15, 2) := by decide +kernel
theorem dX2_unitPrice_25 : decode cX2_unitPrice 25 = .ok (.imul, 1) := by decide +kernel
theorem dX2_unitPrice_26 : decode cX2_unitPrice 26 = .ok (.iload_n 2, 1) := by decide +kernel
theorem dX2_unitPrice_27 : decode cX2_unitPrice 27 = .ok (.iadd, 1) := by decide +kernel
theorem dX2_unitPrice_28 : decode cX2_unitPrice 28 = .ok (.iconst 1, 1) := by decide +kernel
theorem dX2_unitPrice_29 : decode cX2_unitPrice 29 = .ok (.isub, 1) := by decide +kernel
theorem dX2_unitPrice_30 : decode cX2_unitPrice 30 = .ok (.iaload, 1) := by decide +kernel
theorem dX2_unitPrice_31 : decode cX2_unitPrice 31 = .ok (.ireturn, 1) := by decide +kernel
set_option maxRecDepth 20000 in
theorem ggX2_lastPrice_X2_unitPrice : GoodIn wsX2_lastPrice wsX2_unitPrice := goodIn_r _ [6, 1, 7, 8, 9, 10, 11, 12, 13, 14, 15] (by decide +kernel) (by decide +kernel)
set_option maxRecDepth 20000 in
theorem gX2_lastPrice_X2_unitPrice : GoodIn wsX2_lastPrice (wsV RX2 39 RX2 yX2_unitPrice wsX2_unitPrice) := goodIn_app (goodIn_of _ (by decide +kernel)) ggX2_lastPrice_X2_unitPrice
theorem dX2_lastPrice_0 : decode cX2_lastPrice 0 = .ok (.aload_n 0, 1) := by decide +kernel
theorem dX2_lastPrice_1 : decode cX2_lastPrice 1 = .ok (.iload_n 1, 1) := by decide +kernel
theorem dX2_lastPrice_2 : decode cX2_lastPrice 2 = .ok (.aload_n 0, 1) := by decide +kernel
theorem dX2_lastPrice_3 : decode cX2_lastPrice 3 = .ok (.getfield 25, 3) := by decide +kernel
theorem dX2_lastPrice_6 : decode cX2_lastPrice 6 = .ok (.iload_n 1, 1) := by decide +kernel
theorem dX2_lastPrice_7 : decode cX2_lastPrice 7 = .ok (.iaload, 1) := by decide +kernel
theorem dX2_lastPrice_8 : decode cX2_lastPrice 8 = .ok (.invokevirtual 39, 3) := by decide +kernel
theorem dX2_lastPrice_11 : decode cX2_lastPrice 11 = .ok (.ireturn, 1) := by decide +kernel
theorem dX2_steps_0 : decode cX2_steps 0 = .ok (.iconst 2, 1) := by decide +kernel
theorem dX2_steps_1 : decode cX2_steps 1 = .ok (.aload_n 0, 1) := by decide +kernel
theorem dX2_steps_2 : decode cX2_steps 2 = .ok (.getfield 9, 3) := by decide +kernel
theorem dX2_steps_5 : decode cX2_steps 5 = .ok (.imul, 1) := by decide +kernel
theorem dX2_steps_6 : decode cX2_steps 6 = .ok (.ireturn, 1) := by decide +kernel
theorem dX2_arcOf_0 : decode cX2_arcOf 0 = .ok (.iload_n 0, 1) := by decide +kernel
theorem dX2_arcOf_1 : decode cX2_arcOf 1 = .ok (.iconst 1, 1) := by decide +kernel
theorem dX2_arcOf_2 : decode cX2_arcOf 2 = .ok (.ishr, 1) := by decide +kernel
theorem dX2_arcOf_3 : decode cX2_arcOf 3 = .ok (.ireturn, 1) := by decide +kernel
theorem dX2_goesAlong_0 : decode cX2_goesAlong 0 = .ok (.iload_n 0, 1) := by decide +kernel
theorem dX2_goesAlong_1 : decode cX2_goesAlong 1 = .ok (.iconst 1, 1) := by decide +kernel
theorem dX2_goesAlong_2 : decode cX2_goesAlong 2 = .ok (.iand, 1) := by decide +kernel
theorem dX2_goesAlong_3 : decode cX2_goesAlong 3 = .ok (.ifCond .ne 7, 3) := by decide +kernel
theorem dX2_goesAlong_6 : decode cX2_goesAlong 6 = .ok (.iconst 1, 1) := by decide +kernel
theorem dX2_goesAlong_7 : decode cX2_goesAlong 7 = .ok (.goto 4, 3) := by decide +kernel
theorem dX2_goesAlong_10 : decode cX2_goesAlong 10 = .ok (.iconst 0, 1) := by decide +kernel
theorem dX2_goesAlong_11 : decode cX2_goesAlong 11 = .ok (.ireturn, 1) := by decide +kernel
set_option maxRecDepth 20000 in
theorem ggX2_start_X2_goesAlong : GoodIn wsX2_start wsX2_goesAlong := goodIn_r _ [6] (by decide +kernel) (by decide +kernel)
set_option maxRecDepth 20000 in
theorem gX2_start_X2_goesAlong : GoodIn wsX2_start (va_wsS RX2 43 yX2_goesAlong wsX2_goesAlong) := goodIn_app (goodIn_of _ (by decide +kernel)) ggX2_start_X2_goesAlong
set_option maxRecDepth 20000 in
theorem ggX2_start_X2_arcOf : GoodIn wsX2_start wsX2_arcOf := goodIn_r _ [9] (by decide +kernel) (by decide +kernel)
set_option maxRecDepth 20000 in
theorem gX2_start_X2_arcOf : GoodIn wsX2_start (va_wsS RX2 47 yX2_arcOf wsX2_arcOf) := goodIn_app (goodIn_of _ (by decide +kernel)) ggX2_start_X2_arcOf
theorem dX2_start_0 : decode cX2_start 0 = .ok (.iload_n 1, 1) := by decide +kernel
theorem dX2_start_1 : decode cX2_start 1 = .ok (.invokestatic 43, 3) := by decide +kernel
theorem dX2_start_4 : decode cX2_start 4 = .ok (.ifCond .eq 15, 3) := by decide +kernel
theorem dX2_start_7 : decode cX2_start 7 = .ok (.aload_n 0, 1) := by decide +kernel
theorem dX2_start_8 : decode cX2_start 8 = .ok (.getfield 15, 3) := by decide +kernel
theorem dX2_start_11 : decode cX2_start 11 = .ok (.iload_n 1, 1) := by decide +kernel
theorem dX2_start_12 : decode cX2_start 12 = .ok (.invokestatic 47, 3) := by decide +kernel
theorem dX2_start_15 : decode cX2_start 15 = .ok (.iaload, 1) := by decide +kernel
theorem dX2_start_16 : decode cX2_start 16 = .ok (.goto 12, 3) := by decide +kernel
theorem dX2_start_19 : decode cX2_start 19 = .ok (.aload_n 0, 1) := by decide +kernel
theorem dX2_start_20 : decode cX2_start 20 = .ok (.getfield 19, 3) := by decide +kernel
theorem dX2_start_23 : decode cX2_start 23 = .ok (.iload_n 1, 1) := by decide +kernel
theorem dX2_start_24 : decode cX2_start 24 = .ok (.invokestatic 47, 3) := by decide +kernel
theorem dX2_start_27 : decode cX2_start 27 = .ok (.iaload, 1) := by decide +kernel
theorem dX2_start_28 : decode cX2_start 28 = .ok (.ireturn, 1) := by decide +kernel
set_option maxRecDepth 20000 in
theorem ggX2_end_X2_goesAlong : GoodIn wsX2_end wsX2_goesAlong := goodIn_r _ [6] (by decide +kernel) (by decide +kernel)
set_option maxRecDepth 20000 in
theorem gX2_end_X2_goesAlong : GoodIn wsX2_end (va_wsS RX2 43 yX2_goesAlong wsX2_goesAlong) := goodIn_app (goodIn_of _ (by decide +kernel)) ggX2_end_X2_goesAlong
set_option maxRecDepth 20000 in
theorem ggX2_end_X2_arcOf : GoodIn wsX2_end wsX2_arcOf := goodIn_r _ [9] (by decide +kernel) (by decide +kernel)
set_option maxRecDepth 20000 in
theorem gX2_end_X2_arcOf : GoodIn wsX2_end (va_wsS RX2 47 yX2_arcOf wsX2_arcOf) := goodIn_app (goodIn_of _ (by decide +kernel)) ggX2_end_X2_arcOf
theorem dX2_end_0 : decode cX2_end 0 = .ok (.iload_n 1, 1) := by decide +kernel
theorem dX2_end_1 : decode cX2_end 1 = .ok (.invokestatic 43, 3) := by decide +kernel
theorem dX2_end_4 : decode cX2_end 4 = .ok (.ifCond .eq 15, 3) := by decide +kernel
theorem dX2_end_7 : decode cX2_end 7 = .ok (.aload_n 0, 1) := by decide +kernel
theorem dX2_end_8 : decode cX2_end 8 = .ok (.getfield 19, 3) := by decide +kernel
theorem dX2_end_11 : decode cX2_end 11 = .ok (.iload_n 1, 1) := by decide +kernel
theorem dX2_end_12 : decode cX2_end 12 = .ok (.invokestatic 47, 3) := by decide +kernel
theorem dX2_end_15 : decode cX2_end 15 = .ok (.iaload, 1) := by decide +kernel
theorem dX2_end_16 : decode cX2_end 16 = .ok (.goto 12, 3) := by decide +kernel
theorem dX2_end_19 : decode cX2_end 19 = .ok (.aload_n 0, 1) := by decide +kernel
theorem dX2_end_20 : decode cX2_end 20 = .ok (.getfield 15, 3) := by decide +kernel
theorem dX2_end_23 : decode cX2_end 23 = .ok (.iload_n 1, 1) := by decide +kernel
theorem dX2_end_24 : decode cX2_end 24 = .ok (.invokestatic 47, 3) := by decide +kernel
theorem dX2_end_27 : decode cX2_end 27 = .ok (.iaload, 1) := by decide +kernel
theorem dX2_end_28 : decode cX2_end 28 = .ok (.ireturn, 1) := by decide +kernel
