theorem dX5_init_0 : decode cX5_init 0 = .ok (.aload_n 0, 1) := by decide +kernel
theorem dX5_init_1 : decode cX5_init 1 = .ok (.invokespecial 1, 3) := by decide +kernel
theorem dX5_init_4 : decode cX5_init 4 = .ok (.aload_n 0, 1) := by decide +kernel
theorem dX5_init_5 : decode cX5_init 5 = .ok (.bipush 12, 2) := by decide +kernel
theorem dX5_init_7 : decode cX5_init 7 = .ok (.newarray .int, 2) := by decide +kernel
theorem dX5_init_9 : decode cX5_init 9 = .ok (.putfield 7, 3) := by decide +kernel
theorem dX5_init_12 : decode cX5_init 12 = .ok (.aload_n 0, 1) := by decide +kernel
theorem dX5_init_13 : decode cX5_init 13 = .ok (.bipush 12, 2) := by decide +kernel
theorem dX5_init_15 : decode cX5_init 15 = .ok (.newarray .int, 2) := by decide +kernel
theorem dX5_init_17 : decode cX5_init 17 = .ok (.putfield 13, 3) := by decide +kernel
theorem dX5_init_20 : decode cX5_init 20 = .ok (.aload_n 0, 1) := by decide +kernel
theorem dX5_init_21 : decode cX5_init 21 = .ok (.bipush 36, 2) := by decide +kernel
theorem dX5_init_23 : decode cX5_init 23 = .ok (.newarray .int, 2) := by decide +kernel
theorem dX5_init_25 : decode cX5_init 25 = .ok (.putfield 16, 3) := by decide +kernel
theorem dX5_init_28 : decode cX5_init 28 = .ok (.aload_n 0, 1) := by decide +kernel
theorem dX5_init_29 : decode cX5_init 29 = .ok (.bipush 36, 2) := by decide +kernel
theorem dX5_init_31 : decode cX5_init 31 = .ok (.newarray .int, 2) := by decide +kernel
theorem dX5_init_33 : decode cX5_init 33 = .ok (.putfield 19, 3) := by decide +kernel
theorem dX5_init_36 : decode cX5_init 36 = .ok (.aload_n 0, 1) := by decide +kernel
theorem dX5_init_37 : decode cX5_init 37 = .ok (.bipush 12, 2) := by decide +kernel
theorem dX5_init_39 : decode cX5_init 39 = .ok (.newarray .int, 2) := by decide +kernel
theorem dX5_init_41 : decode cX5_init 41 = .ok (.putfield 22, 3) := by decide +kernel
theorem dX5_init_44 : decode cX5_init 44 = .ok (.aload_n 0, 1) := by decide +kernel
theorem dX5_init_45 : decode cX5_init 45 = .ok (.iconst 1, 1) := by decide +kernel
theorem dX5_init_46 : decode cX5_init 46 = .ok (.putfield 25, 3) := by decide +kernel
theorem dX5_init_49 : decode cX5_init 49 = .ok (.aload_n 0, 1) := by decide +kernel
theorem dX5_init_50 : decode cX5_init 50 = .ok (.bipush 12, 2) := by decide +kernel
theorem dX5_init_52 : decode cX5_init 52 = .ok (.newarray .int, 2) := by decide +kernel
theorem dX5_init_54 : decode cX5_init 54 = .ok (.putfield 29, 3) := by decide +kernel
theorem dX5_init_57 : decode cX5_init 57 = .ok (.aload_n 0, 1) := by decide +kernel
theorem dX5_init_58 : decode cX5_init 58 = .ok (.bipush 12, 2) := by decide +kernel
theorem dX5_init_60 : decode cX5_init 60 = .ok (.newarray .int, 2) := by decide +kernel
theorem dX5_init_62 : decode cX5_init 62 = .ok (.putfield 32, 3) := by decide +kernel
theorem dX5_init_65 : decode cX5_init 65 = .ok (.aload_n 0, 1) := by decide +kernel
theorem dX5_init_66 : decode cX5_init 66 = .ok (.bipush 12, 2) := by decide +kernel
theorem dX5_init_68 : decode cX5_init 68 = .ok (.newarray .int, 2) := by decide +kernel
theorem dX5_init_70 : decode cX5_init 70 = .ok (.putfield 35, 3) := by decide +kernel
theorem dX5_init_73 : decode cX5_init 73 = .ok (.aload_n 0, 1) := by decide +kernel
theorem dX5_init_74 : decode cX5_init 74 = .ok (.bipush 8, 2) := by decide +kernel
theorem dX5_init_76 : decode cX5_init 76 = .ok (.newarray .int, 2) := by decide +kernel
theorem dX5_init_78 : decode cX5_init 78 = .ok (.putfield 38, 3) := by decide +kernel
theorem dX5_init_81 : decode cX5_init 81 = .ok (.aload_n 0, 1) := by decide +kernel
theorem dX5_init_82 : decode cX5_init 82 = .ok (.bipush 8, 2) := by decide +kernel
theorem dX5_init_84 : decode cX5_init 84 = .ok (.newarray .int, 2) := by decide +kernel
theorem dX5_init_86 : decode cX5_init 86 = .ok (.putfield 41, 3) := by decide +kernel
theorem dX5_init_89 : decode cX5_init 89 = .ok (.aload_n 0, 1) := by decide +kernel
theorem dX5_init_90 : decode cX5_init 90 = .ok (.bipush 8, 2) := by decide +kernel
theorem dX5_init_92 : decode cX5_init 92 = .ok (.newarray .int, 2) := by decide +kernel
theorem dX5_init_94 : decode cX5_init 94 = .ok (.putfield 44, 3) := by decide +kernel
theorem dX5_init_97 : decode cX5_init 97 = .ok (.aload_n 0, 1) := by decide +kernel
theorem dX5_init_98 : decode cX5_init 98 = .ok (.bipush 12, 2) := by decide +kernel
theorem dX5_init_100 : decode cX5_init 100 = .ok (.newarray .int, 2) := by decide +kernel
theorem dX5_init_102 : decode cX5_init 102 = .ok (.putfield 47, 3) := by decide +kernel
theorem dX5_init_105 : decode cX5_init 105 = .ok (.aload_n 0, 1) := by decide +kernel
theorem dX5_init_106 : decode cX5_init 106 = .ok (.iload_n 1, 1) := by decide +kernel
theorem dX5_init_107 : decode cX5_init 107 = .ok (.iconst 2, 1) := by decide +kernel
theorem dX5_init_108 : decode cX5_init 108 = .ok (.if_icmp .ge 7, 3) := by decide +kernel
theorem dX5_init_111 : decode cX5_init 111 = .ok (.iconst 2, 1) := by decide +kernel
theorem dX5_init_112 : decode cX5_init 112 = .ok (.goto 15, 3) := by decide +kernel
theorem dX5_init_115 : decode cX5_init 115 = .ok (.iload_n 1, 1) := by decide +kernel
theorem dX5_init_116 : decode cX5_init 116 = .ok (.bipush 8, 2) := by decide +kernel
theorem dX5_init_118 : decode cX5_init 118 = .ok (.if_icmp .le 8, 3) := by decide +kernel
theorem dX5_init_121 : decode cX5_init 121 = .ok (.bipush 8, 2) := by decide +kernel
theorem dX5_init_123 : decode cX5_init 123 = .ok (.goto 4, 3) := by decide +kernel
theorem dX5_init_126 : decode cX5_init 126 = .ok (.iload_n 1, 1) := by decide +kernel
theorem dX5_init_127 : decode cX5_init 127 = .ok (.putfield 50, 3) := by decide +kernel
theorem dX5_init_130 : decode cX5_init 130 = .ok (.return_, 1) := by decide +kernel
theorem dX5_thrown_0 : decode cX5_thrown 0 = .ok (.aload_n 0, 1) := by decide +kernel
theorem dX5_thrown_1 : decode cX5_thrown 1 = .ok (.getfield 53, 3) := by decide +kernel
theorem dX5_thrown_4 : decode cX5_thrown 4 = .ok (.ireturn, 1) := by decide +kernel
theorem dX5_goesWell_0 : decode cX5_goesWell 0 = .ok (.aload_n 0, 1) := by decide +kernel
theorem dX5_goesWell_1 : decode cX5_goesWell 1 = .ok (.iload_n 1, 1) := by decide +kernel
theorem dX5_goesWell_2 : decode cX5_goesWell 2 = .ok (.putfield 53, 3) := by decide +kernel
theorem dX5_goesWell_5 : decode cX5_goesWell 5 = .ok (.iload_n 1, 1) := by decide +kernel
theorem dX5_goesWell_6 : decode cX5_goesWell 6 = .ok (.ifCond .ne 7, 3) := by decide +kernel
theorem dX5_goesWell_9 : decode cX5_goesWell 9 = .ok (.iconst 1, 1) := by decide +kernel
theorem dX5_goesWell_10 : decode cX5_goesWell 10 = .ok (.goto 4, 3) := by decide +kernel
theorem dX5_goesWell_13 : decode cX5_goesWell 13 = .ok (.iconst 0, 1) := by decide +kernel
theorem dX5_goesWell_14 : decode cX5_goesWell 14 = .ok (.ireturn, 1) := by decide +kernel
theorem dX5_in_0 : decode cX5_in 0 = .ok (.iload_n 0, 1) := by decide +kernel
theorem dX5_in_1 : decode cX5_in 1 = .ok (.iload_n 1, 1) := by decide +kernel
theorem dX5_in_2 : decode cX5_in 2 = .ok (.if_icmp .lt 12, 3) := by decide +kernel
theorem dX5_in_5 : decode cX5_in 5 = .ok (.iload_n 0, 1) := by decide +kernel
theorem dX5_in_6 : decode cX5_in 6 = .ok (.iload_n 2, 1) := by decide +kernel
theorem dX5_in_7 : decode cX5_in 7 = .ok (.if_icmp .gt 7, 3) := by decide +kernel
theorem dX5_in_10 : decode cX5_in 10 = .ok (.iconst 1, 1) := by decide +kernel
theorem dX5_in_11 : decode cX5_in 11 = .ok (.goto 4, 3) := by decide +kernel
theorem dX5_in_14 : decode cX5_in 14 = .ok (.iconst 0, 1) := by decide +kernel
theorem dX5_in_15 : decode cX5_in 15 = .ok (.ireturn, 1) := by decide +kernel
set_option maxRecDepth 20000 in
theorem ggX5_isNode_X5_in : GoodIn wsX5_isNode wsX5_in := goodIn_r _ [5] (by decide +kernel) (by decide +kernel)
set_option maxRecDepth 20000 in
theorem gX5_isNode_X5_in : GoodIn wsX5_isNode (va_wsS RX5 56 yX5_in wsX5_in) := goodIn_app (goodIn_of _ (by decide +kernel)) ggX5_isNode_X5_in
theorem dX5_isNode_0 : decode cX5_isNode 0 = .ok (.iload_n 1, 1) := by decide +kernel
theorem dX5_isNode_1 : decode cX5_isNode 1 = .ok (.iconst 0, 1) := by decide +kernel
theorem dX5_isNode_2 : decode cX5_isNode 2 = .ok (.aload_n 0, 1) := by decide +kernel
theorem dX5_isNode_3 : decode cX5_isNode 3 = .ok (.getfield 50, 3) := by decide +kernel
theorem dX5_isNode_6 : decode cX5_isNode 6 = .ok (.iconst 1, 1) := by decide +kernel
theorem dX5_isNode_7 : decode cX5_isNode 7 = .ok (.isub, 1) := by decide +kernel
theorem dX5_isNode_8 : decode cX5_isNode 8 = .ok (.invokestatic 56, 3) := by decide +kernel
theorem dX5_isNode_11 : decode cX5_isNode 11 = .ok (.ireturn, 1) := by decide +kernel
set_option maxRecDepth 20000 in
theorem ggX5_isArc_X5_in : GoodIn wsX5_isArc wsX5_in := goodIn_r _ [5] (by decide +kernel) (by decide +kernel)
set_option maxRecDepth 20000 in
theorem gX5_isArc_X5_in : GoodIn wsX5_isArc (va_wsS RX5 56 yX5_in wsX5_in) := goodIn_app (goodIn_of _ (by decide +kernel)) ggX5_isArc_X5_in
theorem dX5_isArc_0 : decode cX5_isArc 0 = .ok (.iload_n 1, 1) := by decide +kernel
theorem dX5_isArc_1 : decode cX5_isArc 1 = .ok (.iconst 0, 1) := by decide +kernel
theorem dX5_isArc_2 : decode cX5_isArc 2 = .ok (.aload_n 0, 1) := by decide +kernel
theorem dX5_isArc_3 : decode cX5_isArc 3 = .ok (.getfield 60, 3) := by decide +kernel
theorem dX5_isArc_6 : decode cX5_isArc 6 = .ok (.iconst 1, 1) := by decide +kernel
theorem dX5_isArc_7 : decode cX5_isArc 7 = .ok (.isub, 1) := by decide +kernel
theorem dX5_isArc_8 : decode cX5_isArc 8 = .ok (.invokestatic 56, 3) := by decide +kernel
theorem dX5_isArc_11 : decode cX5_isArc 11 = .ok (.ireturn, 1) := by decide +kernel
theorem dX5_capacityOf_0 : decode cX5_capacityOf 0 = .ok (.iconst 0, 1) := by decide +kernel
theorem dX5_capacityOf_1 : decode cX5_capacityOf 1 = .ok (.istore_n 2, 1) := by decide +kernel
theorem dX5_capacityOf_2 : decode cX5_capacityOf 2 = .ok (.iconst 0, 1) := by decide +kernel
theorem dX5_capacityOf_3 : decode cX5_capacityOf 3 = .ok (.istore_n 3, 1) := by decide +kernel
theorem dX5_capacityOf_4 : decode cX5_capacityOf 4 = .ok (.iload_n 3, 1) := by decide +kernel
theorem dX5_capacityOf_5 : decode cX5_capacityOf 5 = .ok (.aload_n 0, 1) := by decide +kernel
theorem dX5_capacityOf_6 : decode cX5_capacityOf 6 = .ok (.getfield 22, 3) := by decide +kernel
theorem dX5_capacityOf_9 : decode cX5_capacityOf 9 = .ok (.iload_n 1, 1) := by decide +kernel
theorem dX5_capacityOf_10 : decode cX5_capacityOf 10 = .ok (.iaload, 1) := by decide +kernel
theorem dX5_capacityOf_11 : decode cX5_capacityOf 11 = .ok (.if_icmp .ge 22, 3) := by decide +kernel
theorem dX5_capacityOf_14 : decode cX5_capacityOf 14 = .ok (.iload_n 2, 1) := by decide +kernel
theorem dX5_capacityOf_15 : decode cX5_capacityOf 15 = .ok (.aload_n 0, 1) := by decide +kernel
theorem dX5_capacityOf_16 : decode cX5_capacityOf 16 = .ok (.getfield 16, 3) := by decide +kernel
theorem dX5_capacityOf_19 : decode cX5_capacityOf 19 = .ok (.iconst 3, 1) := by decide +kernel
theorem dX5_capacityOf_20 : decode cX5_capacityOf 20 = .ok (.iload_n 1, 1) := by decide +kernel
theorem dX5_capacityOf_21 : decode cX5_capacityOf 21 = .ok (.imul, 1) := by decide +kernel
theorem dX5_capacityOf_22 : decode cX5_capacityOf 22 = .ok (.iload_n 3, 1) := by decide +kernel
theorem dX5_capacityOf_23 : decode cX5_capacityOf 23 = .ok (.iadd, 1) := by decide +kernel
theorem dX5_capacityOf_24 : decode cX5_capacityOf 24 = .ok (.iaload, 1) := by decide +kernel
theorem dX5_capacityOf_25 : decode cX5_capacityOf 25 = .ok (.iadd, 1) := by decide +kernel
theorem dX5_capacityOf_26 : decode cX5_capacityOf 26 = .ok (.istore_n 2, 1) := by decide +kernel
theorem dX5_capacityOf_27 : decode cX5_capacityOf 27 = .ok (.iinc 3 1, 3) := by decide +kernel
theorem dX5_capacityOf_30 : decode cX5_capacityOf 30 = .ok (.goto (-26), 3) := by decide +kernel
theorem dX5_capacityOf_33 : decode cX5_capacityOf 33 = .ok (.iload_n 2, 1) := by decide +kernel
theorem dX5_capacityOf_34 : decode cX5_capacityOf 34 = .ok (.ireturn, 1) := by decide +kernel
theorem dX5_put_0 : decode cX5_put 0 = .ok (.aload_n 0, 1) := by decide +kernel
theorem dX5_put_1 : decode cX5_put 1 = .ok (.getfield 16, 3) := by decide +kernel
theorem dX5_put_4 : decode cX5_put 4 = .ok (.iconst 3, 1) := by decide +kernel
theorem dX5_put_5 : decode cX5_put 5 = .ok (.iload_n 1, 1) := by decide +kernel
theorem dX5_put_6 : decode cX5_put 6 = .ok (.imul, 1) := by decide +kernel
theorem dX5_put_7 : decode cX5_put 7 = .ok (.aload_n 0, 1) := by decide +kernel
theorem dX5_put_8 : decode cX5_put 8 = .ok (.getfield 22, 3) := by decide +kernel
theorem dX5_put_11 : decode cX5_put 11 = .ok (.iload_n 1, 1) := by decide +kernel
theorem dX5_put_12 : decode cX5_put 12 = .ok (.iaload, 1) := by decide +kernel
theorem dX5_put_13 : decode cX5_put 13 = .ok (.iadd, 1) := by decide +kernel
theorem dX5_put_14 : decode cX5_put 14 = .ok (.iload_n 2, 1) := by decide +kernel
theorem dX5_put_15 : decode cX5_put 15 = .ok (.iastore, 1) := by decide +kernel
theorem dX5_put_16 : decode cX5_put 16 = .ok (.aload_n 0, 1) := by decide +kernel
theorem dX5_put_17 : decode cX5_put 17 = .ok (.getfield 19, 3) := by decide +kernel
theorem dX5_put_20 : decode cX5_put 20 = .ok (.iconst 3, 1) := by decide +kernel
theorem dX5_put_21 : decode cX5_put 21 = .ok (.iload_n 1, 1) := by decide +kernel
theorem dX5_put_22 : decode cX5_put 22 = .ok (.imul, 1) := by decide +kernel
theorem dX5_put_23 : decode cX5_put 23 = .ok (.aload_n 0, 1) := by decide +kernel
theorem dX5_put_24 : decode cX5_put 24 = .ok (.getfield 22, 3) := by decide +kernel
theorem dX5_put_27 : decode cX5_put 27 = .ok (.iload_n 1, 1) := by decide +kernel
theorem dX5_put_28 : decode cX5_put 28 = .ok (.iaload, 1) := by decide +kernel
theorem dX5_put_29 : decode cX5_put 29 = .ok (.iadd, 1) := by decide +kernel
theorem dX5_put_30 : decode cX5_put 30 = .ok (.iload_n 3, 1) := by decide +kernel
theorem dX5_put_31 : decode cX5_put 31 = .ok (.iastore, 1) := by decide +kernel
theorem dX5_put_32 : decode cX5_put 32 = .ok (.aload_n 0, 1) := by decide +kernel
theorem dX5_put_33 : decode cX5_put 33 = .ok (.getfield 22, 3) := by decide +kernel
theorem dX5_put_36 : decode cX5_put 36 = .ok (.iload_n 1, 1) := by decide +kernel
theorem dX5_put_37 : decode cX5_put 37 = .ok (.dup2, 1) := by decide +kernel
theorem dX5_put_38 : decode cX5_put 38 = .ok (.iaload, 1) := by decide +kernel
theorem dX5_put_39 : decode cX5_put 39 = .ok (.iconst 1, 1) := by decide +kernel
theorem dX5_put_40 : decode cX5_put 40 = .ok (.iadd, 1) := by decide +kernel
theorem dX5_put_41 : decode cX5_put 41 = .ok (.iastore, 1) := by decide +kernel
theorem dX5_put_42 : decode cX5_put 42 = .ok (.return_, 1) := by decide +kernel
set_option maxRecDepth 20000 in
theorem ggX5_arc_X5_in : GoodIn wsX5_arc wsX5_in := goodIn_r _ [8] (by decide +kernel) (by decide +kernel)
set_option maxRecDepth 20000 in
theorem gX5_arc_X5_in : GoodIn wsX5_arc (va_wsS RX5 56 yX5_in wsX5_in) := goodIn_app (goodIn_of _ (by decide +kernel)) ggX5_arc_X5_in
set_option maxRecDepth 20000 in
theorem ggX5_arc_X5_isNode : GoodIn wsX5_arc wsX5_isNode := goodIn_r _ [12, 13, 5, 6, 7, 8, 25, 26, 27, 28, 29, 30, 31, 32, 33, 34, 35, 36, 37, 38, 39, 40, 41, 42, 43, 44, 45] (by decide +kernel) (by decide +kernel)
set_option maxRecDepth 20000 in
theorem gX5_arc_X5_isNode : GoodIn wsX5_arc (wsV RX5 63 RX5 yX5_isNode wsX5_isNode) := goodIn_app (goodIn_of _ (by decide +kernel)) ggX5_arc_X5_isNode
set_option maxRecDepth 20000 in
theorem ggX5_arc_X5_goesWell : GoodIn wsX5_arc wsX5_goesWell := goodIn_r _ [17, 18, 25, 26, 27, 28, 29, 30, 31, 32, 33, 34, 35, 36, 37, 38, 39, 40, 41, 42, 43, 44, 45] (by decide +kernel) (by decide +kernel)
set_option maxRecDepth 20000 in
theorem gX5_arc_X5_goesWell : GoodIn wsX5_arc (wsV RX5 67 RX5 yX5_goesWell wsX5_goesWell) := goodIn_app (goodIn_of _ (by decide +kernel)) ggX5_arc_X5_goesWell
set_option maxRecDepth 20000 in
theorem ggX5_arc_X5_put : GoodIn wsX5_arc wsX5_put := goodIn_r _ [22, 23, 4, 24, 25, 26, 27, 28, 29, 30, 31, 32, 33, 34, 35, 36, 37, 38, 39, 40, 41, 42, 43, 44, 45] (by decide +kernel) (by decide +kernel)
set_option maxRecDepth 20000 in
theorem gX5_arc_X5_put : GoodIn wsX5_arc (wsV RX5 70 RX5 yX5_put wsX5_put) := goodIn_app (goodIn_of _ (by decide +kernel)) ggX5_arc_X5_put
theorem dX5_arc_0 : decode cX5_arc 0 = .ok (.iload_n 1, 1) := by decide +kernel
theorem dX5_arc_1 : decode cX5_arc 1 = .ok (.iload_n 2, 1) := by decide +kernel
theorem dX5_arc_2 : decode cX5_arc 2 = .ok (.if_icmp .eq 27, 3) := by decide +kernel
theorem dX5_arc_5 : decode cX5_arc 5 = .ok (.iload_n 3, 1) := by decide +kernel
theorem dX5_arc_6 : decode cX5_arc 6 = .ok (.iconst 1, 1) := by decide +kernel
theorem dX5_arc_7 : decode cX5_arc 7 = .ok (.iconst 5, 1) := by decide +kernel
theorem dX5_arc_8 : decode cX5_arc 8 = .ok (.invokestatic 56, 3) := by decide +kernel
theorem dX5_arc_11 : decode cX5_arc 11 = .ok (.ifCond .eq 18, 3) := by decide +kernel
theorem dX5_arc_14 : decode cX5_arc 14 = .ok (.iload 4, 2) := by decide +kernel
theorem dX5_arc_16 : decode cX5_arc 16 = .ok (.iconst 0, 1) := by decide +kernel
theorem dX5_arc_17 : decode cX5_arc 17 = .ok (.bipush 99, 2) := by decide +kernel
theorem dX5_arc_19 : decode cX5_arc 19 = .ok (.invokestatic 56, 3) := by decide +kernel
theorem dX5_arc_22 : decode cX5_arc 22 = .ok (.ifCond .eq 7, 3) := by decide +kernel
theorem dX5_arc_25 : decode cX5_arc 25 = .ok (.iconst 1, 1) := by decide +kernel
theorem dX5_arc_26 : decode cX5_arc 26 = .ok (.goto 4, 3) := by decide +kernel
theorem dX5_arc_29 : decode cX5_arc 29 = .ok (.iconst 0, 1) := by decide +kernel
theorem dX5_arc_30 : decode cX5_arc 30 = .ok (.istore 5, 2) := by decide +kernel
theorem dX5_arc_32 : decode cX5_arc 32 = .ok (.aload_n 0, 1) := by decide +kernel
theorem dX5_arc_33 : decode cX5_arc 33 = .ok (.aload_n 0, 1) := by decide +kernel
theorem dX5_arc_34 : decode cX5_arc 34 = .ok (.iload_n 1, 1) := by decide +kernel
theorem dX5_arc_35 : decode cX5_arc 35 = .ok (.invokevirtual 63, 3) := by decide +kernel
theorem dX5_arc_38 : decode cX5_arc 38 = .ok (.ifCond .eq 11, 3) := by decide +kernel
theorem dX5_arc_41 : decode cX5_arc 41 = .ok (.aload_n 0, 1) := by decide +kernel
theorem dX5_arc_42 : decode cX5_arc 42 = .ok (.iload_n 2, 1) := by decide +kernel
theorem dX5_arc_43 : decode cX5_arc 43 = .ok (.invokevirtual 63, 3) := by decide +kernel
theorem dX5_arc_46 : decode cX5_arc 46 = .ok (.ifCond .ne 7, 3) := by decide +kernel
theorem dX5_arc_49 : decode cX5_arc 49 = .ok (.iconst 1, 1) := by decide +kernel
theorem dX5_arc_50 : decode cX5_arc 50 = .ok (.goto 26, 3) := by decide +kernel
theorem dX5_arc_53 : decode cX5_arc 53 = .ok (.iload 5, 2) := by decide +kernel
theorem dX5_arc_55 : decode cX5_arc 55 = .ok (.ifCond .ne 7, 3) := by decide +kernel
theorem dX5_arc_58 : decode cX5_arc 58 = .ok (.iconst 2, 1) := by decide +kernel
theorem dX5_arc_59 : decode cX5_arc 59 = .ok (.goto 17, 3) := by decide +kernel
theorem dX5_arc_62 : decode cX5_arc 62 = .ok (.aload_n 0, 1) := by decide +kernel
theorem dX5_arc_63 : decode cX5_arc 63 = .ok (.getfield 60, 3) := by decide +kernel
theorem dX5_arc_66 : decode cX5_arc 66 = .ok (.bipush 12, 2) := by decide +kernel
theorem dX5_arc_68 : decode cX5_arc 68 = .ok (.if_icmp .ne 7, 3) := by decide +kernel
theorem dX5_arc_71 : decode cX5_arc 71 = .ok (.iconst 3, 1) := by decide +kernel
theorem dX5_arc_72 : decode cX5_arc 72 = .ok (.goto 4, 3) := by decide +kernel
theorem dX5_arc_75 : decode cX5_arc 75 = .ok (.iconst 0, 1) := by decide +kernel
theorem dX5_arc_76 : decode cX5_arc 76 = .ok (.invokevirtual 67, 3) := by decide +kernel
theorem dX5_arc_79 : decode cX5_arc 79 = .ok (.ifCond .ne 5, 3) := by decide +kernel
theorem dX5_arc_82 : decode cX5_arc 82 = .ok (.iconst 0, 1) := by decide +kernel
theorem dX5_arc_83 : decode cX5_arc 83 = .ok (.ireturn, 1) := by decide +kernel
theorem dX5_arc_84 : decode cX5_arc 84 = .ok (.aload_n 0, 1) := by decide +kernel
theorem dX5_arc_85 : decode cX5_arc 85 = .ok (.getfield 7, 3) := by decide +kernel
theorem dX5_arc_88 : decode cX5_arc 88 = .ok (.aload_n 0, 1) := by decide +kernel
theorem dX5_arc_89 : decode cX5_arc 89 = .ok (.getfield 60, 3) := by decide +kernel
theorem dX5_arc_92 : decode cX5_arc 92 = .ok (.iload_n 1, 1) := by decide +kernel
theorem dX5_arc_93 : decode cX5_arc 93 = .ok (.iastore, 1) := by decide +kernel
theorem dX5_arc_94 : decode cX5_arc 94 = .ok (.aload_n 0, 1) := by decide +kernel
theorem dX5_arc_95 : decode cX5_arc 95 = .ok (.getfield 13, 3) := by decide +kernel
theorem dX5_arc_98 : decode cX5_arc 98 = .ok (.aload_n 0, 1) := by decide +kernel
theorem dX5_arc_99 : decode cX5_arc 99 = .ok (.getfield 60, 3) := by decide +kernel
theorem dX5_arc_102 : decode cX5_arc 102 = .ok (.iload_n 2, 1) := by decide +kernel
theorem dX5_arc_103 : decode cX5_arc 103 = .ok (.iastore, 1) := by decide +kernel
theorem dX5_arc_104 : decode cX5_arc 104 = .ok (.aload_n 0, 1) := by decide +kernel
theorem dX5_arc_105 : decode cX5_arc 105 = .ok (.getfield 22, 3) := by decide +kernel
theorem dX5_arc_108 : decode cX5_arc 108 = .ok (.aload_n 0, 1) := by decide +kernel
theorem dX5_arc_109 : decode cX5_arc 109 = .ok (.getfield 60, 3) := by decide +kernel
theorem dX5_arc_112 : decode cX5_arc 112 = .ok (.iconst 0, 1) := by decide +kernel
theorem dX5_arc_113 : decode cX5_arc 113 = .ok (.iastore, 1) := by decide +kernel
theorem dX5_arc_114 : decode cX5_arc 114 = .ok (.aload_n 0, 1) := by decide +kernel
theorem dX5_arc_115 : decode cX5_arc 115 = .ok (.aload_n 0, 1) := by decide +kernel
theorem dX5_arc_116 : decode cX5_arc 116 = .ok (.getfield 60, 3) := by decide +kernel
theorem dX5_arc_119 : decode cX5_arc 119 = .ok (.iload_n 3, 1) := by decide +kernel
theorem dX5_arc_120 : decode cX5_arc 120 = .ok (.iload 4, 2) := by decide +kernel
theorem dX5_arc_122 : decode cX5_arc 122 = .ok (.invokevirtual 70, 3) := by decide +kernel
theorem dX5_arc_125 : decode cX5_arc 125 = .ok (.aload_n 0, 1) := by decide +kernel
theorem dX5_arc_126 : decode cX5_arc 126 = .ok (.dup, 1) := by decide +kernel
theorem dX5_arc_127 : decode cX5_arc 127 = .ok (.getfield 60, 3) := by decide +kernel
theorem dX5_arc_130 : decode cX5_arc 130 = .ok (.iconst 1, 1) := by decide +kernel
theorem dX5_arc_131 : decode cX5_arc 131 = .ok (.iadd, 1) := by decide +kernel
theorem dX5_arc_132 : decode cX5_arc 132 = .ok (.putfield 60, 3) := by decide +kernel
theorem dX5_arc_135 : decode cX5_arc 135 = .ok (.aload_n 0, 1) := by decide +kernel
theorem dX5_arc_136 : decode cX5_arc 136 = .ok (.getfield 60, 3) := by decide +kernel
theorem dX5_arc_139 : decode cX5_arc 139 = .ok (.iconst 1, 1) := by decide +kernel
theorem dX5_arc_140 : decode cX5_arc 140 = .ok (.isub, 1) := by decide +kernel
theorem dX5_arc_141 : decode cX5_arc 141 = .ok (.ireturn, 1) := by decide +kernel
set_option maxRecDepth 20000 in
theorem ggX5_piece_X5_isArc : GoodIn wsX5_piece wsX5_isArc := goodIn_r _ [7, 8, 9, 10, 6, 11, 26, 27, 28, 29, 30, 31, 32, 33, 34, 35, 36, 37, 38, 39, 40, 41, 42, 43, 44, 45, 46] (by decide +kernel) (by decide +kernel)
set_option maxRecDepth 20000 in
theorem gX5_piece_X5_isArc : GoodIn wsX5_piece (wsV RX5 74 RX5 yX5_isArc wsX5_isArc) := goodIn_app (goodIn_of _ (by decide +kernel)) ggX5_piece_X5_isArc
set_option maxRecDepth 20000 in
theorem ggX5_piece_X5_in : GoodIn wsX5_piece wsX5_in := goodIn_r _ [11] (by decide +kernel) (by decide +kernel)
set_option maxRecDepth 20000 in
theorem gX5_piece_X5_in : GoodIn wsX5_piece (va_wsS RX5 56 yX5_in wsX5_in) := goodIn_app (goodIn_of _ (by decide +kernel)) ggX5_piece_X5_in
set_option maxRecDepth 20000 in
theorem ggX5_piece_X5_goesWell : GoodIn wsX5_piece wsX5_goesWell := goodIn_r _ [15, 16, 26, 27, 28, 29, 30, 31, 32, 33, 34, 35, 36, 37, 38, 39, 40, 41, 42, 43, 44, 45, 46] (by decide +kernel) (by decide +kernel)
set_option maxRecDepth 20000 in
theorem gX5_piece_X5_goesWell : GoodIn wsX5_piece (wsV RX5 67 RX5 yX5_goesWell wsX5_goesWell) := goodIn_app (goodIn_of _ (by decide +kernel)) ggX5_piece_X5_goesWell
set_option maxRecDepth 20000 in
theorem ggX5_piece_X5_put : GoodIn wsX5_piece wsX5_put := goodIn_r _ [20, 21, 2, 1, 26, 27, 28, 29, 30, 31, 32, 33, 34, 35, 36, 37, 38, 39, 40, 41, 42, 43, 44, 45, 46] (by decide +kernel) (by decide +kernel)
set_option maxRecDepth 20000 in
theorem gX5_piece_X5_put : GoodIn wsX5_piece (wsV RX5 70 RX5 yX5_put wsX5_put) := goodIn_app (goodIn_of _ (by decide +kernel)) ggX5_piece_X5_put
set_option maxRecDepth 20000 in
theorem ggX5_piece_X5_capacityOf : GoodIn wsX5_piece wsX5_capacityOf := goodIn_r _ [25, 2, 21, 26, 27, 28, 29, 30, 31, 32, 33, 34, 35, 36, 37, 38, 39, 40, 41, 42, 43, 44, 45, 46] (by decide +kernel) (by decide +kernel)
set_option maxRecDepth 20000 in
theorem gX5_piece_X5_capacityOf : GoodIn wsX5_piece (wsV RX5 77 RX5 yX5_capacityOf wsX5_capacityOf) := goodIn_app (goodIn_of _ (by decide +kernel)) ggX5_piece_X5_capacityOf
theorem dX5_piece_0 : decode cX5_piece 0 = .ok (.aload_n 0, 1) := by decide +kernel
theorem dX5_piece_1 : decode cX5_piece 1 = .ok (.iload_n 1, 1) := by decide +kernel
theorem dX5_piece_2 : decode cX5_piece 2 = .ok (.invokevirtual 74, 3) := by decide +kernel
theorem dX5_piece_5 : decode cX5_piece 5 = .ok (.ifCond .eq 42, 3) := by decide +kernel
theorem dX5_piece_8 : decode cX5_piece 8 = .ok (.iload_n 2, 1) := by decide +kernel
theorem dX5_piece_9 : decode cX5_piece 9 = .ok (.iconst 1, 1) := by decide +kernel
theorem dX5_piece_10 : decode cX5_piece 10 = .ok (.iconst 5, 1) := by decide +kernel
theorem dX5_piece_11 : decode cX5_piece 11 = .ok (.invokestatic 56, 3) := by decide +kernel
theorem dX5_piece_14 : decode cX5_piece 14 = .ok (.ifCond .eq 33, 3) := by decide +kernel
theorem dX5_piece_17 : decode cX5_piece 17 = .ok (.iload_n 3, 1) := by decide +kernel
theorem dX5_piece_18 : decode cX5_piece 18 = .ok (.aload_n 0, 1) := by decide +kernel
theorem dX5_piece_19 : decode cX5_piece 19 = .ok (.getfield 19, 3) := by decide +kernel
theorem dX5_piece_22 : decode cX5_piece 22 = .ok (.iconst 3, 1) := by decide +kernel
theorem dX5_piece_23 : decode cX5_piece 23 = .ok (.iload_n 1, 1) := by decide +kernel
theorem dX5_piece_24 : decode cX5_piece 24 = .ok (.imul, 1) := by decide +kernel
theorem dX5_piece_25 : decode cX5_piece 25 = .ok (.aload_n 0, 1) := by decide +kernel
theorem dX5_piece_26 : decode cX5_piece 26 = .ok (.getfield 22, 3) := by decide +kernel
theorem dX5_piece_29 : decode cX5_piece 29 = .ok (.iload_n 1, 1) := by decide +kernel
theorem dX5_piece_30 : decode cX5_piece 30 = .ok (.iaload, 1) := by decide +kernel
theorem dX5_piece_31 : decode cX5_piece 31 = .ok (.iadd, 1) := by decide +kernel
theorem dX5_piece_32 : decode cX5_piece 32 = .ok (.iconst 1, 1) := by decide +kernel
theorem dX5_piece_33 : decode cX5_piece 33 = .ok (.isub, 1) := by decide +kernel
theorem dX5_piece_34 : decode cX5_piece 34 = .ok (.iaload, 1) := by decide +kernel
theorem dX5_piece_35 : decode cX5_piece 35 = .ok (.bipush 99, 2) := by decide +kernel
theorem dX5_piece_37 : decode cX5_piece 37 = .ok (.invokestatic 56, 3) := by decide +kernel
theorem dX5_piece_40 : decode cX5_piece 40 = .ok (.ifCond .eq 7, 3) := by decide +kernel
theorem dX5_piece_43 : decode cX5_piece 43 = .ok (.iconst 1, 1) := by decide +kernel
theorem dX5_piece_44 : decode cX5_piece 44 = .ok (.goto 4, 3) := by decide +kernel
theorem dX5_piece_47 : decode cX5_piece 47 = .ok (.iconst 0, 1) := by decide +kernel
theorem dX5_piece_48 : decode cX5_piece 48 = .ok (.istore 4, 2) := by decide +kernel
theorem dX5_piece_50 : decode cX5_piece 50 = .ok (.aload_n 0, 1) := by decide +kernel
theorem dX5_piece_51 : decode cX5_piece 51 = .ok (.aload_n 0, 1) := by decide +kernel
theorem dX5_piece_52 : decode cX5_piece 52 = .ok (.iload_n 1, 1) := by decide +kernel
theorem dX5_piece_53 : decode cX5_piece 53 = .ok (.invokevirtual 74, 3) := by decide +kernel
theorem dX5_piece_56 : decode cX5_piece 56 = .ok (.ifCond .ne 7, 3) := by decide +kernel
theorem dX5_piece_59 : decode cX5_piece 59 = .ok (.iconst 1, 1) := by decide +kernel
theorem dX5_piece_60 : decode cX5_piece 60 = .ok (.goto 27, 3) := by decide +kernel
theorem dX5_piece_63 : decode cX5_piece 63 = .ok (.iload 4, 2) := by decide +kernel
theorem dX5_piece_65 : decode cX5_piece 65 = .ok (.ifCond .ne 7, 3) := by decide +kernel
theorem dX5_piece_68 : decode cX5_piece 68 = .ok (.iconst 2, 1) := by decide +kernel
theorem dX5_piece_69 : decode cX5_piece 69 = .ok (.goto 18, 3) := by decide +kernel
theorem dX5_piece_72 : decode cX5_piece 72 = .ok (.aload_n 0, 1) := by decide +kernel
theorem dX5_piece_73 : decode cX5_piece 73 = .ok (.getfield 22, 3) := by decide +kernel
theorem dX5_piece_76 : decode cX5_piece 76 = .ok (.iload_n 1, 1) := by decide +kernel
theorem dX5_piece_77 : decode cX5_piece 77 = .ok (.iaload, 1) := by decide +kernel
theorem dX5_piece_78 : decode cX5_piece 78 = .ok (.iconst 3, 1) := by decide +kernel
theorem dX5_piece_79 : decode cX5_piece 79 = .ok (.if_icmp .ne 7, 3) := by decide +kernel
theorem dX5_piece_82 : decode cX5_piece 82 = .ok (.iconst 3, 1) := by decide +kernel
theorem dX5_piece_83 : decode cX5_piece 83 = .ok (.goto 4, 3) := by decide +kernel
theorem dX5_piece_86 : decode cX5_piece 86 = .ok (.iconst 0, 1) := by decide +kernel
theorem dX5_piece_87 : decode cX5_piece 87 = .ok (.invokevirtual 67, 3) := by decide +kernel
theorem dX5_piece_90 : decode cX5_piece 90 = .ok (.ifCond .ne 5, 3) := by decide +kernel
theorem dX5_piece_93 : decode cX5_piece 93 = .ok (.iconst 0, 1) := by decide +kernel
theorem dX5_piece_94 : decode cX5_piece 94 = .ok (.ireturn, 1) := by decide +kernel
theorem dX5_piece_95 : decode cX5_piece 95 = .ok (.aload_n 0, 1) := by decide +kernel
theorem dX5_piece_96 : decode cX5_piece 96 = .ok (.iload_n 1, 1) := by decide +kernel
theorem dX5_piece_97 : decode cX5_piece 97 = .ok (.iload_n 2, 1) := by decide +kernel
theorem dX5_piece_98 : decode cX5_piece 98 = .ok (.iload_n 3, 1) := by decide +kernel
theorem dX5_piece_99 : decode cX5_piece 99 = .ok (.invokevirtual 70, 3) := by decide +kernel
theorem dX5_piece_102 : decode cX5_piece 102 = .ok (.aload_n 0, 1) := by decide +kernel
theorem dX5_piece_103 : decode cX5_piece 103 = .ok (.iload_n 1, 1) := by decide +kernel
theorem dX5_piece_104 : decode cX5_piece 104 = .ok (.invokevirtual 77, 3) := by decide +kernel
theorem dX5_piece_107 : decode cX5_piece 107 = .ok (.ireturn, 1) := by decide +kernel
set_option maxRecDepth 20000 in
theorem ggX5_demand_X5_in : GoodIn wsX5_demand wsX5_in := goodIn_r _ [7] (by decide +kernel) (by decide +kernel)
set_option maxRecDepth 20000 in
theorem gX5_demand_X5_in : GoodIn wsX5_demand (va_wsS RX5 56 yX5_in wsX5_in) := goodIn_app (goodIn_of _ (by decide +kernel)) ggX5_demand_X5_in
set_option maxRecDepth 20000 in
theorem ggX5_demand_X5_isNode : GoodIn wsX5_demand wsX5_isNode := goodIn_r _ [11, 12, 4, 5, 6, 7, 18, 19, 20, 21, 22, 23, 24, 25, 26, 27, 28, 29, 30, 31, 32, 33, 34, 35, 36, 37, 38] (by decide +kernel) (by decide +kernel)
set_option maxRecDepth 20000 in
theorem gX5_demand_X5_isNode : GoodIn wsX5_demand (wsV RX5 63 RX5 yX5_isNode wsX5_isNode) := goodIn_app (goodIn_of _ (by decide +kernel)) ggX5_demand_X5_isNode
set_option maxRecDepth 20000 in
theorem ggX5_demand_X5_goesWell : GoodIn wsX5_demand wsX5_goesWell := goodIn_r _ [16, 17, 18, 19, 20, 21, 22, 23, 24, 25, 26, 27, 28, 29, 30, 31, 32, 33, 34, 35, 36, 37, 38] (by decide +kernel) (by decide +kernel)
set_option maxRecDepth 20000 in
theorem gX5_demand_X5_goesWell : GoodIn wsX5_demand (wsV RX5 67 RX5 yX5_goesWell wsX5_goesWell) := goodIn_app (goodIn_of _ (by decide +kernel)) ggX5_demand_X5_goesWell
theorem dX5_demand_0 : decode cX5_demand 0 = .ok (.iload_n 1, 1) := by decide +kernel
theorem dX5_demand_1 : decode cX5_demand 1 = .ok (.iload_n 2, 1) := by decide +kernel
theorem dX5_demand_2 : decode cX5_demand 2 = .ok (.if_icmp .eq 17, 3) := by decide +kernel
theorem dX5_demand_5 : decode cX5_demand 5 = .ok (.iload_n 3, 1) := by decide +kernel
theorem dX5_demand_6 : decode cX5_demand 6 = .ok (.iconst 0, 1) := by decide +kernel
theorem dX5_demand_7 : decode cX5_demand 7 = .ok (.bipush 20, 2) := by decide +kernel
theorem dX5_demand_9 : decode cX5_demand 9 = .ok (.invokestatic 56, 3) := by decide +kernel
theorem dX5_demand_12 : decode cX5_demand 12 = .ok (.ifCond .eq 7, 3) := by decide +kernel
theorem dX5_demand_15 : decode cX5_demand 15 = .ok (.iconst 1, 1) := by decide +kernel
theorem dX5_demand_16 : decode cX5_demand 16 = .ok (.goto 4, 3) := by decide +kernel
theorem dX5_demand_19 : decode cX5_demand 19 = .ok (.iconst 0, 1) := by decide +kernel
theorem dX5_demand_20 : decode cX5_demand 20 = .ok (.istore 4, 2) := by decide +kernel
theorem dX5_demand_22 : decode cX5_demand 22 = .ok (.aload_n 0, 1) := by decide +kernel
theorem dX5_demand_23 : decode cX5_demand 23 = .ok (.aload_n 0, 1) := by decide +kernel
theorem dX5_demand_24 : decode cX5_demand 24 = .ok (.iload_n 1, 1) := by decide +kernel
theorem dX5_demand_25 : decode cX5_demand 25 = .ok (.invokevirtual 63, 3) := by decide +kernel
theorem dX5_demand_28 : decode cX5_demand 28 = .ok (.ifCond .eq 11, 3) := by decide +kernel
theorem dX5_demand_31 : decode cX5_demand 31 = .ok (.aload_n 0, 1) := by decide +kernel
theorem dX5_demand_32 : decode cX5_demand 32 = .ok (.iload_n 2, 1) := by decide +kernel
theorem dX5_demand_33 : decode cX5_demand 33 = .ok (.invokevirtual 63, 3) := by decide +kernel
theorem dX5_demand_36 : decode cX5_demand 36 = .ok (.ifCond .ne 7, 3) := by decide +kernel
theorem dX5_demand_39 : decode cX5_demand 39 = .ok (.iconst 1, 1) := by decide +kernel
theorem dX5_demand_40 : decode cX5_demand 40 = .ok (.goto 13, 3) := by decide +kernel
theorem dX5_demand_43 : decode cX5_demand 43 = .ok (.iload 4, 2) := by decide +kernel
theorem dX5_demand_45 : decode cX5_demand 45 = .ok (.ifCond .eq 7, 3) := by decide +kernel
theorem dX5_demand_48 : decode cX5_demand 48 = .ok (.iconst 0, 1) := by decide +kernel
theorem dX5_demand_49 : decode cX5_demand 49 = .ok (.goto 4, 3) := by decide +kernel
theorem dX5_demand_52 : decode cX5_demand 52 = .ok (.iconst 2, 1) := by decide +kernel
theorem dX5_demand_53 : decode cX5_demand 53 = .ok (.invokevirtual 67, 3) := by decide +kernel
theorem dX5_demand_56 : decode cX5_demand 56 = .ok (.ifCond .eq 18, 3) := by decide +kernel
theorem dX5_demand_59 : decode cX5_demand 59 = .ok (.aload_n 0, 1) := by decide +kernel
theorem dX5_demand_60 : decode cX5_demand 60 = .ok (.iload_n 1, 1) := by decide +kernel
theorem dX5_demand_61 : decode cX5_demand 61 = .ok (.putfield 81, 3) := by decide +kernel
theorem dX5_demand_64 : decode cX5_demand 64 = .ok (.aload_n 0, 1) := by decide +kernel
theorem dX5_demand_65 : decode cX5_demand 65 = .ok (.iload_n 2, 1) := by decide +kernel
theorem dX5_demand_66 : decode cX5_demand 66 = .ok (.putfield 25, 3) := by decide +kernel
theorem dX5_demand_69 : decode cX5_demand 69 = .ok (.aload_n 0, 1) := by decide +kernel
theorem dX5_demand_70 : decode cX5_demand 70 = .ok (.iload_n 3, 1) := by decide +kernel
theorem dX5_demand_71 : decode cX5_demand 71 = .ok (.putfield 84, 3) := by decide +kernel
theorem dX5_demand_74 : decode cX5_demand 74 = .ok (.return_, 1) := by decide +kernel
theorem dX5_nodes_0 : decode cX5_nodes 0 = .ok (.aload_n 0, 1) := by decide +kernel
theorem dX5_nodes_1 : decode cX5_nodes 1 = .ok (.iconst 0, 1) := by decide +kernel
theorem dX5_nodes_2 : decode cX5_nodes 2 = .ok (.putfield 53, 3) := by decide +kernel
theorem dX5_nodes_5 : decode cX5_nodes 5 = .ok (.aload_n 0, 1) := by decide +kernel
theorem dX5_nodes_6 : decode cX5_nodes 6 = .ok (.getfield 50, 3) := by decide +kernel
theorem dX5_nodes_9 : decode cX5_nodes 9 = .ok (.ireturn, 1) := by decide +kernel
theorem dX5_arcs_0 : decode cX5_arcs 0 = .ok (.aload_n 0, 1) := by decide +kernel
theorem dX5_arcs_1 : decode cX5_arcs 1 = .ok (.iconst 0, 1) := by decide +kernel
theorem dX5_arcs_2 : decode cX5_arcs 2 = .ok (.putfield 53, 3) := by decide +kernel
theorem dX5_arcs_5 : decode cX5_arcs 5 = .ok (.aload_n 0, 1) := by decide +kernel
theorem dX5_arcs_6 : decode cX5_arcs 6 = .ok (.getfield 60, 3) := by decide +kernel
theorem dX5_arcs_9 : decode cX5_arcs 9 = .ok (.ireturn, 1) := by decide +kernel
set_option maxRecDepth 20000 in
theorem ggX5_capacity_X5_isArc : GoodIn wsX5_capacity wsX5_isArc := goodIn_r _ [5, 6, 7, 8, 4, 9, 21, 22, 23, 24, 25, 26, 27, 28, 29, 30, 31, 32, 33, 34, 35, 36, 37, 38, 39, 40, 41] (by decide +kernel) (by decide +kernel)
set_option maxRecDepth 20000 in
theorem gX5_capacity_X5_isArc : GoodIn wsX5_capacity (wsV RX5 74 RX5 yX5_isArc wsX5_isArc) := goodIn_app (goodIn_of _ (by decide +kernel)) ggX5_capacity_X5_isArc
set_option maxRecDepth 20000 in
theorem ggX5_capacity_X5_goesWell : GoodIn wsX5_capacity wsX5_goesWell := goodIn_r _ [13, 14, 21, 22, 23, 24, 25, 26, 27, 28, 29, 30, 31, 32, 33, 34, 35, 36, 37, 38, 39, 40, 41] (by decide +kernel) (by decide +kernel)
set_option maxRecDepth 20000 in
theorem gX5_capacity_X5_goesWell : GoodIn wsX5_capacity (wsV RX5 67 RX5 yX5_goesWell wsX5_goesWell) := goodIn_app (goodIn_of _ (by decide +kernel)) ggX5_capacity_X5_goesWell
set_option maxRecDepth 20000 in
theorem ggX5_capacity_X5_capacityOf : GoodIn wsX5_capacity wsX5_capacityOf := goodIn_r _ [18, 19, 20, 21, 22, 23, 24, 25, 26, 27, 28, 29, 30, 31, 32, 33, 34, 35, 36, 37, 38, 39, 40, 41] (by decide +kernel) (by decide +kernel)
set_option maxRecDepth 20000 in
theorem gX5_capacity_X5_capacityOf : GoodIn wsX5_capacity (wsV RX5 77 RX5 yX5_capacityOf wsX5_capacityOf) := goodIn_app (goodIn_of _ (by decide +kernel)) ggX5_capacity_X5_capacityOf
theorem dX5_capacity_0 : decode cX5_capacity 0 = .ok (.aload_n 0, 1) := by decide +kernel
theorem dX5_capacity_1 : decode cX5_capacity 1 = .ok (.aload_n 0, 1) := by decide +kernel
theorem dX5_capacity_2 : decode cX5_capacity 2 = .ok (.iload_n 1, 1) := by decide +kernel
theorem dX5_capacity_3 : decode cX5_capacity 3 = .ok (.invokevirtual 74, 3) := by decide +kernel
theorem dX5_capacity_6 : decode cX5_capacity 6 = .ok (.ifCond .eq 7, 3) := by decide +kernel
theorem dX5_capacity_9 : decode cX5_capacity 9 = .ok (.iconst 0, 1) := by decide +kernel
theorem dX5_capacity_10 : decode cX5_capacity 10 = .ok (.goto 4, 3) := by decide +kernel
theorem dX5_capacity_13 : decode cX5_capacity 13 = .ok (.iconst 1, 1) := by decide +kernel
theorem dX5_capacity_14 : decode cX5_capacity 14 = .ok (.invokevirtual 67, 3) := by decide +kernel
theorem dX5_capacity_17 : decode cX5_capacity 17 = .ok (.ifCond .eq 11, 3) := by decide +kernel
theorem dX5_capacity_20 : decode cX5_capacity 20 = .ok (.aload_n 0, 1) := by decide +kernel
theorem dX5_capacity_21 : decode cX5_capacity 21 = .ok (.iload_n 1, 1) := by decide +kernel
theorem dX5_capacity_22 : decode cX5_capacity 22 = .ok (.invokevirtual 77, 3) := by decide +kernel
theorem dX5_capacity_25 : decode cX5_capacity 25 = .ok (.goto 4, 3) := by decide +kernel
theorem dX5_capacity_28 : decode cX5_capacity 28 = .ok (.iconst 0, 1) := by decide +kernel
theorem dX5_capacity_29 : decode cX5_capacity 29 = .ok (.ireturn, 1) := by decide +kernel
theorem dX5_priceOf_0 : decode cX5_priceOf 0 = .ok (.iconst 0, 1) := by decide +kernel
theorem dX5_priceOf_1 : decode cX5_priceOf 1 = .ok (.istore_n 3, 1) := by decide +kernel
theorem dX5_priceOf_2 : decode cX5_priceOf 2 = .ok (.iload_n 2, 1) := by decide +kernel
theorem dX5_priceOf_3 : decode cX5_priceOf 3 = .ok (.istore 4, 2) := by decide +kernel
theorem dX5_priceOf_5 : decode cX5_priceOf 5 = .ok (.iload 4, 2) := by decide +kernel
theorem dX5_priceOf_7 : decode cX5_priceOf 7 = .ok (.aload_n 0, 1) := by decide +kernel
theorem dX5_priceOf_8 : decode cX5_priceOf 8 = .ok (.getfield 16, 3) := by decide +kernel
theorem dX5_priceOf_11 : decode cX5_priceOf 11 = .ok (.iconst 3, 1) := by decide +kernel
theorem dX5_priceOf_12 : decode cX5_priceOf 12 = .ok (.iload_n 1, 1) := by decide +kernel
theorem dX5_priceOf_13 : decode cX5_priceOf 13 = .ok (.imul, 1) := by decide +kernel
theorem dX5_priceOf_14 : decode cX5_priceOf 14 = .ok (.iload_n 3, 1) := by decide +kernel
theorem dX5_priceOf_15 : decode cX5_priceOf 15 = .ok (.iadd, 1) := by decide +kernel
theorem dX5_priceOf_16 : decode cX5_priceOf 16 = .ok (.iaload, 1) := by decide +kernel
theorem dX5_priceOf_17 : decode cX5_priceOf 17 = .ok (.if_icmp .le 24, 3) := by decide +kernel
theorem dX5_priceOf_20 : decode cX5_priceOf 20 = .ok (.iload 4, 2) := by decide +kernel
theorem dX5_priceOf_22 : decode cX5_priceOf 22 = .ok (.aload_n 0, 1) := by decide +kernel
theorem dX5_priceOf_23 : decode cX5_priceOf 23 = .ok (.getfield 16, 3) := by decide +kernel
theorem dX5_priceOf_26 : decode cX5_priceOf 26 = .ok (.iconst 3, 1) := by decide +kernel
theorem dX5_priceOf_27 : decode cX5_priceOf 27 = .ok (.iload_n 1, 1) := by decide +kernel
theorem dX5_priceOf_28 : decode cX5_priceOf 28 = .ok (.imul, 1) := by decide +kernel
theorem dX5_priceOf_29 : decode cX5_priceOf 29 = .ok (.iload_n 3, 1) := by decide +kernel
theorem dX5_priceOf_30 : decode cX5_priceOf 30 = .ok (.iadd, 1) := by decide +kernel
theorem dX5_priceOf_31 : decode cX5_priceOf 31 = .ok (.iaload, 1) := by decide +kernel
theorem dX5_priceOf_32 : decode cX5_priceOf 32 = .ok (.isub, 1) := by decide +kernel
theorem dX5_priceOf_33 : decode cX5_priceOf 33 = .ok (.istore 4, 2) := by decide +kernel
theorem dX5_priceOf_35 : decode cX5_priceOf 35 = .ok (.iinc 3 1, 3) := by decide +kernel
theorem dX5_priceOf_38 : decode cX5_priceOf 38 = .ok (.goto (-33), 3) := by decide +kernel
theorem dX5_priceOf_41 : decode cX5_priceOf 41 = .ok (.aload_n 0, 1) := by decide +kernel
theorem dX5_priceOf_42 : decode cX5_priceOf 42 = .ok (.getfield 19, 3) := by decide +kernel
theorem dX5_priceOf_45 : decode cX5_priceOf 45 = .ok (.iconst 3, 1) := by decide +kernel
theorem dX5_priceOf_46 : decode cX5_priceOf 46 = .ok (.iload_n 1, 1) := by decide +kernel
theorem dX5_priceOf_47 : decode cX5_priceOf 47 = .ok (.imul, 1) := by decide +kernel
theorem dX5_priceOf_48 : decode cX5_priceOf 48 = .ok (.iload_n 3, 1) := by decide +kernel
theorem dX5_priceOf_49 : decode cX5_priceOf 49 = .ok (.iadd, 1) := by decide +kernel
theorem dX5_priceOf_50 : decode cX5_priceOf 50 = .ok (.iaload, 1) := by decide +kernel
theorem dX5_priceOf_51 : decode cX5_priceOf 51 = .ok (.ireturn, 1) := by decide +kernel
set_option maxRecDepth 20000 in
theorem ggX5_price_X5_isArc : GoodIn wsX5_price wsX5_isArc := goodIn_r _ [5, 6, 7, 8, 4, 9, 26, 27, 28, 29, 30, 31, 32, 33, 34, 35, 36, 37, 38, 39, 40, 41, 42, 43, 44, 45, 46] (by decide +kernel) (by decide +kernel)
set_option maxRecDepth 20000 in
theorem gX5_price_X5_isArc : GoodIn wsX5_price (wsV RX5 74 RX5 yX5_isArc wsX5_isArc) := goodIn_app (goodIn_of _ (by decide +kernel)) ggX5_price_X5_isArc
set_option maxRecDepth 20000 in
theorem ggX5_price_X5_capacityOf : GoodIn wsX5_price wsX5_capacityOf := goodIn_r _ [13, 14, 15, 26, 27, 28, 29, 30, 31, 32, 33, 34, 35, 36, 37, 38, 39, 40, 41, 42, 43, 44, 45, 46] (by decide +kernel) (by decide +kernel)
set_option maxRecDepth 20000 in
theorem gX5_price_X5_capacityOf : GoodIn wsX5_price (wsV RX5 77 RX5 yX5_capacityOf wsX5_capacityOf) := goodIn_app (goodIn_of _ (by decide +kernel)) ggX5_price_X5_capacityOf
set_option maxRecDepth 20000 in
theorem ggX5_price_X5_in : GoodIn wsX5_price wsX5_in := goodIn_r _ [9] (by decide +kernel) (by decide +kernel)
set_option maxRecDepth 20000 in
theorem gX5_price_X5_in : GoodIn wsX5_price (va_wsS RX5 56 yX5_in wsX5_in) := goodIn_app (goodIn_of _ (by decide +kernel)) ggX5_price_X5_in
set_option maxRecDepth 20000 in
theorem ggX5_price_X5_goesWell : GoodIn wsX5_price wsX5_goesWell := goodIn_r _ [19, 20, 26, 27, 28, 29, 30, 31, 32, 33, 34, 35, 36, 37, 38, 39, 40, 41, 42, 43, 44, 45, 46] (by decide +kernel) (by decide +kernel)
set_option maxRecDepth 20000 in
theorem gX5_price_X5_goesWell : GoodIn wsX5_price (wsV RX5 67 RX5 yX5_goesWell wsX5_goesWell) := goodIn_app (goodIn_of _ (by decide +kernel)) ggX5_price_X5_goesWell
set_option maxRecDepth 20000 in
theorem ggX5_price_X5_priceOf : GoodIn wsX5_price wsX5_priceOf := goodIn_r _ [24, 15, 25, 26, 27, 28, 29, 30, 31, 32, 33, 34, 35, 36, 37, 38, 39, 40, 41, 42, 43, 44, 45, 46] (by decide +kernel) (by decide +kernel)
set_option maxRecDepth 20000 in
theorem gX5_price_X5_priceOf : GoodIn wsX5_price (wsV RX5 87 RX5 yX5_priceOf wsX5_priceOf) := goodIn_app (goodIn_of _ (by decide +kernel)) ggX5_price_X5_priceOf
theorem dX5_price_0 : decode cX5_price 0 = .ok (.aload_n 0, 1) := by decide +kernel
theorem dX5_price_1 : decode cX5_price 1 = .ok (.iload_n 1, 1) := by decide +kernel
theorem dX5_price_2 : decode cX5_price 2 = .ok (.invokevirtual 74, 3) := by decide +kernel
theorem dX5_price_5 : decode cX5_price 5 = .ok (.ifCond .eq 20, 3) := by decide +kernel
theorem dX5_price_8 : decode cX5_price 8 = .ok (.iload_n 2, 1) := by decide +kernel
theorem dX5_price_9 : decode cX5_price 9 = .ok (.iconst 1, 1) := by decide +kernel
theorem dX5_price_10 : decode cX5_price 10 = .ok (.aload_n 0, 1) := by decide +kernel
theorem dX5_price_11 : decode cX5_price 11 = .ok (.iload_n 1, 1) := by decide +kernel
theorem dX5_price_12 : decode cX5_price 12 = .ok (.invokevirtual 77, 3) := by decide +kernel
theorem dX5_price_15 : decode cX5_price 15 = .ok (.invokestatic 56, 3) := by decide +kernel
theorem dX5_price_18 : decode cX5_price 18 = .ok (.ifCond .eq 7, 3) := by decide +kernel
theorem dX5_price_21 : decode cX5_price 21 = .ok (.iconst 1, 1) := by decide +kernel
theorem dX5_price_22 : decode cX5_price 22 = .ok (.goto 4, 3) := by decide +kernel
theorem dX5_price_25 : decode cX5_price 25 = .ok (.iconst 0, 1) := by decide +kernel
theorem dX5_price_26 : decode cX5_price 26 = .ok (.istore_n 3, 1) := by decide +kernel
theorem dX5_price_27 : decode cX5_price 27 = .ok (.aload_n 0, 1) := by decide +kernel
theorem dX5_price_28 : decode cX5_price 28 = .ok (.iload_n 3, 1) := by decide +kernel
theorem dX5_price_29 : decode cX5_price 29 = .ok (.ifCond .eq 7, 3) := by decide +kernel
theorem dX5_price_32 : decode cX5_price 32 = .ok (.iconst 0, 1) := by decide +kernel
theorem dX5_price_33 : decode cX5_price 33 = .ok (.goto 4, 3) := by decide +kernel
theorem dX5_price_36 : decode cX5_price 36 = .ok (.iconst 1, 1) := by decide +kernel
theorem dX5_price_37 : decode cX5_price 37 = .ok (.invokevirtual 67, 3) := by decide +kernel
theorem dX5_price_40 : decode cX5_price 40 = .ok (.ifCond .eq 12, 3) := by decide +kernel
theorem dX5_price_43 : decode cX5_price 43 = .ok (.aload_n 0, 1) := by decide +kernel
theorem dX5_price_44 : decode cX5_price 44 = .ok (.iload_n 1, 1) := by decide +kernel
theorem dX5_price_45 : decode cX5_price 45 = .ok (.iload_n 2, 1) := by decide +kernel
theorem dX5_price_46 : decode cX5_price 46 = .ok (.invokevirtual 87, 3) := by decide +kernel
theorem dX5_price_49 : decode cX5_price 49 = .ok (.goto 4, 3) := by decide +kernel
theorem dX5_price_52 : decode cX5_price 52 = .ok (.iconst 0, 1) := by decide +kernel
theorem dX5_price_53 : decode cX5_price 53 = .ok (.ireturn, 1) := by decide +kernel
set_option maxRecDepth 20000 in
theorem ggX5_open_X5_capacityOf : GoodIn wsX5_open wsX5_capacityOf := goodIn_r _ [8, 9, 10, 11, 12, 13, 14, 15, 16, 17, 18, 19, 20, 21, 22, 23, 24, 25, 26, 27, 28, 29, 30, 31] (by decide +kernel) (by decide +kernel)
set_option maxRecDepth 20000 in
theorem gX5_open_X5_capacityOf : GoodIn wsX5_open (wsV RX5 77 RX5 yX5_capacityOf wsX5_capacityOf) := goodIn_app (goodIn_of _ (by decide +kernel)) ggX5_open_X5_capacityOf
theorem dX5_open_0 : decode cX5_open 0 = .ok (.iconst 0, 1) := by decide +kernel
theorem dX5_open_1 : decode cX5_open 1 = .ok (.istore_n 1, 1) := by decide +kernel
theorem dX5_open_2 : decode cX5_open 2 = .ok (.iload_n 1, 1) := by decide +kernel
theorem dX5_open_3 : decode cX5_open 3 = .ok (.aload_n 0, 1) := by decide +kernel
theorem dX5_open_4 : decode cX5_open 4 = .ok (.getfield 60, 3) := by decide +kernel
theorem dX5_open_7 : decode cX5_open 7 = .ok (.if_icmp .ge 27, 3) := by decide +kernel
theorem dX5_open_10 : decode cX5_open 10 = .ok (.aload_n 0, 1) := by decide +kernel
theorem dX5_open_11 : decode cX5_open 11 = .ok (.getfield 29, 3) := by decide +kernel
theorem dX5_open_14 : decode cX5_open 14 = .ok (.iload_n 1, 1) := by decide +kernel
theorem dX5_open_15 : decode cX5_open 15 = .ok (.iconst 0, 1) := by decide +kernel
theorem dX5_open_16 : decode cX5_open 16 = .ok (.iastore, 1) := by decide +kernel
theorem dX5_open_17 : decode cX5_open 17 = .ok (.aload_n 0, 1) := by decide +kernel
theorem dX5_open_18 : decode cX5_open 18 = .ok (.getfield 32, 3) := by decide +kernel
theorem dX5_open_21 : decode cX5_open 21 = .ok (.iload_n 1, 1) := by decide +kernel
theorem dX5_open_22 : decode cX5_open 22 = .ok (.aload_n 0, 1) := by decide +kernel
theorem dX5_open_23 : decode cX5_open 23 = .ok (.iload_n 1, 1) := by decide +kernel
theorem dX5_open_24 : decode cX5_open 24 = .ok (.invokevirtual 77, 3) := by decide +kernel
theorem dX5_open_27 : decode cX5_open 27 = .ok (.iastore, 1) := by decide +kernel
theorem dX5_open_28 : decode cX5_open 28 = .ok (.iinc 1 1, 3) := by decide +kernel
theorem dX5_open_31 : decode cX5_open 31 = .ok (.goto (-29), 3) := by decide +kernel
theorem dX5_open_34 : decode cX5_open 34 = .ok (.return_, 1) := by decide +kernel
set_option maxRecDepth 20000 in
theorem ggX5_begin_X5_priceOf : GoodIn wsX5_begin wsX5_priceOf := goodIn_r _ [14, 15, 16, 17, 18, 19, 20, 21, 22, 23, 24, 25, 26, 27, 28, 29, 30, 31, 32, 33, 34, 35, 36, 37] (by decide +kernel) (by decide +kernel)
set_option maxRecDepth 20000 in
theorem gX5_begin_X5_priceOf : GoodIn wsX5_begin (wsV RX5 87 RX5 yX5_priceOf wsX5_priceOf) := goodIn_app (goodIn_of _ (by decide +kernel)) ggX5_begin_X5_priceOf
theorem dX5_begin_0 : decode cX5_begin 0 = .ok (.iconst 0, 1) := by decide +kernel
theorem dX5_begin_1 : decode cX5_begin 1 = .ok (.istore_n 3, 1) := by decide +kernel
theorem dX5_begin_2 : decode cX5_begin 2 = .ok (.iload_n 3, 1) := by decide +kernel
theorem dX5_begin_3 : decode cX5_begin 3 = .ok (.aload_n 0, 1) := by decide +kernel
theorem dX5_begin_4 : decode cX5_begin 4 = .ok (.getfield 50, 3) := by decide +kernel
theorem dX5_begin_7 : decode cX5_begin 7 = .ok (.if_icmp .ge 16, 3) := by decide +kernel
theorem dX5_begin_10 : decode cX5_begin 10 = .ok (.aload_n 0, 1) := by decide +kernel
theorem dX5_begin_11 : decode cX5_begin 11 = .ok (.getfield 38, 3) := by decide +kernel
theorem dX5_begin_14 : decode cX5_begin 14 = .ok (.iload_n 3, 1) := by decide +kernel
theorem dX5_begin_15 : decode cX5_begin 15 = .ok (.iconst 0, 1) := by decide +kernel
theorem dX5_begin_16 : decode cX5_begin 16 = .ok (.iastore, 1) := by decide +kernel
theorem dX5_begin_17 : decode cX5_begin 17 = .ok (.iinc 3 1, 3) := by decide +kernel
theorem dX5_begin_20 : decode cX5_begin 20 = .ok (.goto (-18), 3) := by decide +kernel
theorem dX5_begin_23 : decode cX5_begin 23 = .ok (.aload_n 0, 1) := by decide +kernel
theorem dX5_begin_24 : decode cX5_begin 24 = .ok (.getfield 38, 3) := by decide +kernel
theorem dX5_begin_27 : decode cX5_begin 27 = .ok (.aload_n 0, 1) := by decide +kernel
theorem dX5_begin_28 : decode cX5_begin 28 = .ok (.getfield 81, 3) := by decide +kernel
theorem dX5_begin_31 : decode cX5_begin 31 = .ok (.dup2, 1) := by decide +kernel
theorem dX5_begin_32 : decode cX5_begin 32 = .ok (.iaload, 1) := by decide +kernel
theorem dX5_begin_33 : decode cX5_begin 33 = .ok (.iload_n 1, 1) := by decide +kernel
theorem dX5_begin_34 : decode cX5_begin 34 = .ok (.iload_n 2, 1) := by decide +kernel
theorem dX5_begin_35 : decode cX5_begin 35 = .ok (.iconst (-1), 1) := by decide +kernel
theorem dX5_begin_36 : decode cX5_begin 36 = .ok (.if_icmp .ne 7, 3) := by decide +kernel
theorem dX5_begin_39 : decode cX5_begin 39 = .ok (.iconst 0, 1) := by decide +kernel
theorem dX5_begin_40 : decode cX5_begin 40 = .ok (.goto 4, 3) := by decide +kernel
theorem dX5_begin_43 : decode cX5_begin 43 = .ok (.iconst 1, 1) := by decide +kernel
theorem dX5_begin_44 : decode cX5_begin 44 = .ok (.iadd, 1) := by decide +kernel
theorem dX5_begin_45 : decode cX5_begin 45 = .ok (.iadd, 1) := by decide +kernel
theorem dX5_begin_46 : decode cX5_begin 46 = .ok (.iastore, 1) := by decide +kernel
theorem dX5_begin_47 : decode cX5_begin 47 = .ok (.aload_n 0, 1) := by decide +kernel
theorem dX5_begin_48 : decode cX5_begin 48 = .ok (.getfield 38, 3) := by decide +kernel
theorem dX5_begin_51 : decode cX5_begin 51 = .ok (.aload_n 0, 1) := by decide +kernel
theorem dX5_begin_52 : decode cX5_begin 52 = .ok (.getfield 25, 3) := by decide +kernel
theorem dX5_begin_55 : decode cX5_begin 55 = .ok (.dup2, 1) := by decide +kernel
theorem dX5_begin_56 : decode cX5_begin 56 = .ok (.iaload, 1) := by decide +kernel
theorem dX5_begin_57 : decode cX5_begin 57 = .ok (.iload_n 1, 1) := by decide +kernel
theorem dX5_begin_58 : decode cX5_begin 58 = .ok (.isub, 1) := by decide +kernel
theorem dX5_begin_59 : decode cX5_begin 59 = .ok (.iastore, 1) := by decide +kernel
theorem dX5_begin_60 : decode cX5_begin 60 = .ok (.iload_n 2, 1) := by decide +kernel
theorem dX5_begin_61 : decode cX5_begin 61 = .ok (.iconst (-1), 1) := by decide +kernel
theorem dX5_begin_62 : decode cX5_begin 62 = .ok (.if_icmp .eq 13, 3) := by decide +kernel
theorem dX5_begin_65 : decode cX5_begin 65 = .ok (.aload_n 0, 1) := by decide +kernel
theorem dX5_begin_66 : decode cX5_begin 66 = .ok (.getfield 38, 3) := by decide +kernel
theorem dX5_begin_69 : decode cX5_begin 69 = .ok (.iload_n 2, 1) := by decide +kernel
theorem dX5_begin_70 : decode cX5_begin 70 = .ok (.dup2, 1) := by decide +kernel
theorem dX5_begin_71 : decode cX5_begin 71 = .ok (.iaload, 1) := by decide +kernel
theorem dX5_begin_72 : decode cX5_begin 72 = .ok (.iconst 1, 1) := by decide +kernel
theorem dX5_begin_73 : decode cX5_begin 73 = .ok (.isub, 1) := by decide +kernel
theorem dX5_begin_74 : decode cX5_begin 74 = .ok (.iastore, 1) := by decide +kernel
theorem dX5_begin_75 : decode cX5_begin 75 = .ok (.iconst 0, 1) := by decide +kernel
theorem dX5_begin_76 : decode cX5_begin 76 = .ok (.istore_n 3, 1) := by decide +kernel
theorem dX5_begin_77 : decode cX5_begin 77 = .ok (.iconst 0, 1) := by decide +kernel
theorem dX5_begin_78 : decode cX5_begin 78 = .ok (.istore 4, 2) := by decide +kernel
theorem dX5_begin_80 : decode cX5_begin 80 = .ok (.iload 4, 2) := by decide +kernel
theorem dX5_begin_82 : decode cX5_begin 82 = .ok (.aload_n 0, 1) := by decide +kernel
theorem dX5_begin_83 : decode cX5_begin 83 = .ok (.getfield 60, 3) := by decide +kernel
theorem dX5_begin_86 : decode cX5_begin 86 = .ok (.if_icmp .ge 99, 3) := by decide +kernel
theorem dX5_begin_89 : decode cX5_begin 89 = .ok (.aload_n 0, 1) := by decide +kernel
theorem dX5_begin_90 : decode cX5_begin 90 = .ok (.getfield 35, 3) := by decide +kernel
theorem dX5_begin_93 : decode cX5_begin 93 = .ok (.iload 4, 2) := by decide +kernel
theorem dX5_begin_95 : decode cX5_begin 95 = .ok (.aload_n 0, 1) := by decide +kernel
theorem dX5_begin_96 : decode cX5_begin 96 = .ok (.getfield 29, 3) := by decide +kernel
theorem dX5_begin_99 : decode cX5_begin 99 = .ok (.iload 4, 2) := by decide +kernel
theorem dX5_begin_101 : decode cX5_begin 101 = .ok (.iaload, 1) := by decide +kernel
theorem dX5_begin_102 : decode cX5_begin 102 = .ok (.iastore, 1) := by decide +kernel
theorem dX5_begin_103 : decode cX5_begin 103 = .ok (.aload_n 0, 1) := by decide +kernel
theorem dX5_begin_104 : decode cX5_begin 104 = .ok (.getfield 38, 3) := by decide +kernel
theorem dX5_begin_107 : decode cX5_begin 107 = .ok (.aload_n 0, 1) := by decide +kernel
theorem dX5_begin_108 : decode cX5_begin 108 = .ok (.getfield 7, 3) := by decide +kernel
theorem dX5_begin_111 : decode cX5_begin 111 = .ok (.iload 4, 2) := by decide +kernel
theorem dX5_begin_113 : decode cX5_begin 113 = .ok (.iaload, 1) := by decide +kernel
theorem dX5_begin_114 : decode cX5_begin 114 = .ok (.dup2, 1) := by decide +kernel
theorem dX5_begin_115 : decode cX5_begin 115 = .ok (.iaload, 1) := by decide +kernel
theorem dX5_begin_116 : decode cX5_begin 116 = .ok (.aload_n 0, 1) := by decide +kernel
theorem dX5_begin_117 : decode cX5_begin 117 = .ok (.getfield 29, 3) := by decide +kernel
theorem dX5_begin_120 : decode cX5_begin 120 = .ok (.iload 4, 2) := by decide +kernel
theorem dX5_begin_122 : decode cX5_begin 122 = .ok (.iaload, 1) := by decide +kernel
theorem dX5_begin_123 : decode cX5_begin 123 = .ok (.isub, 1) := by decide +kernel
theorem dX5_begin_124 : decode cX5_begin 124 = .ok (.iastore, 1) := by decide +kernel
theorem dX5_begin_125 : decode cX5_begin 125 = .ok (.aload_n 0, 1) := by decide +kernel
theorem dX5_begin_126 : decode cX5_begin 126 = .ok (.getfield 38, 3) := by decide +kernel
theorem dX5_begin_129 : decode cX5_begin 129 = .ok (.aload_n 0, 1) := by decide +kernel
theorem dX5_begin_130 : decode cX5_begin 130 = .ok (.getfield 13, 3) := by decide +kernel
theorem dX5_begin_133 : decode cX5_begin 133 = .ok (.iload 4, 2) := by decide +kernel
theorem dX5_begin_135 : decode cX5_begin 135 = .ok (.iaload, 1) := by decide +kernel
theorem dX5_begin_136 : decode cX5_begin 136 = .ok (.dup2, 1) := by decide +kernel
theorem dX5_begin_137 : decode cX5_begin 137 = .ok (.iaload, 1) := by decide +kernel
theorem dX5_begin_138 : decode cX5_begin 138 = .ok (.aload_n 0, 1) := by decide +kernel
theorem dX5_begin_139 : decode cX5_begin 139 = .ok (.getfield 29, 3) := by decide +kernel
theorem dX5_begin_142 : decode cX5_begin 142 = .ok (.iload 4, 2) := by decide +kernel
theorem dX5_begin_144 : decode cX5_begin 144 = .ok (.iaload, 1) := by decide +kernel
theorem dX5_begin_145 : decode cX5_begin 145 = .ok (.iadd, 1) := by decide +kernel
theorem dX5_begin_146 : decode cX5_begin 146 = .ok (.iastore, 1) := by decide +kernel
theorem dX5_begin_147 : decode cX5_begin 147 = .ok (.iconst 1, 1) := by decide +kernel
theorem dX5_begin_148 : decode cX5_begin 148 = .ok (.istore 5, 2) := by decide +kernel
theorem dX5_begin_150 : decode cX5_begin 150 = .ok (.iload 5, 2) := by decide +kernel
theorem dX5_begin_152 : decode cX5_begin 152 = .ok (.aload_n 0, 1) := by decide +kernel
theorem dX5_begin_153 : decode cX5_begin 153 = .ok (.getfield 29, 3) := by decide +kernel
theorem dX5_begin_156 : decode cX5_begin 156 = .ok (.iload 4, 2) := by decide +kernel
theorem dX5_begin_158 : decode cX5_begin 158 = .ok (.iaload, 1) := by decide +kernel
theorem dX5_begin_159 : decode cX5_begin 159 = .ok (.if_icmp .gt 20, 3) := by decide +kernel
theorem dX5_begin_162 : decode cX5_begin 162 = .ok (.iload_n 3, 1) := by decide +kernel
theorem dX5_begin_163 : decode cX5_begin 163 = .ok (.aload_n 0, 1) := by decide +kernel
theorem dX5_begin_164 : decode cX5_begin 164 = .ok (.iload 4, 2) := by decide +kernel
theorem dX5_begin_166 : decode cX5_begin 166 = .ok (.iload 5, 2) := by decide +kernel
theorem dX5_begin_168 : decode cX5_begin 168 = .ok (.invokevirtual 87, 3) := by decide +kernel
theorem dX5_begin_171 : decode cX5_begin 171 = .ok (.iadd, 1) := by decide +kernel
theorem dX5_begin_172 : decode cX5_begin 172 = .ok (.istore_n 3, 1) := by decide +kernel
theorem dX5_begin_173 : decode cX5_begin 173 = .ok (.iinc 5 1, 3) := by decide +kernel
theorem dX5_begin_176 : decode cX5_begin 176 = .ok (.goto (-26), 3) := by decide +kernel
theorem dX5_begin_179 : decode cX5_begin 179 = .ok (.iinc 4 1, 3) := by decide +kernel
theorem dX5_begin_182 : decode cX5_begin 182 = .ok (.goto (-102), 3) := by decide +kernel
theorem dX5_begin_185 : decode cX5_begin 185 = .ok (.iload_n 3, 1) := by decide +kernel
theorem dX5_begin_186 : decode cX5_begin 186 = .ok (.ireturn, 1) := by decide +kernel
theorem dX5_steps_0 : decode cX5_steps 0 = .ok (.aload_n 0, 1) := by decide +kernel
theorem dX5_steps_1 : decode cX5_steps 1 = .ok (.getfield 41, 3) := by decide +kernel
theorem dX5_steps_4 : decode cX5_steps 4 = .ok (.iload_n 1, 1) := by decide +kernel
theorem dX5_steps_5 : decode cX5_steps 5 = .ok (.iaload, 1) := by decide +kernel
theorem dX5_steps_6 : decode cX5_steps 6 = .ok (.ldc 91, 2) := by decide +kernel
theorem dX5_steps_8 : decode cX5_steps 8 = .ok (.if_icmp .ge 20, 3) := by decide +kernel
theorem dX5_steps_11 : decode cX5_steps 11 = .ok (.aload_n 0, 1) := by decide +kernel
theorem dX5_steps_12 : decode cX5_steps 12 = .ok (.getfield 41, 3) := by decide +kernel
theorem dX5_steps_15 : decode cX5_steps 15 = .ok (.iload_n 1, 1) := by decide +kernel
theorem dX5_steps_16 : decode cX5_steps 16 = .ok (.iaload, 1) := by decide +kernel
theorem dX5_steps_17 : decode cX5_steps 17 = .ok (.iload_n 3, 1) := by decide +kernel
theorem dX5_steps_18 : decode cX5_steps 18 = .ok (.iadd, 1) := by decide +kernel
theorem dX5_steps_19 : decode cX5_steps 19 = .ok (.aload_n 0, 1) := by decide +kernel
theorem dX5_steps_20 : decode cX5_steps 20 = .ok (.getfield 41, 3) := by decide +kernel
theorem dX5_steps_23 : decode cX5_steps 23 = .ok (.iload_n 2, 1) := by decide +kernel
theorem dX5_steps_24 : decode cX5_steps 24 = .ok (.iaload, 1) := by decide +kernel
theorem dX5_steps_25 : decode cX5_steps 25 = .ok (.if_icmp .lt 5, 3) := by decide +kernel
theorem dX5_steps_28 : decode cX5_steps 28 = .ok (.iconst 0, 1) := by decide +kernel
theorem dX5_steps_29 : decode cX5_steps 29 = .ok (.ireturn, 1) := by decide +kernel
theorem dX5_steps_30 : decode cX5_steps 30 = .ok (.aload_n 0, 1) := by decide +kernel
theorem dX5_steps_31 : decode cX5_steps 31 = .ok (.getfield 41, 3) := by decide +kernel
theorem dX5_steps_34 : decode cX5_steps 34 = .ok (.iload_n 2, 1) := by decide +kernel
theorem dX5_steps_35 : decode cX5_steps 35 = .ok (.aload_n 0, 1) := by decide +kernel
theorem dX5_steps_36 : decode cX5_steps 36 = .ok (.getfield 41, 3) := by decide +kernel
theorem dX5_steps_39 : decode cX5_steps 39 = .ok (.iload_n 1, 1) := by decide +kernel
theorem dX5_steps_40 : decode cX5_steps 40 = .ok (.iaload, 1) := by decide +kernel
theorem dX5_steps_41 : decode cX5_steps 41 = .ok (.iload_n 3, 1) := by decide +kernel
theorem dX5_steps_42 : decode cX5_steps 42 = .ok (.iadd, 1) := by decide +kernel
theorem dX5_steps_43 : decode cX5_steps 43 = .ok (.iastore, 1) := by decide +kernel
theorem dX5_steps_44 : decode cX5_steps 44 = .ok (.aload_n 0, 1) := by decide +kernel
theorem dX5_steps_45 : decode cX5_steps 45 = .ok (.getfield 44, 3) := by decide +kernel
theorem dX5_steps_48 : decode cX5_steps 48 = .ok (.iload_n 2, 1) := by decide +kernel
theorem dX5_steps_49 : decode cX5_steps 49 = .ok (.iload 4, 2) := by decide +kernel
theorem dX5_steps_51 : decode cX5_steps 51 = .ok (.iastore, 1) := by decide +kernel
theorem dX5_steps_52 : decode cX5_steps 52 = .ok (.iconst 1, 1) := by decide +kernel
theorem dX5_steps_53 : decode cX5_steps 53 = .ok (.ireturn, 1) := by decide +kernel
set_option maxRecDepth 20000 in
theorem ggX5_measure_X5_priceOf : GoodIn wsX5_measure wsX5_priceOf := goodIn_r _ [16, 17, 18, 23, 24, 25, 26, 27, 28, 29, 30, 31, 32, 33, 34, 35, 36, 37, 38, 39, 40, 41, 42, 43] (by decide +kernel) (by decide +kernel)
set_option maxRecDepth 20000 in
theorem gX5_measure_X5_priceOf : GoodIn wsX5_measure (wsV RX5 87 RX5 yX5_priceOf wsX5_priceOf) := goodIn_app (goodIn_of _ (by decide +kernel)) ggX5_measure_X5_priceOf
set_option maxRecDepth 20000 in
theorem ggX5_measure_X5_steps : GoodIn wsX5_measure wsX5_steps := goodIn_r _ [22, 2, 4, 5, 23, 24, 25, 26, 27, 28, 29, 30, 31, 32, 33, 34, 35, 36, 37, 38, 39, 40, 41, 42, 43] (by decide +kernel) (by decide +kernel)
set_option maxRecDepth 20000 in
theorem gX5_measure_X5_steps : GoodIn wsX5_measure (wsV RX5 92 RX5 yX5_steps wsX5_steps) := goodIn_app (goodIn_of _ (by decide +kernel)) ggX5_measure_X5_steps
theorem dX5_measure_0 : decode cX5_measure 0 = .ok (.iconst 0, 1) := by decide +kernel
theorem dX5_measure_1 : decode cX5_measure 1 = .ok (.istore_n 1, 1) := by decide +kernel
theorem dX5_measure_2 : decode cX5_measure 2 = .ok (.iload_n 1, 1) := by decide +kernel
theorem dX5_measure_3 : decode cX5_measure 3 = .ok (.aload_n 0, 1) := by decide +kernel
theorem dX5_measure_4 : decode cX5_measure 4 = .ok (.getfield 50, 3) := by decide +kernel
theorem dX5_measure_7 : decode cX5_measure 7 = .ok (.if_icmp .ge 37, 3) := by decide +kernel
theorem dX5_measure_10 : decode cX5_measure 10 = .ok (.aload_n 0, 1) := by decide +kernel
theorem dX5_measure_11 : decode cX5_measure 11 = .ok (.getfield 41, 3) := by decide +kernel
theorem dX5_measure_14 : decode cX5_measure 14 = .ok (.iload_n 1, 1) := by decide +kernel
theorem dX5_measure_15 : decode cX5_measure 15 = .ok (.aload_n 0, 1) := by decide +kernel
theorem dX5_measure_16 : decode cX5_measure 16 = .ok (.getfield 38, 3) := by decide +kernel
theorem dX5_measure_19 : decode cX5_measure 19 = .ok (.iload_n 1, 1) := by decide +kernel
theorem dX5_measure_20 : decode cX5_measure 20 = .ok (.iaload, 1) := by decide +kernel
theorem dX5_measure_21 : decode cX5_measure 21 = .ok (.ifCond .le 7, 3) := by decide +kernel
theorem dX5_measure_24 : decode cX5_measure 24 = .ok (.iconst 0, 1) := by decide +kernel
theorem dX5_measure_25 : decode cX5_measure 25 = .ok (.goto 5, 3) := by decide +kernel
theorem dX5_measure_28 : decode cX5_measure 28 = .ok (.ldc 91, 2) := by decide +kernel
theorem dX5_measure_30 : decode cX5_measure 30 = .ok (.iastore, 1) := by decide +kernel
theorem dX5_measure_31 : decode cX5_measure 31 = .ok (.aload_n 0, 1) := by decide +kernel
theorem dX5_measure_32 : decode cX5_measure 32 = .ok (.getfield 44, 3) := by decide +kernel
theorem dX5_measure_35 : decode cX5_measure 35 = .ok (.iload_n 1, 1) := by decide +kernel
theorem dX5_measure_36 : decode cX5_measure 36 = .ok (.iconst (-1), 1) := by decide +kernel
theorem dX5_measure_37 : decode cX5_measure 37 = .ok (.iastore, 1) := by decide +kernel
theorem dX5_measure_38 : decode cX5_measure 38 = .ok (.iinc 1 1, 3) := by decide +kernel
theorem dX5_measure_41 : decode cX5_measure 41 = .ok (.goto (-39), 3) := by decide +kernel
theorem dX5_measure_44 : decode cX5_measure 44 = .ok (.iconst 1, 1) := by decide +kernel
theorem dX5_measure_45 : decode cX5_measure 45 = .ok (.istore_n 1, 1) := by decide +kernel
theorem dX5_measure_46 : decode cX5_measure 46 = .ok (.iload_n 1, 1) := by decide +kernel
theorem dX5_measure_47 : decode cX5_measure 47 = .ok (.ifCond .eq 145, 3) := by decide +kernel
theorem dX5_measure_50 : decode cX5_measure 50 = .ok (.iconst 0, 1) := by decide +kernel
theorem dX5_measure_51 : decode cX5_measure 51 = .ok (.istore_n 1, 1) := by decide +kernel
theorem dX5_measure_52 : decode cX5_measure 52 = .ok (.iconst 0, 1) := by decide +kernel
theorem dX5_measure_53 : decode cX5_measure 53 = .ok (.istore_n 2, 1) := by decide +kernel
theorem dX5_measure_54 : decode cX5_measure 54 = .ok (.iload_n 2, 1) := by decide +kernel
theorem dX5_measure_55 : decode cX5_measure 55 = .ok (.aload_n 0, 1) := by decide +kernel
theorem dX5_measure_56 : decode cX5_measure 56 = .ok (.getfield 60, 3) := by decide +kernel
theorem dX5_measure_59 : decode cX5_measure 59 = .ok (.if_icmp .ge 130, 3) := by decide +kernel
theorem dX5_measure_62 : decode cX5_measure 62 = .ok (.aload_n 0, 1) := by decide +kernel
theorem dX5_measure_63 : decode cX5_measure 63 = .ok (.getfield 35, 3) := by decide +kernel
theorem dX5_measure_66 : decode cX5_measure 66 = .ok (.iload_n 2, 1) := by decide +kernel
theorem dX5_measure_67 : decode cX5_measure 67 = .ok (.iaload, 1) := by decide +kernel
theorem dX5_measure_68 : decode cX5_measure 68 = .ok (.aload_n 0, 1) := by decide +kernel
theorem dX5_measure_69 : decode cX5_measure 69 = .ok (.getfield 32, 3) := by decide +kernel
theorem dX5_measure_72 : decode cX5_measure 72 = .ok (.iload_n 2, 1) := by decide +kernel
theorem dX5_measure_73 : decode cX5_measure 73 = .ok (.iaload, 1) := by decide +kernel
theorem dX5_measure_74 : decode cX5_measure 74 = .ok (.if_icmp .ge 48, 3) := by decide +kernel
theorem dX5_measure_77 : decode cX5_measure 77 = .ok (.aload_n 0, 1) := by decide +kernel
theorem dX5_measure_78 : decode cX5_measure 78 = .ok (.aload_n 0, 1) := by decide +kernel
theorem dX5_measure_79 : decode cX5_measure 79 = .ok (.getfield 7, 3) := by decide +kernel
theorem dX5_measure_82 : decode cX5_measure 82 = .ok (.iload_n 2, 1) := by decide +kernel
theorem dX5_measure_83 : decode cX5_measure 83 = .ok (.iaload, 1) := by decide +kernel
theorem dX5_measure_84 : decode cX5_measure 84 = .ok (.aload_n 0, 1) := by decide +kernel
theorem dX5_measure_85 : decode cX5_measure 85 = .ok (.getfield 13, 3) := by decide +kernel
theorem dX5_measure_88 : decode cX5_measure 88 = .ok (.iload_n 2, 1) := by decide +kernel
theorem dX5_measure_89 : decode cX5_measure 89 = .ok (.iaload, 1) := by decide +kernel
theorem dX5_measure_90 : decode cX5_measure 90 = .ok (.aload_n 0, 1) := by decide +kernel
theorem dX5_measure_91 : decode cX5_measure 91 = .ok (.iload_n 2, 1) := by decide +kernel
theorem dX5_measure_92 : decode cX5_measure 92 = .ok (.aload_n 0, 1) := by decide +kernel
theorem dX5_measure_93 : decode cX5_measure 93 = .ok (.getfield 35, 3) := by decide +kernel
theorem dX5_measure_96 : decode cX5_measure 96 = .ok (.iload_n 2, 1) := by decide +kernel
theorem dX5_measure_97 : decode cX5_measure 97 = .ok (.iaload, 1) := by decide +kernel
theorem dX5_measure_98 : decode cX5_measure 98 = .ok (.iconst 1, 1) := by decide +kernel
theorem dX5_measure_99 : decode cX5_measure 99 = .ok (.iadd, 1) := by decide +kernel
theorem dX5_measure_100 : decode cX5_measure 100 = .ok (.invokevirtual 87, 3) := by decide +kernel
theorem dX5_measure_103 : decode cX5_measure 103 = .ok (.iconst 2, 1) := by decide +kernel
theorem dX5_measure_104 : decode cX5_measure 104 = .ok (.iload_n 2, 1) := by decide +kernel
theorem dX5_measure_105 : decode cX5_measure 105 = .ok (.imul, 1) := by decide +kernel
theorem dX5_measure_106 : decode cX5_measure 106 = .ok (.invokevirtual 92, 3) := by decide +kernel
theorem dX5_measure_109 : decode cX5_measure 109 = .ok (.ifCond .ne 7, 3) := by decide +kernel
theorem dX5_measure_112 : decode cX5_measure 112 = .ok (.iload_n 1, 1) := by decide +kernel
theorem dX5_measure_113 : decode cX5_measure 113 = .ok (.ifCond .eq 7, 3) := by decide +kernel
theorem dX5_measure_116 : decode cX5_measure 116 = .ok (.iconst 1, 1) := by decide +kernel
theorem dX5_measure_117 : decode cX5_measure 117 = .ok (.goto 4, 3) := by decide +kernel
theorem dX5_measure_120 : decode cX5_measure 120 = .ok (.iconst 0, 1) := by decide +kernel
theorem dX5_measure_121 : decode cX5_measure 121 = .ok (.istore_n 1, 1) := by decide +kernel
theorem dX5_measure_122 : decode cX5_measure 122 = .ok (.aload_n 0, 1) := by decide +kernel
theorem dX5_measure_123 : decode cX5_measure 123 = .ok (.getfield 35, 3) := by decide +kernel
theorem dX5_measure_126 : decode cX5_measure 126 = .ok (.iload_n 2, 1) := by decide +kernel
theorem dX5_measure_127 : decode cX5_measure 127 = .ok (.iaload, 1) := by decide +kernel
theorem dX5_measure_128 : decode cX5_measure 128 = .ok (.aload_n 0, 1) := by decide +kernel
theorem dX5_measure_129 : decode cX5_measure 129 = .ok (.getfield 29, 3) := by decide +kernel
theorem dX5_measure_132 : decode cX5_measure 132 = .ok (.iload_n 2, 1) := by decide +kernel
theorem dX5_measure_133 : decode cX5_measure 133 = .ok (.iaload, 1) := by decide +kernel
theorem dX5_measure_134 : decode cX5_measure 134 = .ok (.if_icmp .le 49, 3) := by decide +kernel
theorem dX5_measure_137 : decode cX5_measure 137 = .ok (.aload_n 0, 1) := by decide +kernel
theorem dX5_measure_138 : decode cX5_measure 138 = .ok (.aload_n 0, 1) := by decide +kernel
theorem dX5_measure_139 : decode cX5_measure 139 = .ok (.getfield 13, 3) := by decide +kernel
theorem dX5_measure_142 : decode cX5_measure 142 = .ok (.iload_n 2, 1) := by decide +kernel
theorem dX5_measure_143 : decode cX5_measure 143 = .ok (.iaload, 1) := by decide +kernel
theorem dX5_measure_144 : decode cX5_measure 144 = .ok (.aload_n 0, 1) := by decide +kernel
theorem dX5_measure_145 : decode cX5_measure 145 = .ok (.getfield 7, 3) := by decide +kernel
theorem dX5_measure_148 : decode cX5_measure 148 = .ok (.iload_n 2, 1) := by decide +kernel
theorem dX5_measure_149 : decode cX5_measure 149 = .ok (.iaload, 1) := by decide +kernel
theorem dX5_measure_150 : decode cX5_measure 150 = .ok (.aload_n 0, 1) := by decide +kernel
theorem dX5_measure_151 : decode cX5_measure 151 = .ok (.iload_n 2, 1) := by decide +kernel
theorem dX5_measure_152 : decode cX5_measure 152 = .ok (.aload_n 0, 1) := by decide +kernel
theorem dX5_measure_153 : decode cX5_measure 153 = .ok (.getfield 35, 3) := by decide +kernel
theorem dX5_measure_156 : decode cX5_measure 156 = .ok (.iload_n 2, 1) := by decide +kernel
theorem dX5_measure_157 : decode cX5_measure 157 = .ok (.iaload, 1) := by decide +kernel
theorem dX5_measure_158 : decode cX5_measure 158 = .ok (.invokevirtual 87, 3) := by decide +kernel
theorem dX5_measure_161 : decode cX5_measure 161 = .ok (.ineg, 1) := by decide +kernel
theorem dX5_measure_162 : decode cX5_measure 162 = .ok (.iconst 2, 1) := by decide +kernel
theorem dX5_measure_163 : decode cX5_measure 163 = .ok (.iload_n 2, 1) := by decide +kernel
theorem dX5_measure_164 : decode cX5_measure 164 = .ok (.imul, 1) := by decide +kernel
theorem dX5_measure_165 : decode cX5_measure 165 = .ok (.iconst 1, 1) := by decide +kernel
theorem dX5_measure_166 : decode cX5_measure 166 = .ok (.iadd, 1) := by decide +kernel
theorem dX5_measure_167 : decode cX5_measure 167 = .ok (.invokevirtual 92, 3) := by decide +kernel
theorem dX5_measure_170 : decode cX5_measure 170 = .ok (.ifCond .ne 7, 3) := by decide +kernel
theorem dX5_measure_173 : decode cX5_measure 173 = .ok (.iload_n 1, 1) := by decide +kernel
theorem dX5_measure_174 : decode cX5_measure 174 = .ok (.ifCond .eq 7, 3) := by decide +kernel
theorem dX5_measure_177 : decode cX5_measure 177 = .ok (.iconst 1, 1) := by decide +kernel
theorem dX5_measure_178 : decode cX5_measure 178 = .ok (.goto 4, 3) := by decide +kernel
theorem dX5_measure_181 : decode cX5_measure 181 = .ok (.iconst 0, 1) := by decide +kernel
theorem dX5_measure_182 : decode cX5_measure 182 = .ok (.istore_n 1, 1) := by decide +kernel
theorem dX5_measure_183 : decode cX5_measure 183 = .ok (.iinc 2 1, 3) := by decide +kernel
theorem dX5_measure_186 : decode cX5_measure 186 = .ok (.goto (-132), 3) := by decide +kernel
theorem dX5_measure_189 : decode cX5_measure 189 = .ok (.goto (-143), 3) := by decide +kernel
theorem dX5_measure_192 : decode cX5_measure 192 = .ok (.return_, 1) := by decide +kernel
theorem dX5_send_0 : decode cX5_send 0 = .ok (.iload_n 1, 1) := by decide +kernel
theorem dX5_send_1 : decode cX5_send 1 = .ok (.istore_n 2, 1) := by decide +kernel
theorem dX5_send_2 : decode cX5_send 2 = .ok (.aload_n 0, 1) := by decide +kernel
theorem dX5_send_3 : decode cX5_send 3 = .ok (.getfield 38, 3) := by decide +kernel
theorem dX5_send_6 : decode cX5_send 6 = .ok (.iload_n 1, 1) := by decide +kernel
theorem dX5_send_7 : decode cX5_send 7 = .ok (.dup2, 1) := by decide +kernel
theorem dX5_send_8 : decode cX5_send 8 = .ok (.iaload, 1) := by decide +kernel
theorem dX5_send_9 : decode cX5_send 9 = .ok (.iconst 1, 1) := by decide +kernel
theorem dX5_send_10 : decode cX5_send 10 = .ok (.iadd, 1) := by decide +kernel
theorem dX5_send_11 : decode cX5_send 11 = .ok (.iastore, 1) := by decide +kernel
theorem dX5_send_12 : decode cX5_send 12 = .ok (.aload_n 0, 1) := by decide +kernel
theorem dX5_send_13 : decode cX5_send 13 = .ok (.getfield 44, 3) := by decide +kernel
theorem dX5_send_16 : decode cX5_send 16 = .ok (.iload_n 2, 1) := by decide +kernel
theorem dX5_send_17 : decode cX5_send 17 = .ok (.iaload, 1) := by decide +kernel
theorem dX5_send_18 : decode cX5_send 18 = .ok (.iconst (-1), 1) := by decide +kernel
theorem dX5_send_19 : decode cX5_send 19 = .ok (.if_icmp .eq 74, 3) := by decide +kernel
theorem dX5_send_22 : decode cX5_send 22 = .ok (.aload_n 0, 1) := by decide +kernel
theorem dX5_send_23 : decode cX5_send 23 = .ok (.getfield 44, 3) := by decide +kernel
theorem dX5_send_26 : decode cX5_send 26 = .ok (.iload_n 2, 1) := by decide +kernel
theorem dX5_send_27 : decode cX5_send 27 = .ok (.iaload, 1) := by decide +kernel
theorem dX5_send_28 : decode cX5_send 28 = .ok (.iconst 2, 1) := by decide +kernel
theorem dX5_send_29 : decode cX5_send 29 = .ok (.idiv, 1) := by decide +kernel
theorem dX5_send_30 : decode cX5_send 30 = .ok (.istore_n 3, 1) := by decide +kernel
theorem dX5_send_31 : decode cX5_send 31 = .ok (.aload_n 0, 1) := by decide +kernel
theorem dX5_send_32 : decode cX5_send 32 = .ok (.getfield 44, 3) := by decide +kernel
theorem dX5_send_35 : decode cX5_send 35 = .ok (.iload_n 2, 1) := by decide +kernel
theorem dX5_send_36 : decode cX5_send 36 = .ok (.iaload, 1) := by decide +kernel
theorem dX5_send_37 : decode cX5_send 37 = .ok (.iconst 2, 1) := by decide +kernel
theorem dX5_send_38 : decode cX5_send 38 = .ok (.irem, 1) := by decide +kernel
theorem dX5_send_39 : decode cX5_send 39 = .ok (.iconst 1, 1) := by decide +kernel
theorem dX5_send_40 : decode cX5_send 40 = .ok (.if_icmp .ne 7, 3) := by decide +kernel
theorem dX5_send_43 : decode cX5_send 43 = .ok (.iconst 1, 1) := by decide +kernel
theorem dX5_send_44 : decode cX5_send 44 = .ok (.goto 4, 3) := by decide +kernel
theorem dX5_send_47 : decode cX5_send 47 = .ok (.iconst 0, 1) := by decide +kernel
theorem dX5_send_48 : decode cX5_send 48 = .ok (.istore 4, 2) := by decide +kernel
theorem dX5_send_50 : decode cX5_send 50 = .ok (.aload_n 0, 1) := by decide +kernel
theorem dX5_send_51 : decode cX5_send 51 = .ok (.getfield 35, 3) := by decide +kernel
theorem dX5_send_54 : decode cX5_send 54 = .ok (.iload_n 3, 1) := by decide +kernel
theorem dX5_send_55 : decode cX5_send 55 = .ok (.dup2, 1) := by decide +kernel
theorem dX5_send_56 : decode cX5_send 56 = .ok (.iaload, 1) := by decide +kernel
theorem dX5_send_57 : decode cX5_send 57 = .ok (.iload 4, 2) := by decide +kernel
theorem dX5_send_59 : decode cX5_send 59 = .ok (.ifCond .eq 7, 3) := by decide +kernel
theorem dX5_send_62 : decode cX5_send 62 = .ok (.iconst (-1), 1) := by decide +kernel
theorem dX5_send_63 : decode cX5_send 63 = .ok (.goto 4, 3) := by decide +kernel
theorem dX5_send_66 : decode cX5_send 66 = .ok (.iconst 1, 1) := by decide +kernel
theorem dX5_send_67 : decode cX5_send 67 = .ok (.iadd, 1) := by decide +kernel
theorem dX5_send_68 : decode cX5_send 68 = .ok (.iastore, 1) := by decide +kernel
theorem dX5_send_69 : decode cX5_send 69 = .ok (.iload 4, 2) := by decide +kernel
theorem dX5_send_71 : decode cX5_send 71 = .ok (.ifCond .eq 12, 3) := by decide +kernel
theorem dX5_send_74 : decode cX5_send 74 = .ok (.aload_n 0, 1) := by decide +kernel
theorem dX5_send_75 : decode cX5_send 75 = .ok (.getfield 13, 3) := by decide +kernel
theorem dX5_send_78 : decode cX5_send 78 = .ok (.iload_n 3, 1) := by decide +kernel
theorem dX5_send_79 : decode cX5_send 79 = .ok (.iaload, 1) := by decide +kernel
theorem dX5_send_80 : decode cX5_send 80 = .ok (.goto 9, 3) := by decide +kernel
theorem dX5_send_83 : decode cX5_send 83 = .ok (.aload_n 0, 1) := by decide +kernel
theorem dX5_send_84 : decode cX5_send 84 = .ok (.getfield 7, 3) := by decide +kernel
theorem dX5_send_87 : decode cX5_send 87 = .ok (.iload_n 3, 1) := by decide +kernel
theorem dX5_send_88 : decode cX5_send 88 = .ok (.iaload, 1) := by decide +kernel
theorem dX5_send_89 : decode cX5_send 89 = .ok (.istore_n 2, 1) := by decide +kernel
theorem dX5_send_90 : decode cX5_send 90 = .ok (.goto (-78), 3) := by decide +kernel
theorem dX5_send_93 : decode cX5_send 93 = .ok (.aload_n 0, 1) := by decide +kernel
theorem dX5_send_94 : decode cX5_send 94 = .ok (.getfield 38, 3) := by decide +kernel
theorem dX5_send_97 : decode cX5_send 97 = .ok (.iload_n 2, 1) := by decide +kernel
theorem dX5_send_98 : decode cX5_send 98 = .ok (.dup2, 1) := by decide +kernel
theorem dX5_send_99 : decode cX5_send 99 = .ok (.iaload, 1) := by decide +kernel
theorem dX5_send_100 : decode cX5_send 100 = .ok (.iconst 1, 1) := by decide +kernel
theorem dX5_send_101 : decode cX5_send 101 = .ok (.isub, 1) := by decide +kernel
theorem dX5_send_102 : decode cX5_send 102 = .ok (.iastore, 1) := by decide +kernel
theorem dX5_send_103 : decode cX5_send 103 = .ok (.return_, 1) := by decide +kernel
set_option maxRecDepth 20000 in
theorem ggX5_cheapest_X5_begin : GoodIn wsX5_cheapest wsX5_begin := goodIn_r _ [9, 1, 2, 10, 11, 12, 13, 14, 15, 16, 17, 18, 19, 8, 20, 21, 22, 37, 38, 39, 40, 41, 42, 43, 44, 45, 46, 47, 48, 49, 50, 51, 52, 53, 54, 55, 56, 57] (by decide +kernel) (by decide +kernel)
set_option maxRecDepth 20000 in
theorem gX5_cheapest_X5_begin : GoodIn wsX5_cheapest (wsV RX5 96 RX5 yX5_begin wsX5_begin) := goodIn_app (goodIn_of _ (by decide +kernel)) ggX5_cheapest_X5_begin
set_option maxRecDepth 20000 in
theorem ggX5_cheapest_X5_measure : GoodIn wsX5_cheapest wsX5_measure := goodIn_r _ [26, 1, 3, 2, 4, 27, 12, 13, 28, 15, 16, 14, 17, 18, 19, 8, 20, 21, 22, 29, 30, 31, 32, 37, 38, 39, 40, 41, 42, 43, 44, 45, 46, 47, 48, 49, 50, 51, 52, 53, 54, 55, 56, 57] (by decide +kernel) (by decide +kernel)
set_option maxRecDepth 20000 in
theorem gX5_cheapest_X5_measure : GoodIn wsX5_cheapest (wsV RX5 99 RX5 yX5_measure wsX5_measure) := goodIn_app (goodIn_of _ (by decide +kernel)) ggX5_cheapest_X5_measure
set_option maxRecDepth 20000 in
theorem ggX5_cheapest_X5_send : GoodIn wsX5_cheapest wsX5_send := goodIn_r _ [36, 2, 27, 13, 16, 15, 37, 38, 39, 40, 41, 42, 43, 44, 45, 46, 47, 48, 49, 50, 51, 52, 53, 54, 55, 56, 57] (by decide +kernel) (by decide +kernel)
set_option maxRecDepth 20000 in
theorem gX5_cheapest_X5_send : GoodIn wsX5_cheapest (wsV RX5 102 RX5 yX5_send wsX5_send) := goodIn_app (goodIn_of _ (by decide +kernel)) ggX5_cheapest_X5_send
theorem dX5_cheapest_0 : decode cX5_cheapest 0 = .ok (.aload_n 0, 1) := by decide +kernel
theorem dX5_cheapest_1 : decode cX5_cheapest 1 = .ok (.iload_n 1, 1) := by decide +kernel
theorem dX5_cheapest_2 : decode cX5_cheapest 2 = .ok (.iload_n 2, 1) := by decide +kernel
theorem dX5_cheapest_3 : decode cX5_cheapest 3 = .ok (.invokevirtual 96, 3) := by decide +kernel
theorem dX5_cheapest_6 : decode cX5_cheapest 6 = .ok (.istore_n 3, 1) := by decide +kernel
theorem dX5_cheapest_7 : decode cX5_cheapest 7 = .ok (.iconst 1, 1) := by decide +kernel
theorem dX5_cheapest_8 : decode cX5_cheapest 8 = .ok (.istore 4, 2) := by decide +kernel
theorem dX5_cheapest_10 : decode cX5_cheapest 10 = .ok (.iload 4, 2) := by decide +kernel
theorem dX5_cheapest_12 : decode cX5_cheapest 12 = .ok (.ifCond .eq 158, 3) := by decide +kernel
theorem dX5_cheapest_15 : decode cX5_cheapest 15 = .ok (.aload_n 0, 1) := by decide +kernel
theorem dX5_cheapest_16 : decode cX5_cheapest 16 = .ok (.invokevirtual 99, 3) := by decide +kernel
theorem dX5_cheapest_19 : decode cX5_cheapest 19 = .ok (.iconst (-1), 1) := by decide +kernel
theorem dX5_cheapest_20 : decode cX5_cheapest 20 = .ok (.istore 5, 2) := by decide +kernel
theorem dX5_cheapest_22 : decode cX5_cheapest 22 = .ok (.iconst 0, 1) := by decide +kernel
theorem dX5_cheapest_23 : decode cX5_cheapest 23 = .ok (.istore 6, 2) := by decide +kernel
theorem dX5_cheapest_25 : decode cX5_cheapest 25 = .ok (.iconst 0, 1) := by decide +kernel
theorem dX5_cheapest_26 : decode cX5_cheapest 26 = .ok (.istore 7, 2) := by decide +kernel
theorem dX5_cheapest_28 : decode cX5_cheapest 28 = .ok (.iload 7, 2) := by decide +kernel
theorem dX5_cheapest_30 : decode cX5_cheapest 30 = .ok (.aload_n 0, 1) := by decide +kernel
theorem dX5_cheapest_31 : decode cX5_cheapest 31 = .ok (.getfield 50, 3) := by decide +kernel
theorem dX5_cheapest_34 : decode cX5_cheapest 34 = .ok (.if_icmp .ge 85, 3) := by decide +kernel
theorem dX5_cheapest_37 : decode cX5_cheapest 37 = .ok (.iload 6, 2) := by decide +kernel
theorem dX5_cheapest_39 : decode cX5_cheapest 39 = .ok (.ifCond .ne 13, 3) := by decide +kernel
theorem dX5_cheapest_42 : decode cX5_cheapest 42 = .ok (.aload_n 0, 1) := by decide +kernel
theorem dX5_cheapest_43 : decode cX5_cheapest 43 = .ok (.getfield 38, 3) := by decide +kernel
theorem dX5_cheapest_46 : decode cX5_cheapest 46 = .ok (.iload 7, 2) := by decide +kernel
theorem dX5_cheapest_48 : decode cX5_cheapest 48 = .ok (.iaload, 1) := by decide +kernel
theorem dX5_cheapest_49 : decode cX5_cheapest 49 = .ok (.ifCond .le 7, 3) := by decide +kernel
theorem dX5_cheapest_52 : decode cX5_cheapest 52 = .ok (.iconst 1, 1) := by decide +kernel
theorem dX5_cheapest_53 : decode cX5_cheapest 53 = .ok (.goto 4, 3) := by decide +kernel
theorem dX5_cheapest_56 : decode cX5_cheapest 56 = .ok (.iconst 0, 1) := by decide +kernel
theorem dX5_cheapest_57 : decode cX5_cheapest 57 = .ok (.istore 6, 2) := by decide +kernel
theorem dX5_cheapest_59 : decode cX5_cheapest 59 = .ok (.aload_n 0, 1) := by decide +kernel
theorem dX5_cheapest_60 : decode cX5_cheapest 60 = .ok (.getfield 38, 3) := by decide +kernel
theorem dX5_cheapest_63 : decode cX5_cheapest 63 = .ok (.iload 7, 2) := by decide +kernel
theorem dX5_cheapest_65 : decode cX5_cheapest 65 = .ok (.iaload, 1) := by decide +kernel
theorem dX5_cheapest_66 : decode cX5_cheapest 66 = .ok (.ifCond .ge 43, 3) := by decide +kernel
theorem dX5_cheapest_69 : decode cX5_cheapest 69 = .ok (.aload_n 0, 1) := by decide +kernel
theorem dX5_cheapest_70 : decode cX5_cheapest 70 = .ok (.getfield 41, 3) := by decide +kernel
theorem dX5_cheapest_73 : decode cX5_cheapest 73 = .ok (.iload 7, 2) := by decide +kernel
theorem dX5_cheapest_75 : decode cX5_cheapest 75 = .ok (.iaload, 1) := by decide +kernel
theorem dX5_cheapest_76 : decode cX5_cheapest 76 = .ok (.ldc 91, 2) := by decide +kernel
theorem dX5_cheapest_78 : decode cX5_cheapest 78 = .ok (.if_icmp .ge 31, 3) := by decide +kernel
theorem dX5_cheapest_81 : decode cX5_cheapest 81 = .ok (.iload 5, 2) := by decide +kernel
theorem dX5_cheapest_83 : decode cX5_cheapest 83 = .ok (.iconst (-1), 1) := by decide +kernel
theorem dX5_cheapest_84 : decode cX5_cheapest 84 = .ok (.if_icmp .eq 20, 3) := by decide +kernel
theorem dX5_cheapest_87 : decode cX5_cheapest 87 = .ok (.aload_n 0, 1) := by decide +kernel
theorem dX5_cheapest_88 : decode cX5_cheapest 88 = .ok (.getfield 41, 3) := by decide +kernel
theorem dX5_cheapest_91 : decode cX5_cheapest 91 = .ok (.iload 7, 2) := by decide +kernel
theorem dX5_cheapest_93 : decode cX5_cheapest 93 = .ok (.iaload, 1) := by decide +kernel
theorem dX5_cheapest_94 : decode cX5_cheapest 94 = .ok (.aload_n 0, 1) := by decide +kernel
theorem dX5_cheapest_95 : decode cX5_cheapest 95 = .ok (.getfield 41, 3) := by decide +kernel
theorem dX5_cheapest_98 : decode cX5_cheapest 98 = .ok (.iload 5, 2) := by decide +kernel
theorem dX5_cheapest_100 : decode cX5_cheapest 100 = .ok (.iaload, 1) := by decide +kernel
theorem dX5_cheapest_101 : decode cX5_cheapest 101 = .ok (.if_icmp .ge 8, 3) := by decide +kernel
theorem dX5_cheapest_104 : decode cX5_cheapest 104 = .ok (.iload 7, 2) := by decide +kernel
theorem dX5_cheapest_106 : decode cX5_cheapest 106 = .ok (.goto 5, 3) := by decide +kernel
theorem dX5_cheapest_109 : decode cX5_cheapest 109 = .ok (.iload 5, 2) := by decide +kernel
theorem dX5_cheapest_111 : decode cX5_cheapest 111 = .ok (.istore 5, 2) := by decide +kernel
theorem dX5_cheapest_113 : decode cX5_cheapest 113 = .ok (.iinc 7 1, 3) := by decide +kernel
theorem dX5_cheapest_116 : decode cX5_cheapest 116 = .ok (.goto (-88), 3) := by decide +kernel
theorem dX5_cheapest_119 : decode cX5_cheapest 119 = .ok (.iload 6, 2) := by decide +kernel
theorem dX5_cheapest_121 : decode cX5_cheapest 121 = .ok (.ifCond .eq 12, 3) := by decide +kernel
theorem dX5_cheapest_124 : decode cX5_cheapest 124 = .ok (.iload 5, 2) := by decide +kernel
theorem dX5_cheapest_126 : decode cX5_cheapest 126 = .ok (.iconst (-1), 1) := by decide +kernel
theorem dX5_cheapest_127 : decode cX5_cheapest 127 = .ok (.if_icmp .ne 6, 3) := by decide +kernel
theorem dX5_cheapest_130 : decode cX5_cheapest 130 = .ok (.ldc 91, 2) := by decide +kernel
theorem dX5_cheapest_132 : decode cX5_cheapest 132 = .ok (.ireturn, 1) := by decide +kernel
theorem dX5_cheapest_133 : decode cX5_cheapest 133 = .ok (.iload 5, 2) := by decide +kernel
theorem dX5_cheapest_135 : decode cX5_cheapest 135 = .ok (.iconst (-1), 1) := by decide +kernel
theorem dX5_cheapest_136 : decode cX5_cheapest 136 = .ok (.if_icmp .eq 7, 3) := by decide +kernel
theorem dX5_cheapest_139 : decode cX5_cheapest 139 = .ok (.iconst 1, 1) := by decide +kernel
theorem dX5_cheapest_140 : decode cX5_cheapest 140 = .ok (.goto 4, 3) := by decide +kernel
theorem dX5_cheapest_143 : decode cX5_cheapest 143 = .ok (.iconst 0, 1) := by decide +kernel
theorem dX5_cheapest_144 : decode cX5_cheapest 144 = .ok (.istore 4, 2) := by decide +kernel
theorem dX5_cheapest_146 : decode cX5_cheapest 146 = .ok (.iload 4, 2) := by decide +kernel
theorem dX5_cheapest_148 : decode cX5_cheapest 148 = .ok (.ifCond .eq 19, 3) := by decide +kernel
theorem dX5_cheapest_151 : decode cX5_cheapest 151 = .ok (.iload_n 3, 1) := by decide +kernel
theorem dX5_cheapest_152 : decode cX5_cheapest 152 = .ok (.aload_n 0, 1) := by decide +kernel
theorem dX5_cheapest_153 : decode cX5_cheapest 153 = .ok (.getfield 41, 3) := by decide +kernel
theorem dX5_cheapest_156 : decode cX5_cheapest 156 = .ok (.iload 5, 2) := by decide +kernel
theorem dX5_cheapest_158 : decode cX5_cheapest 158 = .ok (.iaload, 1) := by decide +kernel
theorem dX5_cheapest_159 : decode cX5_cheapest 159 = .ok (.iadd, 1) := by decide +kernel
theorem dX5_cheapest_160 : decode cX5_cheapest 160 = .ok (.istore_n 3, 1) := by decide +kernel
theorem dX5_cheapest_161 : decode cX5_cheapest 161 = .ok (.aload_n 0, 1) := by decide +kernel
theorem dX5_cheapest_162 : decode cX5_cheapest 162 = .ok (.iload 5, 2) := by decide +kernel
theorem dX5_cheapest_164 : decode cX5_cheapest 164 = .ok (.invokevirtual 102, 3) := by decide +kernel
theorem dX5_cheapest_167 : decode cX5_cheapest 167 = .ok (.goto (-157), 3) := by decide +kernel
theorem dX5_cheapest_170 : decode cX5_cheapest 170 = .ok (.iload_n 3, 1) := by decide +kernel
theorem dX5_cheapest_171 : decode cX5_cheapest 171 = .ok (.ireturn, 1) := by decide +kernel
set_option maxRecDepth 20000 in
theorem ggX5_most_X5_open : GoodIn wsX5_most wsX5_open := goodIn_r _ [7, 8, 9, 10, 11, 12, 13, 6, 14, 15, 16, 51, 52, 53, 54, 55, 56, 57, 58, 59, 60, 61, 62, 63, 64, 65, 66, 67, 68, 69, 70, 71] (by decide +kernel) (by decide +kernel)
set_option maxRecDepth 20000 in
theorem gX5_most_X5_open : GoodIn wsX5_most (wsV RX5 106 RX5 yX5_open wsX5_open) := goodIn_app (goodIn_of _ (by decide +kernel)) ggX5_most_X5_open
set_option maxRecDepth 20000 in
theorem ggX5_most_X5_cheapest : GoodIn wsX5_most wsX5_cheapest := goodIn_r _ [20, 21, 22, 23, 2, 24, 25, 26, 6, 27, 28, 29, 8, 30, 9, 31, 32, 33, 34, 35, 36, 16, 37, 38, 39, 40, 41, 42, 10, 43, 44, 45, 46, 47, 48, 49, 50, 51, 52, 53, 54, 55, 56, 57, 58, 59, 60, 61, 62, 63, 64, 65, 66, 67, 68, 69, 70, 71] (by decide +kernel) (by decide +kernel)
set_option maxRecDepth 20000 in
theorem gX5_most_X5_cheapest : GoodIn wsX5_most (wsV RX5 109 RX5 yX5_cheapest wsX5_cheapest) := goodIn_app (goodIn_of _ (by decide +kernel)) ggX5_most_X5_cheapest
theorem dX5_most_0 : decode cX5_most 0 = .ok (.aload_n 0, 1) := by decide +kernel
theorem dX5_most_1 : decode cX5_most 1 = .ok (.iconst 0, 1) := by decide +kernel
theorem dX5_most_2 : decode cX5_most 2 = .ok (.putfield 53, 3) := by decide +kernel
theorem dX5_most_5 : decode cX5_most 5 = .ok (.aload_n 0, 1) := by decide +kernel
theorem dX5_most_6 : decode cX5_most 6 = .ok (.invokevirtual 106, 3) := by decide +kernel
theorem dX5_most_9 : decode cX5_most 9 = .ok (.iconst 0, 1) := by decide +kernel
theorem dX5_most_10 : decode cX5_most 10 = .ok (.istore_n 1, 1) := by decide +kernel
theorem dX5_most_11 : decode cX5_most 11 = .ok (.aload_n 0, 1) := by decide +kernel
theorem dX5_most_12 : decode cX5_most 12 = .ok (.iload_n 1, 1) := by decide +kernel
theorem dX5_most_13 : decode cX5_most 13 = .ok (.iconst 1, 1) := by decide +kernel
theorem dX5_most_14 : decode cX5_most 14 = .ok (.iadd, 1) := by decide +kernel
theorem dX5_most_15 : decode cX5_most 15 = .ok (.iconst (-1), 1) := by decide +kernel
theorem dX5_most_16 : decode cX5_most 16 = .ok (.invokevirtual 109, 3) := by decide +kernel
theorem dX5_most_19 : decode cX5_most 19 = .ok (.ldc 91, 2) := by decide +kernel
theorem dX5_most_21 : decode cX5_most 21 = .ok (.if_icmp .ge 9, 3) := by decide +kernel
theorem dX5_most_24 : decode cX5_most 24 = .ok (.iinc 1 1, 3) := by decide +kernel
theorem dX5_most_27 : decode cX5_most 27 = .ok (.goto (-16), 3) := by decide +kernel
theorem dX5_most_30 : decode cX5_most 30 = .ok (.iload_n 1, 1) := by decide +kernel
theorem dX5_most_31 : decode cX5_most 31 = .ok (.ireturn, 1) := by decide +kernel
set_option maxRecDepth 20000 in
theorem ggX5_costOpen_X5_open : GoodIn wsX5_costOpen wsX5_open := goodIn_r _ [7, 8, 9, 10, 11, 12, 13, 6, 14, 15, 16, 51, 52, 53, 54, 55, 56, 57, 58, 59, 60, 61, 62, 63, 64, 65, 66, 67, 68, 69, 70, 71] (by decide +kernel) (by decide +kernel)
set_option maxRecDepth 20000 in
theorem gX5_costOpen_X5_open : GoodIn wsX5_costOpen (wsV RX5 106 RX5 yX5_open wsX5_open) := goodIn_app (goodIn_of _ (by decide +kernel)) ggX5_costOpen_X5_open
set_option maxRecDepth 20000 in
theorem ggX5_costOpen_X5_cheapest : GoodIn wsX5_costOpen wsX5_cheapest := goodIn_r _ [20, 21, 22, 23, 2, 24, 25, 26, 6, 27, 28, 29, 8, 30, 9, 31, 32, 33, 34, 35, 36, 16, 37, 38, 39, 40, 41, 42, 10, 43, 44, 45, 46, 47, 48, 49, 50, 51, 52, 53, 54, 55, 56, 57, 58, 59, 60, 61, 62, 63, 64, 65, 66, 67, 68, 69, 70, 71] (by decide +kernel) (by decide +kernel)
set_option maxRecDepth 20000 in
theorem gX5_costOpen_X5_cheapest : GoodIn wsX5_costOpen (wsV RX5 109 RX5 yX5_cheapest wsX5_cheapest) := goodIn_app (goodIn_of _ (by decide +kernel)) ggX5_costOpen_X5_cheapest
theorem dX5_costOpen_0 : decode cX5_costOpen 0 = .ok (.aload_n 0, 1) := by decide +kernel
theorem dX5_costOpen_1 : decode cX5_costOpen 1 = .ok (.invokevirtual 106, 3) := by decide +kernel
theorem dX5_costOpen_4 : decode cX5_costOpen 4 = .ok (.aload_n 0, 1) := by decide +kernel
theorem dX5_costOpen_5 : decode cX5_costOpen 5 = .ok (.aload_n 0, 1) := by decide +kernel
theorem dX5_costOpen_6 : decode cX5_costOpen 6 = .ok (.getfield 84, 3) := by decide +kernel
theorem dX5_costOpen_9 : decode cX5_costOpen 9 = .ok (.iconst (-1), 1) := by decide +kernel
theorem dX5_costOpen_10 : decode cX5_costOpen 10 = .ok (.invokevirtual 109, 3) := by decide +kernel
theorem dX5_costOpen_13 : decode cX5_costOpen 13 = .ok (.istore_n 1, 1) := by decide +kernel
theorem dX5_costOpen_14 : decode cX5_costOpen 14 = .ok (.iload_n 1, 1) := by decide +kernel
theorem dX5_costOpen_15 : decode cX5_costOpen 15 = .ok (.ldc 91, 2) := by decide +kernel
theorem dX5_costOpen_17 : decode cX5_costOpen 17 = .ok (.if_icmp .ge 7, 3) := by decide +kernel
theorem dX5_costOpen_20 : decode cX5_costOpen 20 = .ok (.iload_n 1, 1) := by decide +kernel
theorem dX5_costOpen_21 : decode cX5_costOpen 21 = .ok (.goto 4, 3) := by decide +kernel
theorem dX5_costOpen_24 : decode cX5_costOpen 24 = .ok (.iconst (-1), 1) := by decide +kernel
theorem dX5_costOpen_25 : decode cX5_costOpen 25 = .ok (.ireturn, 1) := by decide +kernel
set_option maxRecDepth 20000 in
theorem ggX5_cost_X5_costOpen : GoodIn wsX5_cost wsX5_costOpen := goodIn_r _ [6, 7, 8, 9, 10, 11, 5, 12, 13, 14, 15, 16, 17, 18, 19, 20, 21, 22, 23, 24, 25, 26, 27, 28, 29, 30, 31, 32, 33, 34, 35, 36, 37, 38, 39, 40, 41, 42, 43, 44, 45, 46, 47, 48, 49, 50, 51, 52, 53, 54, 55, 56, 57, 58, 59, 60, 61, 62, 63, 64, 65, 66, 67, 68, 69, 70, 71, 72, 73, 74, 75, 76] (by decide +kernel) (by decide +kernel)
set_option maxRecDepth 20000 in
theorem gX5_cost_X5_costOpen : GoodIn wsX5_cost (wsV RX5 112 RX5 yX5_costOpen wsX5_costOpen) := goodIn_app (goodIn_of _ (by decide +kernel)) ggX5_cost_X5_costOpen
theorem dX5_cost_0 : decode cX5_cost 0 = .ok (.aload_n 0, 1) := by decide +kernel
theorem dX5_cost_1 : decode cX5_cost 1 = .ok (.iconst 0, 1) := by decide +kernel
theorem dX5_cost_2 : decode cX5_cost 2 = .ok (.putfield 53, 3) := by decide +kernel
theorem dX5_cost_5 : decode cX5_cost 5 = .ok (.aload_n 0, 1) := by decide +kernel
theorem dX5_cost_6 : decode cX5_cost 6 = .ok (.invokevirtual 112, 3) := by decide +kernel
theorem dX5_cost_9 : decode cX5_cost 9 = .ok (.ireturn, 1) := by decide +kernel
set_option maxRecDepth 20000 in
theorem ggX5_costByCircles_X5_costOpen : GoodIn wsX5_costByCircles wsX5_costOpen := goodIn_r _ [6, 7, 8, 9, 10, 11, 5, 12, 13, 14, 15, 16, 17, 18, 19, 20, 21, 22, 23, 24, 25, 26, 27, 28, 29, 30, 31, 32, 33, 34, 35, 36, 37, 38, 39, 40, 41, 42, 43, 44, 45, 46, 47, 48, 49, 50, 51, 52, 53, 54, 55, 56, 57, 58, 59, 60, 61, 62, 63, 64, 65, 66, 67, 68, 69, 70, 71, 72, 73, 74, 75, 76] (by decide +kernel) (by decide +kernel)
set_option maxRecDepth 20000 in
theorem gX5_costByCircles_X5_costOpen : GoodIn wsX5_costByCircles (wsV RX5 112 RX5 yX5_costOpen wsX5_costOpen) := goodIn_app (goodIn_of _ (by decide +kernel)) ggX5_costByCircles_X5_costOpen
theorem dX5_costByCircles_0 : decode cX5_costByCircles 0 = .ok (.aload_n 0, 1) := by decide +kernel
theorem dX5_costByCircles_1 : decode cX5_costByCircles 1 = .ok (.iconst 0, 1) := by decide +kernel
theorem dX5_costByCircles_2 : decode cX5_costByCircles 2 = .ok (.putfield 53, 3) := by decide +kernel
theorem dX5_costByCircles_5 : decode cX5_costByCircles 5 = .ok (.aload_n 0, 1) := by decide +kernel
theorem dX5_costByCircles_6 : decode cX5_costByCircles 6 = .ok (.invokevirtual 112, 3) := by decide +kernel
theorem dX5_costByCircles_9 : decode cX5_costByCircles 9 = .ok (.ireturn, 1) := by decide +kernel
set_option maxRecDepth 20000 in
theorem ggX5_more_X5_isNode : GoodIn wsX5_more wsX5_isNode := goodIn_r _ [8, 9, 10, 11, 7, 12, 67, 68, 69, 70, 71, 72, 73, 74, 75, 76, 77, 78, 79, 80, 81, 82, 83, 84, 85, 86, 87] (by decide +kernel) (by decide +kernel)
set_option maxRecDepth 20000 in
theorem gX5_more_X5_isNode : GoodIn wsX5_more (wsV RX5 63 RX5 yX5_isNode wsX5_isNode) := goodIn_app (goodIn_of _ (by decide +kernel)) ggX5_more_X5_isNode
set_option maxRecDepth 20000 in
theorem ggX5_more_X5_goesWell : GoodIn wsX5_more wsX5_goesWell := goodIn_r _ [16, 17, 67, 68, 69, 70, 71, 72, 73, 74, 75, 76, 77, 78, 79, 80, 81, 82, 83, 84, 85, 86, 87] (by decide +kernel) (by decide +kernel)
set_option maxRecDepth 20000 in
theorem gX5_more_X5_goesWell : GoodIn wsX5_more (wsV RX5 67 RX5 yX5_goesWell wsX5_goesWell) := goodIn_app (goodIn_of _ (by decide +kernel)) ggX5_more_X5_goesWell
set_option maxRecDepth 20000 in
theorem ggX5_more_X5_costOpen : GoodIn wsX5_more wsX5_costOpen := goodIn_r _ [21, 2, 3, 22, 23, 24, 7, 25, 26, 27, 28, 29, 30, 31, 32, 33, 34, 35, 36, 37, 38, 9, 39, 40, 41, 42, 43, 44, 1, 45, 46, 47, 48, 49, 50, 51, 52, 53, 54, 55, 56, 57, 58, 59, 60, 61, 62, 63, 64, 65, 66, 67, 68, 69, 70, 71, 72, 73, 74, 75, 76, 77, 78, 79, 80, 81, 82, 83, 84, 85, 86, 87] (by decide +kernel) (by decide +kernel)
set_option maxRecDepth 20000 in
theorem gX5_more_X5_costOpen : GoodIn wsX5_more (wsV RX5 112 RX5 yX5_costOpen wsX5_costOpen) := goodIn_app (goodIn_of _ (by decide +kernel)) ggX5_more_X5_costOpen
set_option maxRecDepth 20000 in
theorem ggX5_more_X5_cheapest : GoodIn wsX5_more wsX5_cheapest := goodIn_r _ [38, 9, 39, 40, 3, 41, 42, 43, 7, 44, 1, 45, 26, 46, 27, 47, 48, 49, 50, 51, 52, 34, 53, 54, 55, 56, 57, 58, 28, 59, 60, 61, 62, 63, 64, 65, 66, 67, 68, 69, 70, 71, 72, 73, 74, 75, 76, 77, 78, 79, 80, 81, 82, 83, 84, 85, 86, 87] (by decide +kernel) (by decide +kernel)
set_option maxRecDepth 20000 in
theorem gX5_more_X5_cheapest : GoodIn wsX5_more (wsV RX5 109 RX5 yX5_cheapest wsX5_cheapest) := goodIn_app (goodIn_of _ (by decide +kernel)) ggX5_more_X5_cheapest
theorem dX5_more_0 : decode cX5_more 0 = .ok (.aload_n 0, 1) := by decide +kernel
theorem dX5_more_1 : decode cX5_more 1 = .ok (.aload_n 0, 1) := by decide +kernel
theorem dX5_more_2 : decode cX5_more 2 = .ok (.iload_n 1, 1) := by decide +kernel
theorem dX5_more_3 : decode cX5_more 3 = .ok (.invokevirtual 63, 3) := by decide +kernel
theorem dX5_more_6 : decode cX5_more 6 = .ok (.ifCond .eq 7, 3) := by decide +kernel
theorem dX5_more_9 : decode cX5_more 9 = .ok (.iconst 0, 1) := by decide +kernel
theorem dX5_more_10 : decode cX5_more 10 = .ok (.goto 4, 3) := by decide +kernel
theorem dX5_more_13 : decode cX5_more 13 = .ok (.iconst 1, 1) := by decide +kernel
theorem dX5_more_14 : decode cX5_more 14 = .ok (.invokevirtual 67, 3) := by decide +kernel
theorem dX5_more_17 : decode cX5_more 17 = .ok (.ifCond .ne 5, 3) := by decide +kernel
theorem dX5_more_20 : decode cX5_more 20 = .ok (.iconst 0, 1) := by decide +kernel
theorem dX5_more_21 : decode cX5_more 21 = .ok (.ireturn, 1) := by decide +kernel
theorem dX5_more_22 : decode cX5_more 22 = .ok (.aload_n 0, 1) := by decide +kernel
theorem dX5_more_23 : decode cX5_more 23 = .ok (.invokevirtual 112, 3) := by decide +kernel
theorem dX5_more_26 : decode cX5_more 26 = .ok (.istore_n 2, 1) := by decide +kernel
theorem dX5_more_27 : decode cX5_more 27 = .ok (.iload_n 1, 1) := by decide +kernel
theorem dX5_more_28 : decode cX5_more 28 = .ok (.aload_n 0, 1) := by decide +kernel
theorem dX5_more_29 : decode cX5_more 29 = .ok (.getfield 81, 3) := by decide +kernel
theorem dX5_more_32 : decode cX5_more 32 = .ok (.if_icmp .ne 7, 3) := by decide +kernel
theorem dX5_more_35 : decode cX5_more 35 = .ok (.iload_n 2, 1) := by decide +kernel
theorem dX5_more_36 : decode cX5_more 36 = .ok (.goto 12, 3) := by decide +kernel
theorem dX5_more_39 : decode cX5_more 39 = .ok (.aload_n 0, 1) := by decide +kernel
theorem dX5_more_40 : decode cX5_more 40 = .ok (.aload_n 0, 1) := by decide +kernel
theorem dX5_more_41 : decode cX5_more 41 = .ok (.getfield 84, 3) := by decide +kernel
theorem dX5_more_44 : decode cX5_more 44 = .ok (.iload_n 1, 1) := by decide +kernel
theorem dX5_more_45 : decode cX5_more 45 = .ok (.invokevirtual 109, 3) := by decide +kernel
theorem dX5_more_48 : decode cX5_more 48 = .ok (.istore_n 3, 1) := by decide +kernel
theorem dX5_more_49 : decode cX5_more 49 = .ok (.iload_n 2, 1) := by decide +kernel
theorem dX5_more_50 : decode cX5_more 50 = .ok (.iconst (-1), 1) := by decide +kernel
theorem dX5_more_51 : decode cX5_more 51 = .ok (.if_icmp .eq 9, 3) := by decide +kernel
theorem dX5_more_54 : decode cX5_more 54 = .ok (.iload_n 3, 1) := by decide +kernel
theorem dX5_more_55 : decode cX5_more 55 = .ok (.ldc 91, 2) := by decide +kernel
theorem dX5_more_57 : decode cX5_more 57 = .ok (.if_icmp .lt 7, 3) := by decide +kernel
theorem dX5_more_60 : decode cX5_more 60 = .ok (.iconst (-1), 1) := by decide +kernel
theorem dX5_more_61 : decode cX5_more 61 = .ok (.goto 6, 3) := by decide +kernel
theorem dX5_more_64 : decode cX5_more 64 = .ok (.iload_n 3, 1) := by decide +kernel
theorem dX5_more_65 : decode cX5_more 65 = .ok (.iload_n 2, 1) := by decide +kernel
theorem dX5_more_66 : decode cX5_more 66 = .ok (.isub, 1) := by decide +kernel
theorem dX5_more_67 : decode cX5_more 67 = .ok (.ireturn, 1) := by decide +kernel
set_option maxRecDepth 20000 in
theorem ggX5_fit_X5_cheapest : GoodIn wsX5_fit wsX5_cheapest := goodIn_r _ [8, 9, 10, 11, 12, 13, 14, 15, 7, 16, 17, 18, 19, 20, 1, 21, 22, 23, 24, 25, 26, 27, 28, 29, 30, 31, 32, 33, 2, 34, 35, 36, 37, 38, 39, 40, 41, 42, 43, 44, 45, 46, 47, 48, 49, 50, 51, 52, 53, 54, 55, 56, 57, 58, 59, 60, 61, 62] (by decide +kernel) (by decide +kernel)
set_option maxRecDepth 20000 in
theorem gX5_fit_X5_cheapest : GoodIn wsX5_fit (wsV RX5 109 RX5 yX5_cheapest wsX5_cheapest) := goodIn_app (goodIn_of _ (by decide +kernel)) ggX5_fit_X5_cheapest
theorem dX5_fit_0 : decode cX5_fit 0 = .ok (.iload_n 3, 1) := by decide +kernel
theorem dX5_fit_1 : decode cX5_fit 1 = .ok (.istore 5, 2) := by decide +kernel
theorem dX5_fit_3 : decode cX5_fit 3 = .ok (.iconst 0, 1) := by decide +kernel
theorem dX5_fit_4 : decode cX5_fit 4 = .ok (.istore 6, 2) := by decide +kernel
theorem dX5_fit_6 : decode cX5_fit 6 = .ok (.iload 6, 2) := by decide +kernel
theorem dX5_fit_8 : decode cX5_fit 8 = .ok (.ifCond .ne 81, 3) := by decide +kernel
theorem dX5_fit_11 : decode cX5_fit 11 = .ok (.aload_n 0, 1) := by decide +kernel
theorem dX5_fit_12 : decode cX5_fit 12 = .ok (.getfield 29, 3) := by decide +kernel
theorem dX5_fit_15 : decode cX5_fit 15 = .ok (.iload_n 1, 1) := by decide +kernel
theorem dX5_fit_16 : decode cX5_fit 16 = .ok (.iaload, 1) := by decide +kernel
theorem dX5_fit_17 : decode cX5_fit 17 = .ok (.istore 7, 2) := by decide +kernel
theorem dX5_fit_19 : decode cX5_fit 19 = .ok (.aload_n 0, 1) := by decide +kernel
theorem dX5_fit_20 : decode cX5_fit 20 = .ok (.getfield 32, 3) := by decide +kernel
theorem dX5_fit_23 : decode cX5_fit 23 = .ok (.iload_n 1, 1) := by decide +kernel
theorem dX5_fit_24 : decode cX5_fit 24 = .ok (.iaload, 1) := by decide +kernel
theorem dX5_fit_25 : decode cX5_fit 25 = .ok (.istore 8, 2) := by decide +kernel
theorem dX5_fit_27 : decode cX5_fit 27 = .ok (.aload_n 0, 1) := by decide +kernel
theorem dX5_fit_28 : decode cX5_fit 28 = .ok (.getfield 29, 3) := by decide +kernel
theorem dX5_fit_31 : decode cX5_fit 31 = .ok (.iload_n 1, 1) := by decide +kernel
theorem dX5_fit_32 : decode cX5_fit 32 = .ok (.iload 5, 2) := by decide +kernel
theorem dX5_fit_34 : decode cX5_fit 34 = .ok (.iastore, 1) := by decide +kernel
theorem dX5_fit_35 : decode cX5_fit 35 = .ok (.aload_n 0, 1) := by decide +kernel
theorem dX5_fit_36 : decode cX5_fit 36 = .ok (.getfield 32, 3) := by decide +kernel
theorem dX5_fit_39 : decode cX5_fit 39 = .ok (.iload_n 1, 1) := by decide +kernel
theorem dX5_fit_40 : decode cX5_fit 40 = .ok (.iload 5, 2) := by decide +kernel
theorem dX5_fit_42 : decode cX5_fit 42 = .ok (.iastore, 1) := by decide +kernel
theorem dX5_fit_43 : decode cX5_fit 43 = .ok (.aload_n 0, 1) := by decide +kernel
theorem dX5_fit_44 : decode cX5_fit 44 = .ok (.aload_n 0, 1) := by decide +kernel
theorem dX5_fit_45 : decode cX5_fit 45 = .ok (.getfield 84, 3) := by decide +kernel
theorem dX5_fit_48 : decode cX5_fit 48 = .ok (.iconst (-1), 1) := by decide +kernel
theorem dX5_fit_49 : decode cX5_fit 49 = .ok (.invokevirtual 109, 3) := by decide +kernel
theorem dX5_fit_52 : decode cX5_fit 52 = .ok (.iload_n 2, 1) := by decide +kernel
theorem dX5_fit_53 : decode cX5_fit 53 = .ok (.if_icmp .ne 7, 3) := by decide +kernel
theorem dX5_fit_56 : decode cX5_fit 56 = .ok (.iconst 1, 1) := by decide +kernel
theorem dX5_fit_57 : decode cX5_fit 57 = .ok (.goto 4, 3) := by decide +kernel
theorem dX5_fit_60 : decode cX5_fit 60 = .ok (.iconst 0, 1) := by decide +kernel
theorem dX5_fit_61 : decode cX5_fit 61 = .ok (.istore 6, 2) := by decide +kernel
theorem dX5_fit_63 : decode cX5_fit 63 = .ok (.aload_n 0, 1) := by decide +kernel
theorem dX5_fit_64 : decode cX5_fit 64 = .ok (.getfield 29, 3) := by decide +kernel
theorem dX5_fit_67 : decode cX5_fit 67 = .ok (.iload_n 1, 1) := by decide +kernel
theorem dX5_fit_68 : decode cX5_fit 68 = .ok (.iload 7, 2) := by decide +kernel
theorem dX5_fit_70 : decode cX5_fit 70 = .ok (.iastore, 1) := by decide +kernel
theorem dX5_fit_71 : decode cX5_fit 71 = .ok (.aload_n 0, 1) := by decide +kernel
theorem dX5_fit_72 : decode cX5_fit 72 = .ok (.getfield 32, 3) := by decide +kernel
theorem dX5_fit_75 : decode cX5_fit 75 = .ok (.iload_n 1, 1) := by decide +kernel
theorem dX5_fit_76 : decode cX5_fit 76 = .ok (.iload 8, 2) := by decide +kernel
theorem dX5_fit_78 : decode cX5_fit 78 = .ok (.iastore, 1) := by decide +kernel
theorem dX5_fit_79 : decode cX5_fit 79 = .ok (.iload 5, 2) := by decide +kernel
theorem dX5_fit_81 : decode cX5_fit 81 = .ok (.iload 4, 2) := by decide +kernel
theorem dX5_fit_83 : decode cX5_fit 83 = .ok (.iadd, 1) := by decide +kernel
theorem dX5_fit_84 : decode cX5_fit 84 = .ok (.istore 5, 2) := by decide +kernel
theorem dX5_fit_86 : decode cX5_fit 86 = .ok (.goto (-80), 3) := by decide +kernel
theorem dX5_fit_89 : decode cX5_fit 89 = .ok (.iload 5, 2) := by decide +kernel
theorem dX5_fit_91 : decode cX5_fit 91 = .ok (.iload 4, 2) := by decide +kernel
theorem dX5_fit_93 : decode cX5_fit 93 = .ok (.isub, 1) := by decide +kernel
theorem dX5_fit_94 : decode cX5_fit 94 = .ok (.ireturn, 1) := by decide +kernel
set_option maxRecDepth 20000 in
theorem ggX5_flow_X5_isArc : GoodIn wsX5_flow wsX5_isArc := goodIn_r _ [7, 8, 9, 10, 6, 11, 71, 72, 73, 74, 75, 76, 77, 78, 79, 80, 81, 82, 83, 84, 85, 86, 87, 88, 89, 90, 91] (by decide +kernel) (by decide +kernel)
set_option maxRecDepth 20000 in
theorem gX5_flow_X5_isArc : GoodIn wsX5_flow (wsV RX5 74 RX5 yX5_isArc wsX5_isArc) := goodIn_app (goodIn_of _ (by decide +kernel)) ggX5_flow_X5_isArc
set_option maxRecDepth 20000 in
theorem ggX5_flow_X5_goesWell : GoodIn wsX5_flow wsX5_goesWell := goodIn_r _ [15, 16, 71, 72, 73, 74, 75, 76, 77, 78, 79, 80, 81, 82, 83, 84, 85, 86, 87, 88, 89, 90, 91] (by decide +kernel) (by decide +kernel)
set_option maxRecDepth 20000 in
theorem gX5_flow_X5_goesWell : GoodIn wsX5_flow (wsV RX5 67 RX5 yX5_goesWell wsX5_goesWell) := goodIn_app (goodIn_of _ (by decide +kernel)) ggX5_flow_X5_goesWell
set_option maxRecDepth 20000 in
theorem ggX5_flow_X5_costOpen : GoodIn wsX5_flow wsX5_costOpen := goodIn_r _ [20, 21, 22, 23, 24, 25, 6, 26, 8, 1, 2, 27, 28, 29, 30, 31, 32, 33, 34, 35, 36, 37, 38, 39, 40, 41, 42, 43, 44, 45, 46, 47, 48, 49, 50, 51, 52, 53, 54, 55, 56, 57, 58, 59, 60, 61, 62, 63, 64, 65, 66, 71, 72, 73, 74, 75, 76, 77, 78, 79, 80, 81, 82, 83, 84, 85, 86, 87, 88, 89, 90, 91] (by decide +kernel) (by decide +kernel)
set_option maxRecDepth 20000 in
theorem gX5_flow_X5_costOpen : GoodIn wsX5_flow (wsV RX5 112 RX5 yX5_costOpen wsX5_costOpen) := goodIn_app (goodIn_of _ (by decide +kernel)) ggX5_flow_X5_costOpen
set_option maxRecDepth 20000 in
theorem ggX5_flow_X5_fit : GoodIn wsX5_flow wsX5_fit := goodIn_r _ [70, 1, 2, 21, 33, 34, 35, 6, 36, 37, 38, 39, 22, 40, 41, 42, 43, 44, 45, 8, 46, 47, 48, 49, 50, 51, 52, 32, 53, 54, 55, 56, 57, 58, 59, 60, 61, 62, 63, 64, 65, 66, 71, 72, 73, 74, 75, 76, 77, 78, 79, 80, 81, 82, 83, 84, 85, 86, 87, 88, 89, 90, 91] (by decide +kernel) (by decide +kernel)
set_option maxRecDepth 20000 in
theorem gX5_flow_X5_fit : GoodIn wsX5_flow (wsV RX5 116 RX5 yX5_fit wsX5_fit) := goodIn_app (goodIn_of _ (by decide +kernel)) ggX5_flow_X5_fit
theorem dX5_flow_0 : decode cX5_flow 0 = .ok (.aload_n 0, 1) := by decide +kernel
theorem dX5_flow_1 : decode cX5_flow 1 = .ok (.aload_n 0, 1) := by decide +kernel
theorem dX5_flow_2 : decode cX5_flow 2 = .ok (.iload_n 1, 1) := by decide +kernel
theorem dX5_flow_3 : decode cX5_flow 3 = .ok (.invokevirtual 74, 3) := by decide +kernel
theorem dX5_flow_6 : decode cX5_flow 6 = .ok (.ifCond .eq 7, 3) := by decide +kernel
theorem dX5_flow_9 : decode cX5_flow 9 = .ok (.iconst 0, 1) := by decide +kernel
theorem dX5_flow_10 : decode cX5_flow 10 = .ok (.goto 4, 3) := by decide +kernel
theorem dX5_flow_13 : decode cX5_flow 13 = .ok (.iconst 1, 1) := by decide +kernel
theorem dX5_flow_14 : decode cX5_flow 14 = .ok (.invokevirtual 67, 3) := by decide +kernel
theorem dX5_flow_17 : decode cX5_flow 17 = .ok (.ifCond .ne 5, 3) := by decide +kernel
theorem dX5_flow_20 : decode cX5_flow 20 = .ok (.iconst 0, 1) := by decide +kernel
theorem dX5_flow_21 : decode cX5_flow 21 = .ok (.ireturn, 1) := by decide +kernel
theorem dX5_flow_22 : decode cX5_flow 22 = .ok (.aload_n 0, 1) := by decide +kernel
theorem dX5_flow_23 : decode cX5_flow 23 = .ok (.invokevirtual 112, 3) := by decide +kernel
theorem dX5_flow_26 : decode cX5_flow 26 = .ok (.istore_n 2, 1) := by decide +kernel
theorem dX5_flow_27 : decode cX5_flow 27 = .ok (.iload_n 2, 1) := by decide +kernel
theorem dX5_flow_28 : decode cX5_flow 28 = .ok (.iconst (-1), 1) := by decide +kernel
theorem dX5_flow_29 : decode cX5_flow 29 = .ok (.if_icmp .ne 5, 3) := by decide +kernel
theorem dX5_flow_32 : decode cX5_flow 32 = .ok (.iconst (-1), 1) := by decide +kernel
theorem dX5_flow_33 : decode cX5_flow 33 = .ok (.ireturn, 1) := by decide +kernel
theorem dX5_flow_34 : decode cX5_flow 34 = .ok (.iconst 0, 1) := by decide +kernel
theorem dX5_flow_35 : decode cX5_flow 35 = .ok (.istore_n 3, 1) := by decide +kernel
theorem dX5_flow_36 : decode cX5_flow 36 = .ok (.iload_n 3, 1) := by decide +kernel
theorem dX5_flow_37 : decode cX5_flow 37 = .ok (.iload_n 1, 1) := by decide +kernel
theorem dX5_flow_38 : decode cX5_flow 38 = .ok (.if_icmp .ge 35, 3) := by decide +kernel
theorem dX5_flow_41 : decode cX5_flow 41 = .ok (.aload_n 0, 1) := by decide +kernel
theorem dX5_flow_42 : decode cX5_flow 42 = .ok (.iload_n 3, 1) := by decide +kernel
theorem dX5_flow_43 : decode cX5_flow 43 = .ok (.iload_n 2, 1) := by decide +kernel
theorem dX5_flow_44 : decode cX5_flow 44 = .ok (.iconst 0, 1) := by decide +kernel
theorem dX5_flow_45 : decode cX5_flow 45 = .ok (.iconst 1, 1) := by decide +kernel
theorem dX5_flow_46 : decode cX5_flow 46 = .ok (.invokevirtual 116, 3) := by decide +kernel
theorem dX5_flow_49 : decode cX5_flow 49 = .ok (.istore 4, 2) := by decide +kernel
theorem dX5_flow_51 : decode cX5_flow 51 = .ok (.aload_n 0, 1) := by decide +kernel
theorem dX5_flow_52 : decode cX5_flow 52 = .ok (.getfield 29, 3) := by decide +kernel
theorem dX5_flow_55 : decode cX5_flow 55 = .ok (.iload_n 3, 1) := by decide +kernel
theorem dX5_flow_56 : decode cX5_flow 56 = .ok (.iload 4, 2) := by decide +kernel
theorem dX5_flow_58 : decode cX5_flow 58 = .ok (.iastore, 1) := by decide +kernel
theorem dX5_flow_59 : decode cX5_flow 59 = .ok (.aload_n 0, 1) := by decide +kernel
theorem dX5_flow_60 : decode cX5_flow 60 = .ok (.getfield 32, 3) := by decide +kernel
theorem dX5_flow_63 : decode cX5_flow 63 = .ok (.iload_n 3, 1) := by decide +kernel
theorem dX5_flow_64 : decode cX5_flow 64 = .ok (.iload 4, 2) := by decide +kernel
theorem dX5_flow_66 : decode cX5_flow 66 = .ok (.iastore, 1) := by decide +kernel
theorem dX5_flow_67 : decode cX5_flow 67 = .ok (.iinc 3 1, 3) := by decide +kernel
theorem dX5_flow_70 : decode cX5_flow 70 = .ok (.goto (-34), 3) := by decide +kernel
theorem dX5_flow_73 : decode cX5_flow 73 = .ok (.aload_n 0, 1) := by decide +kernel
theorem dX5_flow_74 : decode cX5_flow 74 = .ok (.iload_n 1, 1) := by decide +kernel
theorem dX5_flow_75 : decode cX5_flow 75 = .ok (.iload_n 2, 1) := by decide +kernel
theorem dX5_flow_76 : decode cX5_flow 76 = .ok (.iconst 0, 1) := by decide +kernel
theorem dX5_flow_77 : decode cX5_flow 77 = .ok (.iconst 1, 1) := by decide +kernel
theorem dX5_flow_78 : decode cX5_flow 78 = .ok (.invokevirtual 116, 3) := by decide +kernel
theorem dX5_flow_81 : decode cX5_flow 81 = .ok (.ireturn, 1) := by decide +kernel
set_option maxRecDepth 20000 in
theorem ggX5_leastOn_X5_isArc : GoodIn wsX5_leastOn wsX5_isArc := goodIn_r _ [5, 6, 7, 8, 4, 9, 71, 72, 73, 74, 75, 76, 77, 78, 79, 80, 81, 82, 83, 84, 85, 86, 87, 88, 89, 90, 91] (by decide +kernel) (by decide +kernel)
set_option maxRecDepth 20000 in
theorem gX5_leastOn_X5_isArc : GoodIn wsX5_leastOn (wsV RX5 74 RX5 yX5_isArc wsX5_isArc) := goodIn_app (goodIn_of _ (by decide +kernel)) ggX5_leastOn_X5_isArc
set_option maxRecDepth 20000 in
theorem ggX5_leastOn_X5_goesWell : GoodIn wsX5_leastOn wsX5_goesWell := goodIn_r _ [13, 14, 71, 72, 73, 74, 75, 76, 77, 78, 79, 80, 81, 82, 83, 84, 85, 86, 87, 88, 89, 90, 91] (by decide +kernel) (by decide +kernel)
set_option maxRecDepth 20000 in
theorem gX5_leastOn_X5_goesWell : GoodIn wsX5_leastOn (wsV RX5 67 RX5 yX5_goesWell wsX5_goesWell) := goodIn_app (goodIn_of _ (by decide +kernel)) ggX5_leastOn_X5_goesWell
set_option maxRecDepth 20000 in
theorem ggX5_leastOn_X5_costOpen : GoodIn wsX5_leastOn wsX5_costOpen := goodIn_r _ [18, 19, 20, 21, 22, 23, 4, 24, 6, 25, 26, 27, 28, 29, 30, 31, 32, 33, 34, 35, 36, 37, 38, 39, 40, 41, 42, 43, 44, 45, 46, 47, 48, 49, 50, 51, 52, 53, 54, 55, 56, 57, 58, 59, 60, 61, 62, 63, 64, 65, 66, 71, 72, 73, 74, 75, 76, 77, 78, 79, 80, 81, 82, 83, 84, 85, 86, 87, 88, 89, 90, 91] (by decide +kernel) (by decide +kernel)
set_option maxRecDepth 20000 in
theorem gX5_leastOn_X5_costOpen : GoodIn wsX5_leastOn (wsV RX5 112 RX5 yX5_costOpen wsX5_costOpen) := goodIn_app (goodIn_of _ (by decide +kernel)) ggX5_leastOn_X5_costOpen
set_option maxRecDepth 20000 in
theorem ggX5_leastOn_X5_fit : GoodIn wsX5_leastOn wsX5_fit := goodIn_r _ [70, 25, 26, 19, 33, 34, 35, 4, 36, 37, 38, 39, 20, 40, 41, 42, 43, 44, 45, 6, 46, 47, 48, 49, 50, 51, 52, 32, 53, 54, 55, 56, 57, 58, 59, 60, 61, 62, 63, 64, 65, 66, 71, 72, 73, 74, 75, 76, 77, 78, 79, 80, 81, 82, 83, 84, 85, 86, 87, 88, 89, 90, 91] (by decide +kernel) (by decide +kernel)
set_option maxRecDepth 20000 in
theorem gX5_leastOn_X5_fit : GoodIn wsX5_leastOn (wsV RX5 116 RX5 yX5_fit wsX5_fit) := goodIn_app (goodIn_of _ (by decide +kernel)) ggX5_leastOn_X5_fit
theorem dX5_leastOn_0 : decode cX5_leastOn 0 = .ok (.aload_n 0, 1) := by decide +kernel
theorem dX5_leastOn_1 : decode cX5_leastOn 1 = .ok (.aload_n 0, 1) := by decide +kernel
theorem dX5_leastOn_2 : decode cX5_leastOn 2 = .ok (.iload_n 1, 1) := by decide +kernel
theorem dX5_leastOn_3 : decode cX5_leastOn 3 = .ok (.invokevirtual 74, 3) := by decide +kernel
theorem dX5_leastOn_6 : decode cX5_leastOn 6 = .ok (.ifCond .eq 7, 3) := by decide +kernel
theorem dX5_leastOn_9 : decode cX5_leastOn 9 = .ok (.iconst 0, 1) := by decide +kernel
theorem dX5_leastOn_10 : decode cX5_leastOn 10 = .ok (.goto 4, 3) := by decide +kernel
theorem dX5_leastOn_13 : decode cX5_leastOn 13 = .ok (.iconst 1, 1) := by decide +kernel
theorem dX5_leastOn_14 : decode cX5_leastOn 14 = .ok (.invokevirtual 67, 3) := by decide +kernel
theorem dX5_leastOn_17 : decode cX5_leastOn 17 = .ok (.ifCond .ne 5, 3) := by decide +kernel
theorem dX5_leastOn_20 : decode cX5_leastOn 20 = .ok (.iconst 0, 1) := by decide +kernel
theorem dX5_leastOn_21 : decode cX5_leastOn 21 = .ok (.ireturn, 1) := by decide +kernel
theorem dX5_leastOn_22 : decode cX5_leastOn 22 = .ok (.aload_n 0, 1) := by decide +kernel
theorem dX5_leastOn_23 : decode cX5_leastOn 23 = .ok (.invokevirtual 112, 3) := by decide +kernel
theorem dX5_leastOn_26 : decode cX5_leastOn 26 = .ok (.istore_n 2, 1) := by decide +kernel
theorem dX5_leastOn_27 : decode cX5_leastOn 27 = .ok (.iload_n 2, 1) := by decide +kernel
theorem dX5_leastOn_28 : decode cX5_leastOn 28 = .ok (.iconst (-1), 1) := by decide +kernel
theorem dX5_leastOn_29 : decode cX5_leastOn 29 = .ok (.if_icmp .ne 7, 3) := by decide +kernel
theorem dX5_leastOn_32 : decode cX5_leastOn 32 = .ok (.iconst (-1), 1) := by decide +kernel
theorem dX5_leastOn_33 : decode cX5_leastOn 33 = .ok (.goto 11, 3) := by decide +kernel
theorem dX5_leastOn_36 : decode cX5_leastOn 36 = .ok (.aload_n 0, 1) := by decide +kernel
theorem dX5_leastOn_37 : decode cX5_leastOn 37 = .ok (.iload_n 1, 1) := by decide +kernel
theorem dX5_leastOn_38 : decode cX5_leastOn 38 = .ok (.iload_n 2, 1) := by decide +kernel
theorem dX5_leastOn_39 : decode cX5_leastOn 39 = .ok (.iconst 0, 1) := by decide +kernel
theorem dX5_leastOn_40 : decode cX5_leastOn 40 = .ok (.iconst 1, 1) := by decide +kernel
theorem dX5_leastOn_41 : decode cX5_leastOn 41 = .ok (.invokevirtual 116, 3) := by decide +kernel
theorem dX5_leastOn_44 : decode cX5_leastOn 44 = .ok (.ireturn, 1) := by decide +kernel
set_option maxRecDepth 20000 in
theorem ggX5_mostOn_X5_isArc : GoodIn wsX5_mostOn wsX5_isArc := goodIn_r _ [5, 6, 7, 8, 4, 9, 71, 72, 73, 74, 75, 76, 77, 78, 79, 80, 81, 82, 83, 84, 85, 86, 87, 88, 89, 90, 91] (by decide +kernel) (by decide +kernel)
set_option maxRecDepth 20000 in
theorem gX5_mostOn_X5_isArc : GoodIn wsX5_mostOn (wsV RX5 74 RX5 yX5_isArc wsX5_isArc) := goodIn_app (goodIn_of _ (by decide +kernel)) ggX5_mostOn_X5_isArc
set_option maxRecDepth 20000 in
theorem ggX5_mostOn_X5_goesWell : GoodIn wsX5_mostOn wsX5_goesWell := goodIn_r _ [13, 14, 71, 72, 73, 74, 75, 76, 77, 78, 79, 80, 81, 82, 83, 84, 85, 86, 87, 88, 89, 90, 91] (by decide +kernel) (by decide +kernel)
set_option maxRecDepth 20000 in
theorem gX5_mostOn_X5_goesWell : GoodIn wsX5_mostOn (wsV RX5 67 RX5 yX5_goesWell wsX5_goesWell) := goodIn_app (goodIn_of _ (by decide +kernel)) ggX5_mostOn_X5_goesWell
set_option maxRecDepth 20000 in
theorem ggX5_mostOn_X5_costOpen : GoodIn wsX5_mostOn wsX5_costOpen := goodIn_r _ [18, 19, 20, 21, 22, 23, 4, 24, 6, 25, 26, 27, 28, 29, 30, 31, 32, 33, 34, 35, 36, 37, 38, 39, 40, 41, 42, 43, 44, 45, 46, 47, 48, 49, 50, 51, 52, 53, 54, 55, 56, 57, 58, 59, 60, 61, 62, 63, 64, 65, 66, 71, 72, 73, 74, 75, 76, 77, 78, 79, 80, 81, 82, 83, 84, 85, 86, 87, 88, 89, 90, 91] (by decide +kernel) (by decide +kernel)
set_option maxRecDepth 20000 in
theorem gX5_mostOn_X5_costOpen : GoodIn wsX5_mostOn (wsV RX5 112 RX5 yX5_costOpen wsX5_costOpen) := goodIn_app (goodIn_of _ (by decide +kernel)) ggX5_mostOn_X5_costOpen
set_option maxRecDepth 20000 in
theorem ggX5_mostOn_X5_capacityOf : GoodIn wsX5_mostOn wsX5_capacityOf := goodIn_r _ [30, 31, 32, 71, 72, 73, 74, 75, 76, 77, 78, 79, 80, 81, 82, 83, 84, 85, 86, 87, 88, 89, 90, 91] (by decide +kernel) (by decide +kernel)
set_option maxRecDepth 20000 in
theorem gX5_mostOn_X5_capacityOf : GoodIn wsX5_mostOn (wsV RX5 77 RX5 yX5_capacityOf wsX5_capacityOf) := goodIn_app (goodIn_of _ (by decide +kernel)) ggX5_mostOn_X5_capacityOf
set_option maxRecDepth 20000 in
theorem ggX5_mostOn_X5_fit : GoodIn wsX5_mostOn wsX5_fit := goodIn_r _ [70, 25, 26, 19, 33, 34, 35, 4, 36, 37, 38, 39, 20, 40, 41, 42, 43, 44, 45, 6, 46, 47, 48, 49, 50, 51, 52, 32, 53, 54, 55, 56, 57, 58, 59, 60, 61, 62, 63, 64, 65, 66, 71, 72, 73, 74, 75, 76, 77, 78, 79, 80, 81, 82, 83, 84, 85, 86, 87, 88, 89, 90, 91] (by decide +kernel) (by decide +kernel)
set_option maxRecDepth 20000 in
theorem gX5_mostOn_X5_fit : GoodIn wsX5_mostOn (wsV RX5 116 RX5 yX5_fit wsX5_fit) := goodIn_app (goodIn_of _ (by decide +kernel)) ggX5_mostOn_X5_fit
theorem dX5_mostOn_0 : decode cX5_mostOn 0 = .ok (.aload_n 0, 1) := by decide +kernel
theorem dX5_mostOn_1 : decode cX5_mostOn 1 = .ok (.aload_n 0, 1) := by decide +kernel
theorem dX5_mostOn_2 : decode cX5_mostOn 2 = .ok (.iload_n 1, 1) := by decide +kernel
theorem dX5_mostOn_3 : decode cX5_mostOn 3 = .ok (.invokevirtual 74, 3) := by decide +kernel
theorem dX5_mostOn_6 : decode cX5_mostOn 6 = .ok (.ifCond .eq 7, 3) := by decide +kernel
theorem dX5_mostOn_9 : decode cX5_mostOn 9 = .ok (.iconst 0, 1) := by decide +kernel
theorem dX5_mostOn_10 : decode cX5_mostOn 10 = .ok (.goto 4, 3) := by decide +kernel
theorem dX5_mostOn_13 : decode cX5_mostOn 13 = .ok (.iconst 1, 1) := by decide +kernel
theorem dX5_mostOn_14 : decode cX5_mostOn 14 = .ok (.invokevirtual 67, 3) := by decide +kernel
theorem dX5_mostOn_17 : decode cX5_mostOn 17 = .ok (.ifCond .ne 5, 3) := by decide +kernel
theorem dX5_mostOn_20 : decode cX5_mostOn 20 = .ok (.iconst 0, 1) := by decide +kernel
theorem dX5_mostOn_21 : decode cX5_mostOn 21 = .ok (.ireturn, 1) := by decide +kernel
theorem dX5_mostOn_22 : decode cX5_mostOn 22 = .ok (.aload_n 0, 1) := by decide +kernel
theorem dX5_mostOn_23 : decode cX5_mostOn 23 = .ok (.invokevirtual 112, 3) := by decide +kernel
theorem dX5_mostOn_26 : decode cX5_mostOn 26 = .ok (.istore_n 2, 1) := by decide +kernel
theorem dX5_mostOn_27 : decode cX5_mostOn 27 = .ok (.iload_n 2, 1) := by decide +kernel
theorem dX5_mostOn_28 : decode cX5_mostOn 28 = .ok (.iconst (-1), 1) := by decide +kernel
theorem dX5_mostOn_29 : decode cX5_mostOn 29 = .ok (.if_icmp .ne 7, 3) := by decide +kernel
theorem dX5_mostOn_32 : decode cX5_mostOn 32 = .ok (.iconst (-1), 1) := by decide +kernel
theorem dX5_mostOn_33 : decode cX5_mostOn 33 = .ok (.goto 15, 3) := by decide +kernel
theorem dX5_mostOn_36 : decode cX5_mostOn 36 = .ok (.aload_n 0, 1) := by decide +kernel
theorem dX5_mostOn_37 : decode cX5_mostOn 37 = .ok (.iload_n 1, 1) := by decide +kernel
theorem dX5_mostOn_38 : decode cX5_mostOn 38 = .ok (.iload_n 2, 1) := by decide +kernel
theorem dX5_mostOn_39 : decode cX5_mostOn 39 = .ok (.aload_n 0, 1) := by decide +kernel
theorem dX5_mostOn_40 : decode cX5_mostOn 40 = .ok (.iload_n 1, 1) := by decide +kernel
theorem dX5_mostOn_41 : decode cX5_mostOn 41 = .ok (.invokevirtual 77, 3) := by decide +kernel
theorem dX5_mostOn_44 : decode cX5_mostOn 44 = .ok (.iconst (-1), 1) := by decide +kernel
theorem dX5_mostOn_45 : decode cX5_mostOn 45 = .ok (.invokevirtual 116, 3) := by decide +kernel
theorem dX5_mostOn_48 : decode cX5_mostOn 48 = .ok (.ireturn, 1) := by decide +kernel
set_option maxRecDepth 20000 in
theorem ggX5_lookBack_X5_capacityOf : GoodIn wsX5_lookBack wsX5_capacityOf := goodIn_r _ [13, 14, 15, 21, 22, 23, 24, 25, 26, 27, 28, 29, 30, 31, 32, 33, 34, 35, 36, 37, 38, 39, 40, 41] (by decide +kernel) (by decide +kernel)
set_option maxRecDepth 20000 in
theorem gX5_lookBack_X5_capacityOf : GoodIn wsX5_lookBack (wsV RX5 77 RX5 yX5_capacityOf wsX5_capacityOf) := goodIn_app (goodIn_of _ (by decide +kernel)) ggX5_lookBack_X5_capacityOf
set_option maxRecDepth 20000 in
theorem ggX5_lookBack_X5_priceOf : GoodIn wsX5_lookBack wsX5_priceOf := goodIn_r _ [19, 15, 20, 21, 22, 23, 24, 25, 26, 27, 28, 29, 30, 31, 32, 33, 34, 35, 36, 37, 38, 39, 40, 41] (by decide +kernel) (by decide +kernel)
set_option maxRecDepth 20000 in
theorem gX5_lookBack_X5_priceOf : GoodIn wsX5_lookBack (wsV RX5 87 RX5 yX5_priceOf wsX5_priceOf) := goodIn_app (goodIn_of _ (by decide +kernel)) ggX5_lookBack_X5_priceOf
theorem dX5_lookBack_0 : decode cX5_lookBack 0 = .ok (.iconst 0, 1) := by decide +kernel
theorem dX5_lookBack_1 : decode cX5_lookBack 1 = .ok (.istore_n 1, 1) := by decide +kernel
theorem dX5_lookBack_2 : decode cX5_lookBack 2 = .ok (.iload_n 1, 1) := by decide +kernel
theorem dX5_lookBack_3 : decode cX5_lookBack 3 = .ok (.aload_n 0, 1) := by decide +kernel
theorem dX5_lookBack_4 : decode cX5_lookBack 4 = .ok (.getfield 50, 3) := by decide +kernel
theorem dX5_lookBack_7 : decode cX5_lookBack 7 = .ok (.if_icmp .ge 29, 3) := by decide +kernel
theorem dX5_lookBack_10 : decode cX5_lookBack 10 = .ok (.aload_n 0, 1) := by decide +kernel
theorem dX5_lookBack_11 : decode cX5_lookBack 11 = .ok (.getfield 41, 3) := by decide +kernel
theorem dX5_lookBack_14 : decode cX5_lookBack 14 = .ok (.iload_n 1, 1) := by decide +kernel
theorem dX5_lookBack_15 : decode cX5_lookBack 15 = .ok (.iload_n 1, 1) := by decide +kernel
theorem dX5_lookBack_16 : decode cX5_lookBack 16 = .ok (.aload_n 0, 1) := by decide +kernel
theorem dX5_lookBack_17 : decode cX5_lookBack 17 = .ok (.getfield 25, 3) := by decide +kernel
theorem dX5_lookBack_20 : decode cX5_lookBack 20 = .ok (.if_icmp .ne 7, 3) := by decide +kernel
theorem dX5_lookBack_23 : decode cX5_lookBack 23 = .ok (.iconst 0, 1) := by decide +kernel
theorem dX5_lookBack_24 : decode cX5_lookBack 24 = .ok (.goto 5, 3) := by decide +kernel
theorem dX5_lookBack_27 : decode cX5_lookBack 27 = .ok (.ldc 91, 2) := by decide +kernel
theorem dX5_lookBack_29 : decode cX5_lookBack 29 = .ok (.iastore, 1) := by decide +kernel
theorem dX5_lookBack_30 : decode cX5_lookBack 30 = .ok (.iinc 1 1, 3) := by decide +kernel
theorem dX5_lookBack_33 : decode cX5_lookBack 33 = .ok (.goto (-31), 3) := by decide +kernel
theorem dX5_lookBack_36 : decode cX5_lookBack 36 = .ok (.iconst 0, 1) := by decide +kernel
theorem dX5_lookBack_37 : decode cX5_lookBack 37 = .ok (.istore_n 1, 1) := by decide +kernel
theorem dX5_lookBack_38 : decode cX5_lookBack 38 = .ok (.iload_n 1, 1) := by decide +kernel
theorem dX5_lookBack_39 : decode cX5_lookBack 39 = .ok (.aload_n 0, 1) := by decide +kernel
theorem dX5_lookBack_40 : decode cX5_lookBack 40 = .ok (.getfield 50, 3) := by decide +kernel
theorem dX5_lookBack_43 : decode cX5_lookBack 43 = .ok (.if_icmp .ge 111, 3) := by decide +kernel
theorem dX5_lookBack_46 : decode cX5_lookBack 46 = .ok (.iconst 0, 1) := by decide +kernel
theorem dX5_lookBack_47 : decode cX5_lookBack 47 = .ok (.istore_n 2, 1) := by decide +kernel
theorem dX5_lookBack_48 : decode cX5_lookBack 48 = .ok (.iload_n 2, 1) := by decide +kernel
theorem dX5_lookBack_49 : decode cX5_lookBack 49 = .ok (.aload_n 0, 1) := by decide +kernel
theorem dX5_lookBack_50 : decode cX5_lookBack 50 = .ok (.getfield 60, 3) := by decide +kernel
theorem dX5_lookBack_53 : decode cX5_lookBack 53 = .ok (.if_icmp .ge 95, 3) := by decide +kernel
theorem dX5_lookBack_56 : decode cX5_lookBack 56 = .ok (.aload_n 0, 1) := by decide +kernel
theorem dX5_lookBack_57 : decode cX5_lookBack 57 = .ok (.getfield 47, 3) := by decide +kernel
theorem dX5_lookBack_60 : decode cX5_lookBack 60 = .ok (.iload_n 2, 1) := by decide +kernel
theorem dX5_lookBack_61 : decode cX5_lookBack 61 = .ok (.iaload, 1) := by decide +kernel
theorem dX5_lookBack_62 : decode cX5_lookBack 62 = .ok (.aload_n 0, 1) := by decide +kernel
theorem dX5_lookBack_63 : decode cX5_lookBack 63 = .ok (.iload_n 2, 1) := by decide +kernel
theorem dX5_lookBack_64 : decode cX5_lookBack 64 = .ok (.invokevirtual 77, 3) := by decide +kernel
theorem dX5_lookBack_67 : decode cX5_lookBack 67 = .ok (.if_icmp .ge 75, 3) := by decide +kernel
theorem dX5_lookBack_70 : decode cX5_lookBack 70 = .ok (.aload_n 0, 1) := by decide +kernel
theorem dX5_lookBack_71 : decode cX5_lookBack 71 = .ok (.getfield 41, 3) := by decide +kernel
theorem dX5_lookBack_74 : decode cX5_lookBack 74 = .ok (.aload_n 0, 1) := by decide +kernel
theorem dX5_lookBack_75 : decode cX5_lookBack 75 = .ok (.getfield 13, 3) := by decide +kernel
theorem dX5_lookBack_78 : decode cX5_lookBack 78 = .ok (.iload_n 2, 1) := by decide +kernel
theorem dX5_lookBack_79 : decode cX5_lookBack 79 = .ok (.iaload, 1) := by decide +kernel
theorem dX5_lookBack_80 : decode cX5_lookBack 80 = .ok (.iaload, 1) := by decide +kernel
theorem dX5_lookBack_81 : decode cX5_lookBack 81 = .ok (.bipush 100, 2) := by decide +kernel
theorem dX5_lookBack_83 : decode cX5_lookBack 83 = .ok (.aload_n 0, 1) := by decide +kernel
theorem dX5_lookBack_84 : decode cX5_lookBack 84 = .ok (.iload_n 2, 1) := by decide +kernel
theorem dX5_lookBack_85 : decode cX5_lookBack 85 = .ok (.aload_n 0, 1) := by decide +kernel
theorem dX5_lookBack_86 : decode cX5_lookBack 86 = .ok (.getfield 47, 3) := by decide +kernel
theorem dX5_lookBack_89 : decode cX5_lookBack 89 = .ok (.iload_n 2, 1) := by decide +kernel
theorem dX5_lookBack_90 : decode cX5_lookBack 90 = .ok (.iaload, 1) := by decide +kernel
theorem dX5_lookBack_91 : decode cX5_lookBack 91 = .ok (.iconst 1, 1) := by decide +kernel
theorem dX5_lookBack_92 : decode cX5_lookBack 92 = .ok (.iadd, 1) := by decide +kernel
theorem dX5_lookBack_93 : decode cX5_lookBack 93 = .ok (.invokevirtual 87, 3) := by decide +kernel
theorem dX5_lookBack_96 : decode cX5_lookBack 96 = .ok (.imul, 1) := by decide +kernel
theorem dX5_lookBack_97 : decode cX5_lookBack 97 = .ok (.iadd, 1) := by decide +kernel
theorem dX5_lookBack_98 : decode cX5_lookBack 98 = .ok (.iconst 1, 1) := by decide +kernel
theorem dX5_lookBack_99 : decode cX5_lookBack 99 = .ok (.iadd, 1) := by decide +kernel
theorem dX5_lookBack_100 : decode cX5_lookBack 100 = .ok (.istore_n 3, 1) := by decide +kernel
theorem dX5_lookBack_101 : decode cX5_lookBack 101 = .ok (.aload_n 0, 1) := by decide +kernel
theorem dX5_lookBack_102 : decode cX5_lookBack 102 = .ok (.getfield 41, 3) := by decide +kernel
theorem dX5_lookBack_105 : decode cX5_lookBack 105 = .ok (.aload_n 0, 1) := by decide +kernel
theorem dX5_lookBack_106 : decode cX5_lookBack 106 = .ok (.getfield 7, 3) := by decide +kernel
theorem dX5_lookBack_109 : decode cX5_lookBack 109 = .ok (.iload_n 2, 1) := by decide +kernel
theorem dX5_lookBack_110 : decode cX5_lookBack 110 = .ok (.iaload, 1) := by decide +kernel
theorem dX5_lookBack_111 : decode cX5_lookBack 111 = .ok (.iload_n 3, 1) := by decide +kernel
theorem dX5_lookBack_112 : decode cX5_lookBack 112 = .ok (.aload_n 0, 1) := by decide +kernel
theorem dX5_lookBack_113 : decode cX5_lookBack 113 = .ok (.getfield 41, 3) := by decide +kernel
theorem dX5_lookBack_116 : decode cX5_lookBack 116 = .ok (.aload_n 0, 1) := by decide +kernel
theorem dX5_lookBack_117 : decode cX5_lookBack 117 = .ok (.getfield 7, 3) := by decide +kernel
theorem dX5_lookBack_120 : decode cX5_lookBack 120 = .ok (.iload_n 2, 1) := by decide +kernel
theorem dX5_lookBack_121 : decode cX5_lookBack 121 = .ok (.iaload, 1) := by decide +kernel
theorem dX5_lookBack_122 : decode cX5_lookBack 122 = .ok (.iaload, 1) := by decide +kernel
theorem dX5_lookBack_123 : decode cX5_lookBack 123 = .ok (.if_icmp .ge 7, 3) := by decide +kernel
theorem dX5_lookBack_126 : decode cX5_lookBack 126 = .ok (.iload_n 3, 1) := by decide +kernel
theorem dX5_lookBack_127 : decode cX5_lookBack 127 = .ok (.goto 14, 3) := by decide +kernel
theorem dX5_lookBack_130 : decode cX5_lookBack 130 = .ok (.aload_n 0, 1) := by decide +kernel
theorem dX5_lookBack_131 : decode cX5_lookBack 131 = .ok (.getfield 41, 3) := by decide +kernel
theorem dX5_lookBack_134 : decode cX5_lookBack 134 = .ok (.aload_n 0, 1) := by decide +kernel
theorem dX5_lookBack_135 : decode cX5_lookBack 135 = .ok (.getfield 7, 3) := by decide +kernel
theorem dX5_lookBack_138 : decode cX5_lookBack 138 = .ok (.iload_n 2, 1) := by decide +kernel
theorem dX5_lookBack_139 : decode cX5_lookBack 139 = .ok (.iaload, 1) := by decide +kernel
theorem dX5_lookBack_140 : decode cX5_lookBack 140 = .ok (.iaload, 1) := by decide +kernel
theorem dX5_lookBack_141 : decode cX5_lookBack 141 = .ok (.iastore, 1) := by decide +kernel
theorem dX5_lookBack_142 : decode cX5_lookBack 142 = .ok (.iinc 2 1, 3) := by decide +kernel
theorem dX5_lookBack_145 : decode cX5_lookBack 145 = .ok (.goto (-97), 3) := by decide +kernel
theorem dX5_lookBack_148 : decode cX5_lookBack 148 = .ok (.iinc 1 1, 3) := by decide +kernel
theorem dX5_lookBack_151 : decode cX5_lookBack 151 = .ok (.goto (-113), 3) := by decide +kernel
theorem dX5_lookBack_154 : decode cX5_lookBack 154 = .ok (.return_, 1) := by decide +kernel
set_option maxRecDepth 20000 in
theorem ggX5_isNext_X5_capacityOf : GoodIn wsX5_isNext wsX5_capacityOf := goodIn_r _ [9, 10, 11, 17, 18, 19, 20, 21, 22, 23, 24, 25, 26, 27, 28, 29, 30, 31, 32, 33, 34, 35, 36, 37] (by decide +kernel) (by decide +kernel)
set_option maxRecDepth 20000 in
theorem gX5_isNext_X5_capacityOf : GoodIn wsX5_isNext (wsV RX5 77 RX5 yX5_capacityOf wsX5_capacityOf) := goodIn_app (goodIn_of _ (by decide +kernel)) ggX5_isNext_X5_capacityOf
set_option maxRecDepth 20000 in
theorem ggX5_isNext_X5_priceOf : GoodIn wsX5_isNext wsX5_priceOf := goodIn_r _ [15, 11, 16, 17, 18, 19, 20, 21, 22, 23, 24, 25, 26, 27, 28, 29, 30, 31, 32, 33, 34, 35, 36, 37] (by decide +kernel) (by decide +kernel)
set_option maxRecDepth 20000 in
theorem gX5_isNext_X5_priceOf : GoodIn wsX5_isNext (wsV RX5 87 RX5 yX5_priceOf wsX5_priceOf) := goodIn_app (goodIn_of _ (by decide +kernel)) ggX5_isNext_X5_priceOf
theorem dX5_isNext_0 : decode cX5_isNext 0 = .ok (.aload_n 0, 1) := by decide +kernel
theorem dX5_isNext_1 : decode cX5_isNext 1 = .ok (.getfield 7, 3) := by decide +kernel
theorem dX5_isNext_4 : decode cX5_isNext 4 = .ok (.iload_n 1, 1) := by decide +kernel
theorem dX5_isNext_5 : decode cX5_isNext 5 = .ok (.iaload, 1) := by decide +kernel
theorem dX5_isNext_6 : decode cX5_isNext 6 = .ok (.iload_n 2, 1) := by decide +kernel
theorem dX5_isNext_7 : decode cX5_isNext 7 = .ok (.if_icmp .ne 21, 3) := by decide +kernel
theorem dX5_isNext_10 : decode cX5_isNext 10 = .ok (.aload_n 0, 1) := by decide +kernel
theorem dX5_isNext_11 : decode cX5_isNext 11 = .ok (.getfield 47, 3) := by decide +kernel
theorem dX5_isNext_14 : decode cX5_isNext 14 = .ok (.iload_n 1, 1) := by decide +kernel
theorem dX5_isNext_15 : decode cX5_isNext 15 = .ok (.iaload, 1) := by decide +kernel
theorem dX5_isNext_16 : decode cX5_isNext 16 = .ok (.aload_n 0, 1) := by decide +kernel
theorem dX5_isNext_17 : decode cX5_isNext 17 = .ok (.iload_n 1, 1) := by decide +kernel
theorem dX5_isNext_18 : decode cX5_isNext 18 = .ok (.invokevirtual 77, 3) := by decide +kernel
theorem dX5_isNext_21 : decode cX5_isNext 21 = .ok (.if_icmp .ge 7, 3) := by decide +kernel
theorem dX5_isNext_24 : decode cX5_isNext 24 = .ok (.iconst 1, 1) := by decide +kernel
theorem dX5_isNext_25 : decode cX5_isNext 25 = .ok (.goto 4, 3) := by decide +kernel
theorem dX5_isNext_28 : decode cX5_isNext 28 = .ok (.iconst 0, 1) := by decide +kernel
theorem dX5_isNext_29 : decode cX5_isNext 29 = .ok (.istore_n 3, 1) := by decide +kernel
theorem dX5_isNext_30 : decode cX5_isNext 30 = .ok (.iload_n 3, 1) := by decide +kernel
theorem dX5_isNext_31 : decode cX5_isNext 31 = .ok (.ifCond .eq 46, 3) := by decide +kernel
theorem dX5_isNext_34 : decode cX5_isNext 34 = .ok (.aload_n 0, 1) := by decide +kernel
theorem dX5_isNext_35 : decode cX5_isNext 35 = .ok (.getfield 41, 3) := by decide +kernel
theorem dX5_isNext_38 : decode cX5_isNext 38 = .ok (.iload_n 2, 1) := by decide +kernel
theorem dX5_isNext_39 : decode cX5_isNext 39 = .ok (.iaload, 1) := by decide +kernel
theorem dX5_isNext_40 : decode cX5_isNext 40 = .ok (.aload_n 0, 1) := by decide +kernel
theorem dX5_isNext_41 : decode cX5_isNext 41 = .ok (.getfield 41, 3) := by decide +kernel
theorem dX5_isNext_44 : decode cX5_isNext 44 = .ok (.aload_n 0, 1) := by decide +kernel
theorem dX5_isNext_45 : decode cX5_isNext 45 = .ok (.getfield 13, 3) := by decide +kernel
theorem dX5_isNext_48 : decode cX5_isNext 48 = .ok (.iload_n 1, 1) := by decide +kernel
theorem dX5_isNext_49 : decode cX5_isNext 49 = .ok (.iaload, 1) := by decide +kernel
theorem dX5_isNext_50 : decode cX5_isNext 50 = .ok (.iaload, 1) := by decide +kernel
theorem dX5_isNext_51 : decode cX5_isNext 51 = .ok (.bipush 100, 2) := by decide +kernel
theorem dX5_isNext_53 : decode cX5_isNext 53 = .ok (.aload_n 0, 1) := by decide +kernel
theorem dX5_isNext_54 : decode cX5_isNext 54 = .ok (.iload_n 1, 1) := by decide +kernel
theorem dX5_isNext_55 : decode cX5_isNext 55 = .ok (.aload_n 0, 1) := by decide +kernel
theorem dX5_isNext_56 : decode cX5_isNext 56 = .ok (.getfield 47, 3) := by decide +kernel
theorem dX5_isNext_59 : decode cX5_isNext 59 = .ok (.iload_n 1, 1) := by decide +kernel
theorem dX5_isNext_60 : decode cX5_isNext 60 = .ok (.iaload, 1) := by decide +kernel
theorem dX5_isNext_61 : decode cX5_isNext 61 = .ok (.iconst 1, 1) := by decide +kernel
theorem dX5_isNext_62 : decode cX5_isNext 62 = .ok (.iadd, 1) := by decide +kernel
theorem dX5_isNext_63 : decode cX5_isNext 63 = .ok (.invokevirtual 87, 3) := by decide +kernel
theorem dX5_isNext_66 : decode cX5_isNext 66 = .ok (.imul, 1) := by decide +kernel
theorem dX5_isNext_67 : decode cX5_isNext 67 = .ok (.iadd, 1) := by decide +kernel
theorem dX5_isNext_68 : decode cX5_isNext 68 = .ok (.iconst 1, 1) := by decide +kernel
theorem dX5_isNext_69 : decode cX5_isNext 69 = .ok (.iadd, 1) := by decide +kernel
theorem dX5_isNext_70 : decode cX5_isNext 70 = .ok (.if_icmp .ne 7, 3) := by decide +kernel
theorem dX5_isNext_73 : decode cX5_isNext 73 = .ok (.iconst 1, 1) := by decide +kernel
theorem dX5_isNext_74 : decode cX5_isNext 74 = .ok (.goto 4, 3) := by decide +kernel
theorem dX5_isNext_77 : decode cX5_isNext 77 = .ok (.iconst 0, 1) := by decide +kernel
theorem dX5_isNext_78 : decode cX5_isNext 78 = .ok (.ireturn, 1) := by decide +kernel
set_option maxRecDepth 20000 in
theorem ggX5_drive_X5_lookBack : GoodIn wsX5_drive wsX5_lookBack := goodIn_r _ [14, 15, 7, 16, 9, 1, 2, 17, 18, 19, 20, 21, 13, 22, 23, 24, 25, 26, 27, 28, 29, 38, 39, 40, 41, 42, 43, 44, 45, 46, 47, 48, 49, 50, 51, 52, 53, 54, 55, 56, 57, 58] (by decide +kernel) (by decide +kernel)
set_option maxRecDepth 20000 in
theorem gX5_drive_X5_lookBack : GoodIn wsX5_drive (wsV RX5 129 RX5 yX5_lookBack wsX5_lookBack) := goodIn_app (goodIn_of _ (by decide +kernel)) ggX5_drive_X5_lookBack
set_option maxRecDepth 20000 in
theorem ggX5_drive_X5_takeWay : GoodIn wsX5_drive wsX5_takeWay := goodIn_r _ [33, 8, 16, 17, 2, 34, 35, 36, 13, 37, 18, 7, 19, 20, 21, 22, 23, 24, 25, 26, 27, 28, 29, 38, 39, 40, 41, 42, 43, 44, 45, 46, 47, 48, 49, 50, 51, 52, 53, 54, 55, 56, 57, 58] (by decide +kernel) (by decide +kernel)
set_option maxRecDepth 20000 in
theorem gX5_drive_X5_takeWay : GoodIn wsX5_drive (wsV RX5 132 RX5 yX5_takeWay wsX5_takeWay) := goodIn_app (goodIn_of _ (by decide +kernel)) ggX5_drive_X5_takeWay
theorem dX5_drive_0 : decode cX5_drive 0 = .ok (.iconst 0, 1) := by decide +kernel
theorem dX5_drive_1 : decode cX5_drive 1 = .ok (.istore_n 1, 1) := by decide +kernel
theorem dX5_drive_2 : decode cX5_drive 2 = .ok (.iload_n 1, 1) := by decide +kernel
theorem dX5_drive_3 : decode cX5_drive 3 = .ok (.aload_n 0, 1) := by decide +kernel
theorem dX5_drive_4 : decode cX5_drive 4 = .ok (.getfield 60, 3) := by decide +kernel
theorem dX5_drive_7 : decode cX5_drive 7 = .ok (.if_icmp .ge 16, 3) := by decide +kernel
theorem dX5_drive_10 : decode cX5_drive 10 = .ok (.aload_n 0, 1) := by decide +kernel
theorem dX5_drive_11 : decode cX5_drive 11 = .ok (.getfield 47, 3) := by decide +kernel
theorem dX5_drive_14 : decode cX5_drive 14 = .ok (.iload_n 1, 1) := by decide +kernel
theorem dX5_drive_15 : decode cX5_drive 15 = .ok (.iconst 0, 1) := by decide +kernel
theorem dX5_drive_16 : decode cX5_drive 16 = .ok (.iastore, 1) := by decide +kernel
theorem dX5_drive_17 : decode cX5_drive 17 = .ok (.iinc 1 1, 3) := by decide +kernel
theorem dX5_drive_20 : decode cX5_drive 20 = .ok (.goto (-18), 3) := by decide +kernel
theorem dX5_drive_23 : decode cX5_drive 23 = .ok (.aload_n 0, 1) := by decide +kernel
theorem dX5_drive_24 : decode cX5_drive 24 = .ok (.iconst 0, 1) := by decide +kernel
theorem dX5_drive_25 : decode cX5_drive 25 = .ok (.putfield 120, 3) := by decide +kernel
theorem dX5_drive_28 : decode cX5_drive 28 = .ok (.aload_n 0, 1) := by decide +kernel
theorem dX5_drive_29 : decode cX5_drive 29 = .ok (.iconst 0, 1) := by decide +kernel
theorem dX5_drive_30 : decode cX5_drive 30 = .ok (.putfield 123, 3) := by decide +kernel
theorem dX5_drive_33 : decode cX5_drive 33 = .ok (.aload_n 0, 1) := by decide +kernel
theorem dX5_drive_34 : decode cX5_drive 34 = .ok (.iconst (-1), 1) := by decide +kernel
theorem dX5_drive_35 : decode cX5_drive 35 = .ok (.putfield 126, 3) := by decide +kernel
theorem dX5_drive_38 : decode cX5_drive 38 = .ok (.aload_n 0, 1) := by decide +kernel
theorem dX5_drive_39 : decode cX5_drive 39 = .ok (.invokevirtual 129, 3) := by decide +kernel
theorem dX5_drive_42 : decode cX5_drive 42 = .ok (.aload_n 0, 1) := by decide +kernel
theorem dX5_drive_43 : decode cX5_drive 43 = .ok (.getfield 120, 3) := by decide +kernel
theorem dX5_drive_46 : decode cX5_drive 46 = .ok (.aload_n 0, 1) := by decide +kernel
theorem dX5_drive_47 : decode cX5_drive 47 = .ok (.getfield 84, 3) := by decide +kernel
theorem dX5_drive_50 : decode cX5_drive 50 = .ok (.if_icmp .ge 67, 3) := by decide +kernel
theorem dX5_drive_53 : decode cX5_drive 53 = .ok (.aload_n 0, 1) := by decide +kernel
theorem dX5_drive_54 : decode cX5_drive 54 = .ok (.getfield 41, 3) := by decide +kernel
theorem dX5_drive_57 : decode cX5_drive 57 = .ok (.aload_n 0, 1) := by decide +kernel
theorem dX5_drive_58 : decode cX5_drive 58 = .ok (.getfield 81, 3) := by decide +kernel
theorem dX5_drive_61 : decode cX5_drive 61 = .ok (.iaload, 1) := by decide +kernel
theorem dX5_drive_62 : decode cX5_drive 62 = .ok (.ldc 91, 2) := by decide +kernel
theorem dX5_drive_64 : decode cX5_drive 64 = .ok (.if_icmp .ge 53, 3) := by decide +kernel
theorem dX5_drive_67 : decode cX5_drive 67 = .ok (.aload_n 0, 1) := by decide +kernel
theorem dX5_drive_68 : decode cX5_drive 68 = .ok (.aload_n 0, 1) := by decide +kernel
theorem dX5_drive_69 : decode cX5_drive 69 = .ok (.getfield 41, 3) := by decide +kernel
theorem dX5_drive_72 : decode cX5_drive 72 = .ok (.aload_n 0, 1) := by decide +kernel
theorem dX5_drive_73 : decode cX5_drive 73 = .ok (.getfield 81, 3) := by decide +kernel
theorem dX5_drive_76 : decode cX5_drive 76 = .ok (.iaload, 1) := by decide +kernel
theorem dX5_drive_77 : decode cX5_drive 77 = .ok (.bipush 100, 2) := by decide +kernel
theorem dX5_drive_79 : decode cX5_drive 79 = .ok (.idiv, 1) := by decide +kernel
theorem dX5_drive_80 : decode cX5_drive 80 = .ok (.putfield 126, 3) := by decide +kernel
theorem dX5_drive_83 : decode cX5_drive 83 = .ok (.aload_n 0, 1) := by decide +kernel
theorem dX5_drive_84 : decode cX5_drive 84 = .ok (.dup, 1) := by decide +kernel
theorem dX5_drive_85 : decode cX5_drive 85 = .ok (.getfield 123, 3) := by decide +kernel
theorem dX5_drive_88 : decode cX5_drive 88 = .ok (.aload_n 0, 1) := by decide +kernel
theorem dX5_drive_89 : decode cX5_drive 89 = .ok (.getfield 126, 3) := by decide +kernel
theorem dX5_drive_92 : decode cX5_drive 92 = .ok (.iadd, 1) := by decide +kernel
theorem dX5_drive_93 : decode cX5_drive 93 = .ok (.putfield 123, 3) := by decide +kernel
theorem dX5_drive_96 : decode cX5_drive 96 = .ok (.aload_n 0, 1) := by decide +kernel
theorem dX5_drive_97 : decode cX5_drive 97 = .ok (.dup, 1) := by decide +kernel
theorem dX5_drive_98 : decode cX5_drive 98 = .ok (.getfield 120, 3) := by decide +kernel
theorem dX5_drive_101 : decode cX5_drive 101 = .ok (.iconst 1, 1) := by decide +kernel
theorem dX5_drive_102 : decode cX5_drive 102 = .ok (.iadd, 1) := by decide +kernel
theorem dX5_drive_103 : decode cX5_drive 103 = .ok (.putfield 120, 3) := by decide +kernel
theorem dX5_drive_106 : decode cX5_drive 106 = .ok (.aload_n 0, 1) := by decide +kernel
theorem dX5_drive_107 : decode cX5_drive 107 = .ok (.invokevirtual 132, 3) := by decide +kernel
theorem dX5_drive_110 : decode cX5_drive 110 = .ok (.aload_n 0, 1) := by decide +kernel
theorem dX5_drive_111 : decode cX5_drive 111 = .ok (.invokevirtual 129, 3) := by decide +kernel
theorem dX5_drive_114 : decode cX5_drive 114 = .ok (.goto (-72), 3) := by decide +kernel
theorem dX5_drive_117 : decode cX5_drive 117 = .ok (.return_, 1) := by decide +kernel
set_option maxRecDepth 20000 in
theorem ggX5_takeWay_X5_isNext : GoodIn wsX5_takeWay wsX5_isNext := goodIn_r _ [9, 10, 4, 11, 3, 12, 13, 14, 8, 15, 16, 17, 18, 19, 20, 21, 22, 23, 24, 25, 26, 27, 28, 29, 30, 31, 32, 33, 34, 35, 36, 37, 38, 39, 40, 41, 42, 43] (by decide +kernel) (by decide +kernel)
set_option maxRecDepth 20000 in
theorem gX5_takeWay_X5_isNext : GoodIn wsX5_takeWay (wsV RX5 135 RX5 yX5_isNext wsX5_isNext) := goodIn_app (goodIn_of _ (by decide +kernel)) ggX5_takeWay_X5_isNext
theorem dX5_takeWay_0 : decode cX5_takeWay 0 = .ok (.aload_n 0, 1) := by decide +kernel
theorem dX5_takeWay_1 : decode cX5_takeWay 1 = .ok (.getfield 81, 3) := by decide +kernel
theorem dX5_takeWay_4 : decode cX5_takeWay 4 = .ok (.istore_n 1, 1) := by decide +kernel
theorem dX5_takeWay_5 : decode cX5_takeWay 5 = .ok (.iload_n 1, 1) := by decide +kernel
theorem dX5_takeWay_6 : decode cX5_takeWay 6 = .ok (.aload_n 0, 1) := by decide +kernel
theorem dX5_takeWay_7 : decode cX5_takeWay 7 = .ok (.getfield 25, 3) := by decide +kernel
theorem dX5_takeWay_10 : decode cX5_takeWay 10 = .ok (.if_icmp .eq 40, 3) := by decide +kernel
theorem dX5_takeWay_13 : decode cX5_takeWay 13 = .ok (.iconst 0, 1) := by decide +kernel
theorem dX5_takeWay_14 : decode cX5_takeWay 14 = .ok (.istore_n 2, 1) := by decide +kernel
theorem dX5_takeWay_15 : decode cX5_takeWay 15 = .ok (.aload_n 0, 1) := by decide +kernel
theorem dX5_takeWay_16 : decode cX5_takeWay 16 = .ok (.iload_n 2, 1) := by decide +kernel
theorem dX5_takeWay_17 : decode cX5_takeWay 17 = .ok (.iload_n 1, 1) := by decide +kernel
theorem dX5_takeWay_18 : decode cX5_takeWay 18 = .ok (.invokevirtual 135, 3) := by decide +kernel
theorem dX5_takeWay_21 : decode cX5_takeWay 21 = .ok (.ifCond .ne 9, 3) := by decide +kernel
theorem dX5_takeWay_24 : decode cX5_takeWay 24 = .ok (.iinc 2 1, 3) := by decide +kernel
theorem dX5_takeWay_27 : decode cX5_takeWay 27 = .ok (.goto (-12), 3) := by decide +kernel
theorem dX5_takeWay_30 : decode cX5_takeWay 30 = .ok (.aload_n 0, 1) := by decide +kernel
theorem dX5_takeWay_31 : decode cX5_takeWay 31 = .ok (.getfield 13, 3) := by decide +kernel
theorem dX5_takeWay_34 : decode cX5_takeWay 34 = .ok (.iload_n 2, 1) := by decide +kernel
theorem dX5_takeWay_35 : decode cX5_takeWay 35 = .ok (.iaload, 1) := by decide +kernel
theorem dX5_takeWay_36 : decode cX5_takeWay 36 = .ok (.istore_n 1, 1) := by decide +kernel
theorem dX5_takeWay_37 : decode cX5_takeWay 37 = .ok (.aload_n 0, 1) := by decide +kernel
theorem dX5_takeWay_38 : decode cX5_takeWay 38 = .ok (.getfield 47, 3) := by decide +kernel
theorem dX5_takeWay_41 : decode cX5_takeWay 41 = .ok (.iload_n 2, 1) := by decide +kernel
theorem dX5_takeWay_42 : decode cX5_takeWay 42 = .ok (.dup2, 1) := by decide +kernel
theorem dX5_takeWay_43 : decode cX5_takeWay 43 = .ok (.iaload, 1) := by decide +kernel
theorem dX5_takeWay_44 : decode cX5_takeWay 44 = .ok (.iconst 1, 1) := by decide +kernel
theorem dX5_takeWay_45 : decode cX5_takeWay 45 = .ok (.iadd, 1) := by decide +kernel
theorem dX5_takeWay_46 : decode cX5_takeWay 46 = .ok (.iastore, 1) := by decide +kernel
theorem dX5_takeWay_47 : decode cX5_takeWay 47 = .ok (.goto (-42), 3) := by decide +kernel
theorem dX5_takeWay_50 : decode cX5_takeWay 50 = .ok (.return_, 1) := by decide +kernel
set_option maxRecDepth 20000 in
theorem ggX5_driven_X5_drive : GoodIn wsX5_driven wsX5_drive := goodIn_r _ [9, 10, 11, 2, 4, 12, 3, 13, 14, 15, 16, 17, 18, 8, 19, 20, 21, 22, 23, 24, 25, 26, 27, 28, 29, 30, 31, 32, 33, 34, 35, 36, 37, 38, 39, 40, 41, 42, 43, 44, 45, 46, 47, 48, 49, 50, 51, 52, 53, 54, 55, 56, 57, 58, 59, 60, 61, 62, 63] (by decide +kernel) (by decide +kernel)
set_option maxRecDepth 20000 in
theorem gX5_driven_X5_drive : GoodIn wsX5_driven (wsV RX5 139 RX5 yX5_drive wsX5_drive) := goodIn_app (goodIn_of _ (by decide +kernel)) ggX5_driven_X5_drive
theorem dX5_driven_0 : decode cX5_driven 0 = .ok (.aload_n 0, 1) := by decide +kernel
theorem dX5_driven_1 : decode cX5_driven 1 = .ok (.iconst 0, 1) := by decide +kernel
theorem dX5_driven_2 : decode cX5_driven 2 = .ok (.putfield 53, 3) := by decide +kernel
theorem dX5_driven_5 : decode cX5_driven 5 = .ok (.aload_n 0, 1) := by decide +kernel
theorem dX5_driven_6 : decode cX5_driven 6 = .ok (.invokevirtual 139, 3) := by decide +kernel
theorem dX5_driven_9 : decode cX5_driven 9 = .ok (.aload_n 0, 1) := by decide +kernel
theorem dX5_driven_10 : decode cX5_driven 10 = .ok (.getfield 120, 3) := by decide +kernel
theorem dX5_driven_13 : decode cX5_driven 13 = .ok (.aload_n 0, 1) := by decide +kernel
theorem dX5_driven_14 : decode cX5_driven 14 = .ok (.getfield 84, 3) := by decide +kernel
theorem dX5_driven_17 : decode cX5_driven 17 = .ok (.if_icmp .ge 7, 3) := by decide +kernel
theorem dX5_driven_20 : decode cX5_driven 20 = .ok (.iconst (-1), 1) := by decide +kernel
theorem dX5_driven_21 : decode cX5_driven 21 = .ok (.goto 7, 3) := by decide +kernel
theorem dX5_driven_24 : decode cX5_driven 24 = .ok (.aload_n 0, 1) := by decide +kernel
theorem dX5_driven_25 : decode cX5_driven 25 = .ok (.getfield 123, 3) := by decide +kernel
theorem dX5_driven_28 : decode cX5_driven 28 = .ok (.ireturn, 1) := by decide +kernel
set_option maxRecDepth 20000 in
theorem ggX5_drivenOn_X5_isArc : GoodIn wsX5_drivenOn wsX5_isArc := goodIn_r _ [6, 7, 8, 9, 5, 10, 54, 55, 56, 57, 58, 59, 60, 61, 62, 63, 64, 65, 66, 67, 68, 69, 70, 71, 72, 73, 74] (by decide +kernel) (by decide +kernel)
set_option maxRecDepth 20000 in
theorem gX5_drivenOn_X5_isArc : GoodIn wsX5_drivenOn (wsV RX5 74 RX5 yX5_isArc wsX5_isArc) := goodIn_app (goodIn_of _ (by decide +kernel)) ggX5_drivenOn_X5_isArc
set_option maxRecDepth 20000 in
theorem ggX5_drivenOn_X5_goesWell : GoodIn wsX5_drivenOn wsX5_goesWell := goodIn_r _ [14, 15, 54, 55, 56, 57, 58, 59, 60, 61, 62, 63, 64, 65, 66, 67, 68, 69, 70, 71, 72, 73, 74] (by decide +kernel) (by decide +kernel)
set_option maxRecDepth 20000 in
theorem gX5_drivenOn_X5_goesWell : GoodIn wsX5_drivenOn (wsV RX5 67 RX5 yX5_goesWell wsX5_goesWell) := goodIn_app (goodIn_of _ (by decide +kernel)) ggX5_drivenOn_X5_goesWell
set_option maxRecDepth 20000 in
theorem ggX5_drivenOn_X5_drive : GoodIn wsX5_drivenOn wsX5_drive := goodIn_r _ [19, 7, 1, 20, 21, 22, 23, 24, 25, 26, 27, 28, 29, 5, 30, 31, 32, 33, 34, 35, 36, 37, 38, 39, 40, 41, 42, 43, 44, 45, 46, 47, 48, 49, 50, 51, 52, 53, 54, 55, 56, 57, 58, 59, 60, 61, 62, 63, 64, 65, 66, 67, 68, 69, 70, 71, 72, 73, 74] (by decide +kernel) (by decide +kernel)
set_option maxRecDepth 20000 in
theorem gX5_drivenOn_X5_drive : GoodIn wsX5_drivenOn (wsV RX5 139 RX5 yX5_drive wsX5_drive) := goodIn_app (goodIn_of _ (by decide +kernel)) ggX5_drivenOn_X5_drive
theorem dX5_drivenOn_0 : decode cX5_drivenOn 0 = .ok (.aload_n 0, 1) := by decide +kernel
theorem dX5_drivenOn_1 : decode cX5_drivenOn 1 = .ok (.aload_n 0, 1) := by decide +kernel
theorem dX5_drivenOn_2 : decode cX5_drivenOn 2 = .ok (.iload_n 1, 1) := by decide +kernel
theorem dX5_drivenOn_3 : decode cX5_drivenOn 3 = .ok (.invokevirtual 74, 3) := by decide +kernel
theorem dX5_drivenOn_6 : decode cX5_drivenOn 6 = .ok (.ifCond .eq 7, 3) := by decide +kernel
theorem dX5_drivenOn_9 : decode cX5_drivenOn 9 = .ok (.iconst 0, 1) := by decide +kernel
theorem dX5_drivenOn_10 : decode cX5_drivenOn 10 = .ok (.goto 4, 3) := by decide +kernel
theorem dX5_drivenOn_13 : decode cX5_drivenOn 13 = .ok (.iconst 1, 1) := by decide +kernel
theorem dX5_drivenOn_14 : decode cX5_drivenOn 14 = .ok (.invokevirtual 67, 3) := by decide +kernel
theorem dX5_drivenOn_17 : decode cX5_drivenOn 17 = .ok (.ifCond .ne 5, 3) := by decide +kernel
theorem dX5_drivenOn_20 : decode cX5_drivenOn 20 = .ok (.iconst 0, 1) := by decide +kernel
theorem dX5_drivenOn_21 : decode cX5_drivenOn 21 = .ok (.ireturn, 1) := by decide +kernel
theorem dX5_drivenOn_22 : decode cX5_drivenOn 22 = .ok (.aload_n 0, 1) := by decide +kernel
theorem dX5_drivenOn_23 : decode cX5_drivenOn 23 = .ok (.invokevirtual 139, 3) := by decide +kernel
theorem dX5_drivenOn_26 : decode cX5_drivenOn 26 = .ok (.aload_n 0, 1) := by decide +kernel
theorem dX5_drivenOn_27 : decode cX5_drivenOn 27 = .ok (.getfield 47, 3) := by decide +kernel
theorem dX5_drivenOn_30 : decode cX5_drivenOn 30 = .ok (.iload_n 1, 1) := by decide +kernel
theorem dX5_drivenOn_31 : decode cX5_drivenOn 31 = .ok (.iaload, 1) := by decide +kernel
theorem dX5_drivenOn_32 : decode cX5_drivenOn 32 = .ok (.ireturn, 1) := by decide +kernel
set_option maxRecDepth 20000 in
theorem ggX5_lastPaid_X5_drive : GoodIn wsX5_lastPaid wsX5_drive := goodIn_r _ [7, 8, 9, 10, 11, 2, 12, 13, 14, 15, 16, 17, 18, 6, 19, 20, 21, 22, 23, 24, 25, 26, 27, 28, 29, 30, 31, 32, 33, 34, 35, 36, 37, 38, 39, 40, 41, 42, 43, 44, 45, 46, 47, 48, 49, 50, 51, 52, 53, 54, 55, 56, 57, 58, 59, 60, 61, 62, 63] (by decide +kernel) (by decide +kernel)
set_option maxRecDepth 20000 in
theorem gX5_lastPaid_X5_drive : GoodIn wsX5_lastPaid (wsV RX5 139 RX5 yX5_drive wsX5_drive) := goodIn_app (goodIn_of _ (by decide +kernel)) ggX5_lastPaid_X5_drive
theorem dX5_lastPaid_0 : decode cX5_lastPaid 0 = .ok (.aload_n 0, 1) := by decide +kernel
theorem dX5_lastPaid_1 : decode cX5_lastPaid 1 = .ok (.iconst 0, 1) := by decide +kernel
theorem dX5_lastPaid_2 : decode cX5_lastPaid 2 = .ok (.putfield 53, 3) := by decide +kernel
theorem dX5_lastPaid_5 : decode cX5_lastPaid 5 = .ok (.aload_n 0, 1) := by decide +kernel
theorem dX5_lastPaid_6 : decode cX5_lastPaid 6 = .ok (.invokevirtual 139, 3) := by decide +kernel
theorem dX5_lastPaid_9 : decode cX5_lastPaid 9 = .ok (.aload_n 0, 1) := by decide +kernel
theorem dX5_lastPaid_10 : decode cX5_lastPaid 10 = .ok (.getfield 126, 3) := by decide +kernel
theorem dX5_lastPaid_13 : decode cX5_lastPaid 13 = .ok (.ireturn, 1) := by decide +kernel
theorem dJ9_max_7cf53_0 : decode cJ9_max_7cf53 0 = .ok (.iload_n 0, 1) := by decide +kernel
theorem dJ9_max_7cf53_1 : decode cJ9_max_7cf53 1 = .ok (.iload_n 1, 1) := by decide +kernel
theorem dJ9_max_7cf53_2 : decode cJ9_max_7cf53 2 = .ok (.if_icmp .lt 7, 3) := by decide +kernel
theorem dJ9_max_7cf53_5 : decode cJ9_max_7cf53 5 = .ok (.iload_n 0, 1) := by decide +kernel
theorem dJ9_max_7cf53_6 : decode cJ9_max_7cf53 6 = .ok (.goto 4, 3) := by decide +kernel
theorem dJ9_max_7cf53_9 : decode cJ9_max_7cf53 9 = .ok (.iload_n 1, 1) := by decide +kernel
theorem dJ9_max_7cf53_10 : decode cJ9_max_7cf53 10 = .ok (.ireturn, 1) := by decide +kernel
theorem dJ9_min_7cf53_0 : decode cJ9_min_7cf53 0 = .ok (.iload_n 0, 1) := by decide +kernel
theorem dJ9_min_7cf53_1 : decode cJ9_min_7cf53 1 = .ok (.iload_n 1, 1) := by decide +kernel
theorem dJ9_min_7cf53_2 : decode cJ9_min_7cf53 2 = .ok (.if_icmp .gt 7, 3) := by decide +kernel
theorem dJ9_min_7cf53_5 : decode cJ9_min_7cf53 5 = .ok (.iload_n 0, 1) := by decide +kernel
theorem dJ9_min_7cf53_6 : decode cJ9_min_7cf53 6 = .ok (.goto 4, 3) := by decide +kernel
theorem dJ9_min_7cf53_9 : decode cJ9_min_7cf53 9 = .ok (.iload_n 1, 1) := by decide +kernel
theorem dJ9_min_7cf53_10 : decode cJ9_min_7cf53 10 = .ok (.ireturn, 1) := by decide +kernel
