theorem dX1_init_0 : decode cX1_init 0 = .ok (.aload_n 0, 1) := by decide +kernel
theorem dX1_init_1 : decode cX1_init 1 = .ok (.invokespecial 3, 3) := by decide +kernel
theorem dX1_init_4 : decode cX1_init 4 = .ok (.aload_n 0, 1) := by decide +kernel
theorem dX1_init_5 : decode cX1_init 5 = .ok (.bipush 12, 2) := by decide +kernel
theorem dX1_init_7 : decode cX1_init 7 = .ok (.newarray .int, 2) := by decide +kernel
theorem dX1_init_9 : decode cX1_init 9 = .ok (.putfield 9, 3) := by decide +kernel
theorem dX1_init_12 : decode cX1_init 12 = .ok (.aload_n 0, 1) := by decide +kernel
theorem dX1_init_13 : decode cX1_init 13 = .ok (.bipush 8, 2) := by decide +kernel
theorem dX1_init_15 : decode cX1_init 15 = .ok (.newarray .int, 2) := by decide +kernel
theorem dX1_init_17 : decode cX1_init 17 = .ok (.putfield 15, 3) := by decide +kernel
theorem dX1_init_20 : decode cX1_init 20 = .ok (.aload_n 0, 1) := by decide +kernel
theorem dX1_init_21 : decode cX1_init 21 = .ok (.iconst 0, 1) := by decide +kernel
theorem dX1_init_22 : decode cX1_init 22 = .ok (.putfield 18, 3) := by decide +kernel
theorem dX1_init_25 : decode cX1_init 25 = .ok (.aload_n 0, 1) := by decide +kernel
theorem dX1_init_26 : decode cX1_init 26 = .ok (.iconst 0, 1) := by decide +kernel
theorem dX1_init_27 : decode cX1_init 27 = .ok (.putfield 22, 3) := by decide +kernel
theorem dX1_init_30 : decode cX1_init 30 = .ok (.aload_n 0, 1) := by decide +kernel
theorem dX1_init_31 : decode cX1_init 31 = .ok (.iconst (-1), 1) := by decide +kernel
theorem dX1_init_32 : decode cX1_init 32 = .ok (.putfield 25, 3) := by decide +kernel
theorem dX1_init_35 : decode cX1_init 35 = .ok (.aload_n 0, 1) := by decide +kernel
theorem dX1_init_36 : decode cX1_init 36 = .ok (.aload_n 1, 1) := by decide +kernel
theorem dX1_init_37 : decode cX1_init 37 = .ok (.putfield 28, 3) := by decide +kernel
theorem dX1_init_40 : decode cX1_init 40 = .ok (.return_, 1) := by decide +kernel
set_option maxRecDepth 20000 in
theorem ggX1_comeOneByOne_X1_weighWaysTo : GoodIn wsX1_comeOneByOne wsX1_weighWaysTo := goodIn_r _ [13, 1, 14, 7, 8, 2, 15, 16, 17, 18, 12, 19, 3, 20, 21, 22, 23, 24, 25, 26, 27, 28, 29, 30, 31, 32, 33, 42, 43, 44, 45, 46, 47, 48, 49, 50, 51, 52, 53, 54] (by decide +kernel) (by decide +kernel)
set_option maxRecDepth 20000 in
theorem gX1_comeOneByOne_X1_weighWaysTo : GoodIn wsX1_comeOneByOne (wsV RX1 37 RX1 yX1_weighWaysTo wsX1_weighWaysTo) := goodIn_app (goodIn_of _ (by decide +kernel)) ggX1_comeOneByOne_X1_weighWaysTo
set_option maxRecDepth 20000 in
theorem ggX1_comeOneByOne_X1_drive : GoodIn wsX1_comeOneByOne wsX1_drive := goodIn_r _ [37, 1, 14, 21, 3, 38, 39, 40, 12, 41, 2, 15, 7, 16, 17, 18, 19, 20, 8, 22, 23, 24, 25, 26, 27, 28, 29, 30, 31, 32, 33, 42, 43, 44, 45, 46, 47, 48, 49, 50, 51, 52, 53, 54] (by decide +kernel) (by decide +kernel)
set_option maxRecDepth 20000 in
theorem gX1_comeOneByOne_X1_drive : GoodIn wsX1_comeOneByOne (wsV RX1 42 RX1 yX1_drive wsX1_drive) := goodIn_app (goodIn_of _ (by decide +kernel)) ggX1_comeOneByOne_X1_drive
theorem dX1_comeOneByOne_0 : decode cX1_comeOneByOne 0 = .ok (.iconst 0, 1) := by decide +kernel
theorem dX1_comeOneByOne_1 : decode cX1_comeOneByOne 1 = .ok (.istore 4, 2) := by decide +kernel
theorem dX1_comeOneByOne_3 : decode cX1_comeOneByOne 3 = .ok (.iload 4, 2) := by decide +kernel
theorem dX1_comeOneByOne_5 : decode cX1_comeOneByOne 5 = .ok (.aload_n 0, 1) := by decide +kernel
theorem dX1_comeOneByOne_6 : decode cX1_comeOneByOne 6 = .ok (.getfield 28, 3) := by decide +kernel
theorem dX1_comeOneByOne_9 : decode cX1_comeOneByOne 9 = .ok (.getfield 32, 3) := by decide +kernel
theorem dX1_comeOneByOne_12 : decode cX1_comeOneByOne 12 = .ok (.if_icmp .ge 17, 3) := by decide +kernel
theorem dX1_comeOneByOne_15 : decode cX1_comeOneByOne 15 = .ok (.aload_n 0, 1) := by decide +kernel
theorem dX1_comeOneByOne_16 : decode cX1_comeOneByOne 16 = .ok (.getfield 9, 3) := by decide +kernel
theorem dX1_comeOneByOne_19 : decode cX1_comeOneByOne 19 = .ok (.iload 4, 2) := by decide +kernel
theorem dX1_comeOneByOne_21 : decode cX1_comeOneByOne 21 = .ok (.iconst 0, 1) := by decide +kernel
theorem dX1_comeOneByOne_22 : decode cX1_comeOneByOne 22 = .ok (.iastore, 1) := by decide +kernel
theorem dX1_comeOneByOne_23 : decode cX1_comeOneByOne 23 = .ok (.iinc 4 1, 3) := by decide +kernel
theorem dX1_comeOneByOne_26 : decode cX1_comeOneByOne 26 = .ok (.goto (-23), 3) := by decide +kernel
theorem dX1_comeOneByOne_29 : decode cX1_comeOneByOne 29 = .ok (.aload_n 0, 1) := by decide +kernel
theorem dX1_comeOneByOne_30 : decode cX1_comeOneByOne 30 = .ok (.iconst 0, 1) := by decide +kernel
theorem dX1_comeOneByOne_31 : decode cX1_comeOneByOne 31 = .ok (.putfield 18, 3) := by decide +kernel
theorem dX1_comeOneByOne_34 : decode cX1_comeOneByOne 34 = .ok (.aload_n 0, 1) := by decide +kernel
theorem dX1_comeOneByOne_35 : decode cX1_comeOneByOne 35 = .ok (.iconst 0, 1) := by decide +kernel
theorem dX1_comeOneByOne_36 : decode cX1_comeOneByOne 36 = .ok (.putfield 22, 3) := by decide +kernel
theorem dX1_comeOneByOne_39 : decode cX1_comeOneByOne 39 = .ok (.aload_n 0, 1) := by decide +kernel
theorem dX1_comeOneByOne_40 : decode cX1_comeOneByOne 40 = .ok (.iconst (-1), 1) := by decide +kernel
theorem dX1_comeOneByOne_41 : decode cX1_comeOneByOne 41 = .ok (.putfield 25, 3) := by decide +kernel
theorem dX1_comeOneByOne_44 : decode cX1_comeOneByOne 44 = .ok (.iconst 0, 1) := by decide +kernel
theorem dX1_comeOneByOne_45 : decode cX1_comeOneByOne 45 = .ok (.istore 4, 2) := by decide +kernel
theorem dX1_comeOneByOne_47 : decode cX1_comeOneByOne 47 = .ok (.iload 4, 2) := by decide +kernel
theorem dX1_comeOneByOne_49 : decode cX1_comeOneByOne 49 = .ok (.iload_n 3, 1) := by decide +kernel
theorem dX1_comeOneByOne_50 : decode cX1_comeOneByOne 50 = .ok (.if_icmp .ge 59, 3) := by decide +kernel
theorem dX1_comeOneByOne_53 : decode cX1_comeOneByOne 53 = .ok (.aload_n 0, 1) := by decide +kernel
theorem dX1_comeOneByOne_54 : decode cX1_comeOneByOne 54 = .ok (.iload_n 2, 1) := by decide +kernel
theorem dX1_comeOneByOne_55 : decode cX1_comeOneByOne 55 = .ok (.invokevirtual 37, 3) := by decide +kernel
theorem dX1_comeOneByOne_58 : decode cX1_comeOneByOne 58 = .ok (.aload_n 0, 1) := by decide +kernel
theorem dX1_comeOneByOne_59 : decode cX1_comeOneByOne 59 = .ok (.getfield 15, 3) := by decide +kernel
theorem dX1_comeOneByOne_62 : decode cX1_comeOneByOne 62 = .ok (.iload_n 1, 1) := by decide +kernel
theorem dX1_comeOneByOne_63 : decode cX1_comeOneByOne 63 = .ok (.iaload, 1) := by decide +kernel
theorem dX1_comeOneByOne_64 : decode cX1_comeOneByOne 64 = .ok (.ldc 41, 2) := by decide +kernel
theorem dX1_comeOneByOne_66 : decode cX1_comeOneByOne 66 = .ok (.if_icmp .lt 4, 3) := by decide +kernel
theorem dX1_comeOneByOne_69 : decode cX1_comeOneByOne 69 = .ok (.return_, 1) := by decide +kernel
theorem dX1_comeOneByOne_70 : decode cX1_comeOneByOne 70 = .ok (.aload_n 0, 1) := by decide +kernel
theorem dX1_comeOneByOne_71 : decode cX1_comeOneByOne 71 = .ok (.aload_n 0, 1) := by decide +kernel
theorem dX1_comeOneByOne_72 : decode cX1_comeOneByOne 72 = .ok (.iload_n 1, 1) := by decide +kernel
theorem dX1_comeOneByOne_73 : decode cX1_comeOneByOne 73 = .ok (.iload_n 2, 1) := by decide +kernel
theorem dX1_comeOneByOne_74 : decode cX1_comeOneByOne 74 = .ok (.invokevirtual 42, 3) := by decide +kernel
theorem dX1_comeOneByOne_77 : decode cX1_comeOneByOne 77 = .ok (.putfield 25, 3) := by decide +kernel
theorem dX1_comeOneByOne_80 : decode cX1_comeOneByOne 80 = .ok (.aload_n 0, 1) := by decide +kernel
theorem dX1_comeOneByOne_81 : decode cX1_comeOneByOne 81 = .ok (.dup, 1) := by decide +kernel
theorem dX1_comeOneByOne_82 : decode cX1_comeOneByOne 82 = .ok (.getfield 22, 3) := by decide +kernel
theorem dX1_comeOneByOne_85 : decode cX1_comeOneByOne 85 = .ok (.aload_n 0, 1) := by decide +kernel
theorem dX1_comeOneByOne_86 : decode cX1_comeOneByOne 86 = .ok (.getfield 25, 3) := by decide +kernel
theorem dX1_comeOneByOne_89 : decode cX1_comeOneByOne 89 = .ok (.iadd, 1) := by decide +kernel
theorem dX1_comeOneByOne_90 : decode cX1_comeOneByOne 90 = .ok (.putfield 22, 3) := by decide +kernel
theorem dX1_comeOneByOne_93 : decode cX1_comeOneByOne 93 = .ok (.aload_n 0, 1) := by decide +kernel
theorem dX1_comeOneByOne_94 : decode cX1_comeOneByOne 94 = .ok (.dup, 1) := by decide +kernel
theorem dX1_comeOneByOne_95 : decode cX1_comeOneByOne 95 = .ok (.getfield 18, 3) := by decide +kernel
theorem dX1_comeOneByOne_98 : decode cX1_comeOneByOne 98 = .ok (.iconst 1, 1) := by decide +kernel
theorem dX1_comeOneByOne_99 : decode cX1_comeOneByOne 99 = .ok (.iadd, 1) := by decide +kernel
theorem dX1_comeOneByOne_100 : decode cX1_comeOneByOne 100 = .ok (.putfield 18, 3) := by decide +kernel
theorem dX1_comeOneByOne_103 : decode cX1_comeOneByOne 103 = .ok (.iinc 4 1, 3) := by decide +kernel
theorem dX1_comeOneByOne_106 : decode cX1_comeOneByOne 106 = .ok (.goto (-59), 3) := by decide +kernel
theorem dX1_comeOneByOne_109 : decode cX1_comeOneByOne 109 = .ok (.return_, 1) := by decide +kernel
set_option maxRecDepth 20000 in
theorem ggX1_weighWaysTo_X1_weightBy : GoodIn wsX1_weighWaysTo wsX1_weightBy := goodIn_r _ [11, 12, 1, 13, 3, 14, 4, 15, 16, 17, 10, 18, 19, 20, 21, 22, 23, 24, 25, 26, 27, 28, 29, 30, 31, 32, 33, 34, 35, 36, 37, 38, 39] (by decide +kernel) (by decide +kernel)
set_option maxRecDepth 20000 in
theorem gX1_weighWaysTo_X1_weightBy : GoodIn wsX1_weighWaysTo (wsV RX1 49 RX1 yX1_weightBy wsX1_weightBy) := goodIn_app (goodIn_of _ (by decide +kernel)) ggX1_weighWaysTo_X1_weightBy
theorem dX1_weighWaysTo_0 : decode cX1_weighWaysTo 0 = .ok (.iconst 0, 1) := by decide +kernel
theorem dX1_weighWaysTo_1 : decode cX1_weighWaysTo 1 = .ok (.istore_n 2, 1) := by decide +kernel
theorem dX1_weighWaysTo_2 : decode cX1_weighWaysTo 2 = .ok (.iload_n 2, 1) := by decide +kernel
theorem dX1_weighWaysTo_3 : decode cX1_weighWaysTo 3 = .ok (.aload_n 0, 1) := by decide +kernel
theorem dX1_weighWaysTo_4 : decode cX1_weighWaysTo 4 = .ok (.getfield 28, 3) := by decide +kernel
theorem dX1_weighWaysTo_7 : decode cX1_weighWaysTo 7 = .ok (.getfield 46, 3) := by decide +kernel
theorem dX1_weighWaysTo_10 : decode cX1_weighWaysTo 10 = .ok (.if_icmp .ge 26, 3) := by decide +kernel
theorem dX1_weighWaysTo_13 : decode cX1_weighWaysTo 13 = .ok (.aload_n 0, 1) := by decide +kernel
theorem dX1_weighWaysTo_14 : decode cX1_weighWaysTo 14 = .ok (.getfield 15, 3) := by decide +kernel
theorem dX1_weighWaysTo_17 : decode cX1_weighWaysTo 17 = .ok (.iload_n 2, 1) := by decide +kernel
theorem dX1_weighWaysTo_18 : decode cX1_weighWaysTo 18 = .ok (.iload_n 2, 1) := by decide +kernel
theorem dX1_weighWaysTo_19 : decode cX1_weighWaysTo 19 = .ok (.iload_n 1, 1) := by decide +kernel
theorem dX1_weighWaysTo_20 : decode cX1_weighWaysTo 20 = .ok (.if_icmp .ne 7, 3) := by decide +kernel
theorem dX1_weighWaysTo_23 : decode cX1_weighWaysTo 23 = .ok (.iconst 0, 1) := by decide +kernel
theorem dX1_weighWaysTo_24 : decode cX1_weighWaysTo 24 = .ok (.goto 5, 3) := by decide +kernel
theorem dX1_weighWaysTo_27 : decode cX1_weighWaysTo 27 = .ok (.ldc 41, 2) := by decide +kernel
theorem dX1_weighWaysTo_29 : decode cX1_weighWaysTo 29 = .ok (.iastore, 1) := by decide +kernel
theorem dX1_weighWaysTo_30 : decode cX1_weighWaysTo 30 = .ok (.iinc 2 1, 3) := by decide +kernel
theorem dX1_weighWaysTo_33 : decode cX1_weighWaysTo 33 = .ok (.goto (-31), 3) := by decide +kernel
theorem dX1_weighWaysTo_36 : decode cX1_weighWaysTo 36 = .ok (.iconst 1, 1) := by decide +kernel
theorem dX1_weighWaysTo_37 : decode cX1_weighWaysTo 37 = .ok (.istore_n 2, 1) := by decide +kernel
theorem dX1_weighWaysTo_38 : decode cX1_weighWaysTo 38 = .ok (.iconst 0, 1) := by decide +kernel
theorem dX1_weighWaysTo_39 : decode cX1_weighWaysTo 39 = .ok (.istore_n 3, 1) := by decide +kernel
theorem dX1_weighWaysTo_40 : decode cX1_weighWaysTo 40 = .ok (.iload_n 3, 1) := by decide +kernel
theorem dX1_weighWaysTo_41 : decode cX1_weighWaysTo 41 = .ok (.aload_n 0, 1) := by decide +kernel
theorem dX1_weighWaysTo_42 : decode cX1_weighWaysTo 42 = .ok (.getfield 28, 3) := by decide +kernel
theorem dX1_weighWaysTo_45 : decode cX1_weighWaysTo 45 = .ok (.getfield 46, 3) := by decide +kernel
theorem dX1_weighWaysTo_48 : decode cX1_weighWaysTo 48 = .ok (.if_icmp .ge 83, 3) := by decide +kernel
theorem dX1_weighWaysTo_51 : decode cX1_weighWaysTo 51 = .ok (.iload_n 2, 1) := by decide +kernel
theorem dX1_weighWaysTo_52 : decode cX1_weighWaysTo 52 = .ok (.ifCond .eq 79, 3) := by decide +kernel
theorem dX1_weighWaysTo_55 : decode cX1_weighWaysTo 55 = .ok (.iconst 0, 1) := by decide +kernel
theorem dX1_weighWaysTo_56 : decode cX1_weighWaysTo 56 = .ok (.istore_n 2, 1) := by decide +kernel
theorem dX1_weighWaysTo_57 : decode cX1_weighWaysTo 57 = .ok (.iconst 0, 1) := by decide +kernel
theorem dX1_weighWaysTo_58 : decode cX1_weighWaysTo 58 = .ok (.istore 4, 2) := by decide +kernel
theorem dX1_weighWaysTo_60 : decode cX1_weighWaysTo 60 = .ok (.iload 4, 2) := by decide +kernel
theorem dX1_weighWaysTo_62 : decode cX1_weighWaysTo 62 = .ok (.aload_n 0, 1) := by decide +kernel
theorem dX1_weighWaysTo_63 : decode cX1_weighWaysTo 63 = .ok (.getfield 28, 3) := by decide +kernel
theorem dX1_weighWaysTo_66 : decode cX1_weighWaysTo 66 = .ok (.getfield 32, 3) := by decide +kernel
theorem dX1_weighWaysTo_69 : decode cX1_weighWaysTo 69 = .ok (.if_icmp .ge 56, 3) := by decide +kernel
theorem dX1_weighWaysTo_72 : decode cX1_weighWaysTo 72 = .ok (.aload_n 0, 1) := by decide +kernel
theorem dX1_weighWaysTo_73 : decode cX1_weighWaysTo 73 = .ok (.iload 4, 2) := by decide +kernel
theorem dX1_weighWaysTo_75 : decode cX1_weighWaysTo 75 = .ok (.invokevirtual 49, 3) := by decide +kernel
theorem dX1_weighWaysTo_78 : decode cX1_weighWaysTo 78 = .ok (.istore 5, 2) := by decide +kernel
theorem dX1_weighWaysTo_80 : decode cX1_weighWaysTo 80 = .ok (.iload 5, 2) := by decide +kernel
theorem dX1_weighWaysTo_82 : decode cX1_weighWaysTo 82 = .ok (.aload_n 0, 1) := by decide +kernel
theorem dX1_weighWaysTo_83 : decode cX1_weighWaysTo 83 = .ok (.getfield 15, 3) := by decide +kernel
theorem dX1_weighWaysTo_86 : decode cX1_weighWaysTo 86 = .ok (.aload_n 0, 1) := by decide +kernel
theorem dX1_weighWaysTo_87 : decode cX1_weighWaysTo 87 = .ok (.getfield 28, 3) := by decide +kernel
theorem dX1_weighWaysTo_90 : decode cX1_weighWaysTo 90 = .ok (.getfield 53, 3) := by decide +kernel
theorem dX1_weighWaysTo_93 : decode cX1_weighWaysTo 93 = .ok (.iload 4, 2) := by decide +kernel
theorem dX1_weighWaysTo_95 : decode cX1_weighWaysTo 95 = .ok (.iaload, 1) := by decide +kernel
theorem dX1_weighWaysTo_96 : decode cX1_weighWaysTo 96 = .ok (.iaload, 1) := by decide +kernel
theorem dX1_weighWaysTo_97 : decode cX1_weighWaysTo 97 = .ok (.if_icmp .ge 22, 3) := by decide +kernel
theorem dX1_weighWaysTo_100 : decode cX1_weighWaysTo 100 = .ok (.aload_n 0, 1) := by decide +kernel
theorem dX1_weighWaysTo_101 : decode cX1_weighWaysTo 101 = .ok (.getfield 15, 3) := by decide +kernel
theorem dX1_weighWaysTo_104 : decode cX1_weighWaysTo 104 = .ok (.aload_n 0, 1) := by decide +kernel
theorem dX1_weighWaysTo_105 : decode cX1_weighWaysTo 105 = .ok (.getfield 28, 3) := by decide +kernel
theorem dX1_weighWaysTo_108 : decode cX1_weighWaysTo 108 = .ok (.getfield 53, 3) := by decide +kernel
theorem dX1_weighWaysTo_111 : decode cX1_weighWaysTo 111 = .ok (.iload 4, 2) := by decide +kernel
theorem dX1_weighWaysTo_113 : decode cX1_weighWaysTo 113 = .ok (.iaload, 1) := by decide +kernel
theorem dX1_weighWaysTo_114 : decode cX1_weighWaysTo 114 = .ok (.iload 5, 2) := by decide +kernel
theorem dX1_weighWaysTo_116 : decode cX1_weighWaysTo 116 = .ok (.iastore, 1) := by decide +kernel
theorem dX1_weighWaysTo_117 : decode cX1_weighWaysTo 117 = .ok (.iconst 1, 1) := by decide +kernel
theorem dX1_weighWaysTo_118 : decode cX1_weighWaysTo 118 = .ok (.istore_n 2, 1) := by decide +kernel
theorem dX1_weighWaysTo_119 : decode cX1_weighWaysTo 119 = .ok (.iinc 4 1, 3) := by decide +kernel
theorem dX1_weighWaysTo_122 : decode cX1_weighWaysTo 122 = .ok (.goto (-62), 3) := by decide +kernel
theorem dX1_weighWaysTo_125 : decode cX1_weighWaysTo 125 = .ok (.iinc 3 1, 3) := by decide +kernel
theorem dX1_weighWaysTo_128 : decode cX1_weighWaysTo 128 = .ok (.goto (-88), 3) := by decide +kernel
theorem dX1_weighWaysTo_131 : decode cX1_weighWaysTo 131 = .ok (.return_, 1) := by decide +kernel
set_option maxRecDepth 20000 in
theorem ggX1_weightBy_X1_nextPrice : GoodIn wsX1_weightBy wsX1_nextPrice := goodIn_r _ [11, 2, 1, 12, 13, 14, 15, 16, 17, 18, 19, 20, 21, 22, 23, 24, 25, 26, 27, 28, 29, 30, 31, 32] (by decide +kernel) (by decide +kernel)
set_option maxRecDepth 20000 in
theorem gX1_weightBy_X1_nextPrice : GoodIn wsX1_weightBy (wsV RX1 62 RX1 yX1_nextPrice wsX1_nextPrice) := goodIn_app (goodIn_of _ (by decide +kernel)) ggX1_weightBy_X1_nextPrice
theorem dX1_weightBy_0 : decode cX1_weightBy 0 = .ok (.aload_n 0, 1) := by decide +kernel
theorem dX1_weightBy_1 : decode cX1_weightBy 1 = .ok (.getfield 9, 3) := by decide +kernel
theorem dX1_weightBy_4 : decode cX1_weightBy 4 = .ok (.iload_n 1, 1) := by decide +kernel
theorem dX1_weightBy_5 : decode cX1_weightBy 5 = .ok (.iaload, 1) := by decide +kernel
theorem dX1_weightBy_6 : decode cX1_weightBy 6 = .ok (.aload_n 0, 1) := by decide +kernel
theorem dX1_weightBy_7 : decode cX1_weightBy 7 = .ok (.getfield 28, 3) := by decide +kernel
theorem dX1_weightBy_10 : decode cX1_weightBy 10 = .ok (.getfield 56, 3) := by decide +kernel
theorem dX1_weightBy_13 : decode cX1_weightBy 13 = .ok (.iload_n 1, 1) := by decide +kernel
theorem dX1_weightBy_14 : decode cX1_weightBy 14 = .ok (.iaload, 1) := by decide +kernel
theorem dX1_weightBy_15 : decode cX1_weightBy 15 = .ok (.if_icmp .ge 22, 3) := by decide +kernel
theorem dX1_weightBy_18 : decode cX1_weightBy 18 = .ok (.aload_n 0, 1) := by decide +kernel
theorem dX1_weightBy_19 : decode cX1_weightBy 19 = .ok (.getfield 15, 3) := by decide +kernel
theorem dX1_weightBy_22 : decode cX1_weightBy 22 = .ok (.aload_n 0, 1) := by decide +kernel
theorem dX1_weightBy_23 : decode cX1_weightBy 23 = .ok (.getfield 28, 3) := by decide +kernel
theorem dX1_weightBy_26 : decode cX1_weightBy 26 = .ok (.getfield 59, 3) := by decide +kernel
theorem dX1_weightBy_29 : decode cX1_weightBy 29 = .ok (.iload_n 1, 1) := by decide +kernel
theorem dX1_weightBy_30 : decode cX1_weightBy 30 = .ok (.iaload, 1) := by decide +kernel
theorem dX1_weightBy_31 : decode cX1_weightBy 31 = .ok (.iaload, 1) := by decide +kernel
theorem dX1_weightBy_32 : decode cX1_weightBy 32 = .ok (.ldc 41, 2) := by decide +kernel
theorem dX1_weightBy_34 : decode cX1_weightBy 34 = .ok (.if_icmp .lt 6, 3) := by decide +kernel
theorem dX1_weightBy_37 : decode cX1_weightBy 37 = .ok (.ldc 41, 2) := by decide +kernel
theorem dX1_weightBy_39 : decode cX1_weightBy 39 = .ok (.ireturn, 1) := by decide +kernel
theorem dX1_weightBy_40 : decode cX1_weightBy 40 = .ok (.aload_n 0, 1) := by decide +kernel
theorem dX1_weightBy_41 : decode cX1_weightBy 41 = .ok (.iload_n 1, 1) := by decide +kernel
theorem dX1_weightBy_42 : decode cX1_weightBy 42 = .ok (.invokevirtual 62, 3) := by decide +kernel
theorem dX1_weightBy_45 : decode cX1_weightBy 45 = .ok (.bipush 16, 2) := by decide +kernel
theorem dX1_weightBy_47 : decode cX1_weightBy 47 = .ok (.imul, 1) := by decide +kernel
theorem dX1_weightBy_48 : decode cX1_weightBy 48 = .ok (.iconst 1, 1) := by decide +kernel
theorem dX1_weightBy_49 : decode cX1_weightBy 49 = .ok (.iadd, 1) := by decide +kernel
theorem dX1_weightBy_50 : decode cX1_weightBy 50 = .ok (.aload_n 0, 1) := by decide +kernel
theorem dX1_weightBy_51 : decode cX1_weightBy 51 = .ok (.getfield 15, 3) := by decide +kernel
theorem dX1_weightBy_54 : decode cX1_weightBy 54 = .ok (.aload_n 0, 1) := by decide +kernel
theorem dX1_weightBy_55 : decode cX1_weightBy 55 = .ok (.getfield 28, 3) := by decide +kernel
theorem dX1_weightBy_58 : decode cX1_weightBy 58 = .ok (.getfield 59, 3) := by decide +kernel
theorem dX1_weightBy_61 : decode cX1_weightBy 61 = .ok (.iload_n 1, 1) := by decide +kernel
theorem dX1_weightBy_62 : decode cX1_weightBy 62 = .ok (.iaload, 1) := by decide +kernel
theorem dX1_weightBy_63 : decode cX1_weightBy 63 = .ok (.iaload, 1) := by decide +kernel
theorem dX1_weightBy_64 : decode cX1_weightBy 64 = .ok (.iadd, 1) := by decide +kernel
theorem dX1_weightBy_65 : decode cX1_weightBy 65 = .ok (.ireturn, 1) := by decide +kernel
set_option maxRecDepth 20000 in
theorem ggX1_drive_X1_bestArcFrom : GoodIn wsX1_drive wsX1_bestArcFrom := goodIn_r _ [9, 1, 10, 11, 12, 13, 14, 15, 8, 16, 4, 17, 3, 18, 19, 20, 21, 22, 23, 24, 25, 26, 27, 28, 29, 30, 31, 32, 33, 34, 35, 36, 37, 38, 39, 40, 41, 42, 43] (by decide +kernel) (by decide +kernel)
set_option maxRecDepth 20000 in
theorem gX1_drive_X1_bestArcFrom : GoodIn wsX1_drive (wsV RX1 65 RX1 yX1_bestArcFrom wsX1_bestArcFrom) := goodIn_app (goodIn_of _ (by decide +kernel)) ggX1_drive_X1_bestArcFrom
set_option maxRecDepth 20000 in
theorem ggX1_drive_X1_nextPrice : GoodIn wsX1_drive wsX1_nextPrice := goodIn_r _ [22, 1, 4, 23, 24, 25, 26, 27, 28, 29, 30, 31, 32, 33, 34, 35, 36, 37, 38, 39, 40, 41, 42, 43] (by decide +kernel) (by decide +kernel)
set_option maxRecDepth 20000 in
theorem gX1_drive_X1_nextPrice : GoodIn wsX1_drive (wsV RX1 62 RX1 yX1_nextPrice wsX1_nextPrice) := goodIn_app (goodIn_of _ (by decide +kernel)) ggX1_drive_X1_nextPrice
theorem dX1_drive_0 : decode cX1_drive 0 = .ok (.iconst 0, 1) := by decide +kernel
theorem dX1_drive_1 : decode cX1_drive 1 = .ok (.istore_n 3, 1) := by decide +kernel
theorem dX1_drive_2 : decode cX1_drive 2 = .ok (.iload_n 1, 1) := by decide +kernel
theorem dX1_drive_3 : decode cX1_drive 3 = .ok (.istore 4, 2) := by decide +kernel
theorem dX1_drive_5 : decode cX1_drive 5 = .ok (.iconst 0, 1) := by decide +kernel
theorem dX1_drive_6 : decode cX1_drive 6 = .ok (.istore 5, 2) := by decide +kernel
theorem dX1_drive_8 : decode cX1_drive 8 = .ok (.iload 5, 2) := by decide +kernel
theorem dX1_drive_10 : decode cX1_drive 10 = .ok (.aload_n 0, 1) := by decide +kernel
theorem dX1_drive_11 : decode cX1_drive 11 = .ok (.getfield 28, 3) := by decide +kernel
theorem dX1_drive_14 : decode cX1_drive 14 = .ok (.getfield 46, 3) := by decide +kernel
theorem dX1_drive_17 : decode cX1_drive 17 = .ok (.if_icmp .ge 63, 3) := by decide +kernel
theorem dX1_drive_20 : decode cX1_drive 20 = .ok (.iload 4, 2) := by decide +kernel
theorem dX1_drive_22 : decode cX1_drive 22 = .ok (.iload_n 2, 1) := by decide +kernel
theorem dX1_drive_23 : decode cX1_drive 23 = .ok (.if_icmp .eq 57, 3) := by decide +kernel
theorem dX1_drive_26 : decode cX1_drive 26 = .ok (.aload_n 0, 1) := by decide +kernel
theorem dX1_drive_27 : decode cX1_drive 27 = .ok (.iload 4, 2) := by decide +kernel
theorem dX1_drive_29 : decode cX1_drive 29 = .ok (.invokevirtual 65, 3) := by decide +kernel
theorem dX1_drive_32 : decode cX1_drive 32 = .ok (.istore 6, 2) := by decide +kernel
theorem dX1_drive_34 : decode cX1_drive 34 = .ok (.iload 6, 2) := by decide +kernel
theorem dX1_drive_36 : decode cX1_drive 36 = .ok (.iconst (-1), 1) := by decide +kernel
theorem dX1_drive_37 : decode cX1_drive 37 = .ok (.if_icmp .ne 5, 3) := by decide +kernel
theorem dX1_drive_40 : decode cX1_drive 40 = .ok (.iload_n 3, 1) := by decide +kernel
theorem dX1_drive_41 : decode cX1_drive 41 = .ok (.ireturn, 1) := by decide +kernel
theorem dX1_drive_42 : decode cX1_drive 42 = .ok (.iload_n 3, 1) := by decide +kernel
theorem dX1_drive_43 : decode cX1_drive 43 = .ok (.aload_n 0, 1) := by decide +kernel
theorem dX1_drive_44 : decode cX1_drive 44 = .ok (.iload 6, 2) := by decide +kernel
theorem dX1_drive_46 : decode cX1_drive 46 = .ok (.invokevirtual 62, 3) := by decide +kernel
theorem dX1_drive_49 : decode cX1_drive 49 = .ok (.iadd, 1) := by decide +kernel
theorem dX1_drive_50 : decode cX1_drive 50 = .ok (.istore_n 3, 1) := by decide +kernel
theorem dX1_drive_51 : decode cX1_drive 51 = .ok (.aload_n 0, 1) := by decide +kernel
theorem dX1_drive_52 : decode cX1_drive 52 = .ok (.getfield 28, 3) := by decide +kernel
theorem dX1_drive_55 : decode cX1_drive 55 = .ok (.getfield 59, 3) := by decide +kernel
theorem dX1_drive_58 : decode cX1_drive 58 = .ok (.iload 6, 2) := by decide +kernel
theorem dX1_drive_60 : decode cX1_drive 60 = .ok (.iaload, 1) := by decide +kernel
theorem dX1_drive_61 : decode cX1_drive 61 = .ok (.istore 4, 2) := by decide +kernel
theorem dX1_drive_63 : decode cX1_drive 63 = .ok (.aload_n 0, 1) := by decide +kernel
theorem dX1_drive_64 : decode cX1_drive 64 = .ok (.getfield 9, 3) := by decide +kernel
theorem dX1_drive_67 : decode cX1_drive 67 = .ok (.iload 6, 2) := by decide +kernel
theorem dX1_drive_69 : decode cX1_drive 69 = .ok (.dup2, 1) := by decide +kernel
theorem dX1_drive_70 : decode cX1_drive 70 = .ok (.iaload, 1) := by decide +kernel
theorem dX1_drive_71 : decode cX1_drive 71 = .ok (.iconst 1, 1) := by decide +kernel
theorem dX1_drive_72 : decode cX1_drive 72 = .ok (.iadd, 1) := by decide +kernel
theorem dX1_drive_73 : decode cX1_drive 73 = .ok (.iastore, 1) := by decide +kernel
theorem dX1_drive_74 : decode cX1_drive 74 = .ok (.iinc 5 1, 3) := by decide +kernel
theorem dX1_drive_77 : decode cX1_drive 77 = .ok (.goto (-69), 3) := by decide +kernel
theorem dX1_drive_80 : decode cX1_drive 80 = .ok (.iload_n 3, 1) := by decide +kernel
theorem dX1_drive_81 : decode cX1_drive 81 = .ok (.ireturn, 1) := by decide +kernel
set_option maxRecDepth 20000 in
theorem ggX1_bestArcFrom_X1_weightBy : GoodIn wsX1_bestArcFrom wsX1_weightBy := goodIn_r _ [9, 10, 1, 11, 4, 12, 13, 14, 15, 16, 8, 17, 18, 19, 20, 21, 22, 23, 24, 25, 26, 27, 28, 29, 30, 31, 32, 33, 34, 35, 36, 37, 38] (by decide +kernel) (by decide +kernel)
set_option maxRecDepth 20000 in
theorem gX1_bestArcFrom_X1_weightBy : GoodIn wsX1_bestArcFrom (wsV RX1 49 RX1 yX1_weightBy wsX1_weightBy) := goodIn_app (goodIn_of _ (by decide +kernel)) ggX1_bestArcFrom_X1_weightBy
theorem dX1_bestArcFrom_0 : decode cX1_bestArcFrom 0 = .ok (.iconst 0, 1) := by decide +kernel
theorem dX1_bestArcFrom_1 : decode cX1_bestArcFrom 1 = .ok (.istore_n 2, 1) := by decide +kernel
theorem dX1_bestArcFrom_2 : decode cX1_bestArcFrom 2 = .ok (.iload_n 2, 1) := by decide +kernel
theorem dX1_bestArcFrom_3 : decode cX1_bestArcFrom 3 = .ok (.aload_n 0, 1) := by decide +kernel
theorem dX1_bestArcFrom_4 : decode cX1_bestArcFrom 4 = .ok (.getfield 28, 3) := by decide +kernel
theorem dX1_bestArcFrom_7 : decode cX1_bestArcFrom 7 = .ok (.getfield 32, 3) := by decide +kernel
theorem dX1_bestArcFrom_10 : decode cX1_bestArcFrom 10 = .ok (.if_icmp .ge 38, 3) := by decide +kernel
theorem dX1_bestArcFrom_13 : decode cX1_bestArcFrom 13 = .ok (.aload_n 0, 1) := by decide +kernel
theorem dX1_bestArcFrom_14 : decode cX1_bestArcFrom 14 = .ok (.getfield 28, 3) := by decide +kernel
theorem dX1_bestArcFrom_17 : decode cX1_bestArcFrom 17 = .ok (.getfield 53, 3) := by decide +kernel
theorem dX1_bestArcFrom_20 : decode cX1_bestArcFrom 20 = .ok (.iload_n 2, 1) := by decide +kernel
theorem dX1_bestArcFrom_21 : decode cX1_bestArcFrom 21 = .ok (.iaload, 1) := by decide +kernel
theorem dX1_bestArcFrom_22 : decode cX1_bestArcFrom 22 = .ok (.iload_n 1, 1) := by decide +kernel
theorem dX1_bestArcFrom_23 : decode cX1_bestArcFrom 23 = .ok (.if_icmp .ne 19, 3) := by decide +kernel
theorem dX1_bestArcFrom_26 : decode cX1_bestArcFrom 26 = .ok (.aload_n 0, 1) := by decide +kernel
theorem dX1_bestArcFrom_27 : decode cX1_bestArcFrom 27 = .ok (.iload_n 2, 1) := by decide +kernel
theorem dX1_bestArcFrom_28 : decode cX1_bestArcFrom 28 = .ok (.invokevirtual 49, 3) := by decide +kernel
theorem dX1_bestArcFrom_31 : decode cX1_bestArcFrom 31 = .ok (.aload_n 0, 1) := by decide +kernel
theorem dX1_bestArcFrom_32 : decode cX1_bestArcFrom 32 = .ok (.getfield 15, 3) := by decide +kernel
theorem dX1_bestArcFrom_35 : decode cX1_bestArcFrom 35 = .ok (.iload_n 1, 1) := by decide +kernel
theorem dX1_bestArcFrom_36 : decode cX1_bestArcFrom 36 = .ok (.iaload, 1) := by decide +kernel
theorem dX1_bestArcFrom_37 : decode cX1_bestArcFrom 37 = .ok (.if_icmp .ne 5, 3) := by decide +kernel
theorem dX1_bestArcFrom_40 : decode cX1_bestArcFrom 40 = .ok (.iload_n 2, 1) := by decide +kernel
theorem dX1_bestArcFrom_41 : decode cX1_bestArcFrom 41 = .ok (.ireturn, 1) := by decide +kernel
theorem dX1_bestArcFrom_42 : decode cX1_bestArcFrom 42 = .ok (.iinc 2 1, 3) := by decide +kernel
theorem dX1_bestArcFrom_45 : decode cX1_bestArcFrom 45 = .ok (.goto (-43), 3) := by decide +kernel
theorem dX1_bestArcFrom_48 : decode cX1_bestArcFrom 48 = .ok (.iconst (-1), 1) := by decide +kernel
theorem dX1_bestArcFrom_49 : decode cX1_bestArcFrom 49 = .ok (.ireturn, 1) := by decide +kernel
set_option maxRecDepth 20000 in
theorem ggX1_nextPrice_X2_unitPrice : GoodIn wsX1_nextPrice wsX2_unitPrice := goodIn_r _ [7, 8, 9, 10, 17, 18, 19, 20, 21, 22, 23] (by decide +kernel) (by decide +kernel)
set_option maxRecDepth 20000 in
theorem gX1_nextPrice_X2_unitPrice : GoodIn wsX1_nextPrice (wsV RX1 68 RX2 yX2_unitPrice wsX2_unitPrice) := goodIn_app (goodIn_of _ (by decide +kernel)) ggX1_nextPrice_X2_unitPrice
theorem dX1_nextPrice_0 : decode cX1_nextPrice 0 = .ok (.aload_n 0, 1) := by decide +kernel
theorem dX1_nextPrice_1 : decode cX1_nextPrice 1 = .ok (.getfield 28, 3) := by decide +kernel
theorem dX1_nextPrice_4 : decode cX1_nextPrice 4 = .ok (.iload_n 1, 1) := by decide +kernel
theorem dX1_nextPrice_5 : decode cX1_nextPrice 5 = .ok (.aload_n 0, 1) := by decide +kernel
theorem dX1_nextPrice_6 : decode cX1_nextPrice 6 = .ok (.getfield 9, 3) := by decide +kernel
theorem dX1_nextPrice_9 : decode cX1_nextPrice 9 = .ok (.iload_n 1, 1) := by decide +kernel
theorem dX1_nextPrice_10 : decode cX1_nextPrice 10 = .ok (.iaload, 1) := by decide +kernel
theorem dX1_nextPrice_11 : decode cX1_nextPrice 11 = .ok (.iconst 1, 1) := by decide +kernel
theorem dX1_nextPrice_12 : decode cX1_nextPrice 12 = .ok (.iadd, 1) := by decide +kernel
theorem dX1_nextPrice_13 : decode cX1_nextPrice 13 = .ok (.invokevirtual 68, 3) := by decide +kernel
theorem dX1_nextPrice_16 : decode cX1_nextPrice 16 = .ok (.ireturn, 1) := by decide +kernel
