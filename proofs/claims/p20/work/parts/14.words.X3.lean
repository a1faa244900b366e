theorem dX3_init_0 : decode cX3_init 0 = .ok (.aload_n 0, 1) := by decide +kernel
theorem dX3_init_1 : decode cX3_init 1 = .ok (.invokespecial 3, 3) := by decide +kernel
theorem dX3_init_4 : decode cX3_init 4 = .ok (.aload_n 0, 1) := by decide +kernel
theorem dX3_init_5 : decode cX3_init 5 = .ok (.sipush 180, 3) := by decide +kernel
theorem dX3_init_8 : decode cX3_init 8 = .ok (.newarray .boolean, 2) := by decide +kernel
theorem dX3_init_10 : decode cX3_init 10 = .ok (.putfield 9, 3) := by decide +kernel
theorem dX3_init_13 : decode cX3_init 13 = .ok (.aload_n 0, 1) := by decide +kernel
theorem dX3_init_14 : decode cX3_init 14 = .ok (.bipush 8, 2) := by decide +kernel
theorem dX3_init_16 : decode cX3_init 16 = .ok (.newarray .int, 2) := by decide +kernel
theorem dX3_init_18 : decode cX3_init 18 = .ok (.putfield 15, 3) := by decide +kernel
theorem dX3_init_21 : decode cX3_init 21 = .ok (.aload_n 0, 1) := by decide +kernel
theorem dX3_init_22 : decode cX3_init 22 = .ok (.bipush 8, 2) := by decide +kernel
theorem dX3_init_24 : decode cX3_init 24 = .ok (.newarray .int, 2) := by decide +kernel
theorem dX3_init_26 : decode cX3_init 26 = .ok (.putfield 19, 3) := by decide +kernel
theorem dX3_init_29 : decode cX3_init 29 = .ok (.aload_n 0, 1) := by decide +kernel
theorem dX3_init_30 : decode cX3_init 30 = .ok (.aload_n 1, 1) := by decide +kernel
theorem dX3_init_31 : decode cX3_init 31 = .ok (.putfield 22, 3) := by decide +kernel
theorem dX3_init_34 : decode cX3_init 34 = .ok (.return_, 1) := by decide +kernel
set_option maxRecDepth 20000 in
theorem ggX3_leastPrice_X3_takeWay : GoodIn wsX3_leastPrice wsX3_takeWay := goodIn_r _ [6, 7, 8, 9, 10, 11, 12, 13, 14, 5, 15, 16, 17, 1, 18, 19, 20, 21, 22, 23, 24, 25, 26, 27, 28, 29, 30, 31, 32, 33, 34, 35, 48, 49, 50, 51, 52, 53, 54, 55, 56, 57, 58] (by decide +kernel) (by decide +kernel)
set_option maxRecDepth 20000 in
theorem gX3_leastPrice_X3_takeWay : GoodIn wsX3_leastPrice (wsV RX3 26 RX3 yX3_takeWay wsX3_takeWay) := goodIn_app (goodIn_of _ (by decide +kernel)) ggX3_leastPrice_X3_takeWay
set_option maxRecDepth 20000 in
theorem ggX3_leastPrice_X3_takeOutCircles : GoodIn wsX3_leastPrice wsX3_takeOutCircles := goodIn_r _ [39, 40, 41, 42, 5, 43, 7, 8, 9, 11, 1, 12, 13, 14, 15, 16, 17, 18, 19, 10, 20, 21, 22, 23, 24, 25, 26, 27, 32, 33, 34, 35, 28, 29, 30, 31, 48, 49, 50, 51, 52, 53, 54, 55, 56, 57, 58] (by decide +kernel) (by decide +kernel)
set_option maxRecDepth 20000 in
theorem gX3_leastPrice_X3_takeOutCircles : GoodIn wsX3_leastPrice (wsV RX3 30 RX3 yX3_takeOutCircles wsX3_takeOutCircles) := goodIn_app (goodIn_of _ (by decide +kernel)) ggX3_leastPrice_X3_takeOutCircles
set_option maxRecDepth 20000 in
theorem ggX3_leastPrice_X3_priceOfTaken : GoodIn wsX3_leastPrice wsX3_priceOfTaken := goodIn_r _ [47, 7, 16, 17, 1, 20, 21, 22, 23, 24, 25, 26, 27, 48, 49, 50, 51, 52, 53, 54, 55, 56, 57, 58] (by decide +kernel) (by decide +kernel)
set_option maxRecDepth 20000 in
theorem gX3_leastPrice_X3_priceOfTaken : GoodIn wsX3_leastPrice (wsV RX3 33 RX3 yX3_priceOfTaken wsX3_priceOfTaken) := goodIn_app (goodIn_of _ (by decide +kernel)) ggX3_leastPrice_X3_priceOfTaken
theorem dX3_leastPrice_0 : decode cX3_leastPrice 0 = .ok (.iconst 0, 1) := by decide +kernel
theorem dX3_leastPrice_1 : decode cX3_leastPrice 1 = .ok (.istore 4, 2) := by decide +kernel
theorem dX3_leastPrice_3 : decode cX3_leastPrice 3 = .ok (.iload 4, 2) := by decide +kernel
theorem dX3_leastPrice_5 : decode cX3_leastPrice 5 = .ok (.sipush 180, 3) := by decide +kernel
theorem dX3_leastPrice_8 : decode cX3_leastPrice 8 = .ok (.if_icmp .ge 17, 3) := by decide +kernel
theorem dX3_leastPrice_11 : decode cX3_leastPrice 11 = .ok (.aload_n 0, 1) := by decide +kernel
theorem dX3_leastPrice_12 : decode cX3_leastPrice 12 = .ok (.getfield 9, 3) := by decide +kernel
theorem dX3_leastPrice_15 : decode cX3_leastPrice 15 = .ok (.iload 4, 2) := by decide +kernel
theorem dX3_leastPrice_17 : decode cX3_leastPrice 17 = .ok (.iconst 0, 1) := by decide +kernel
theorem dX3_leastPrice_18 : decode cX3_leastPrice 18 = .ok (.bastore, 1) := by decide +kernel
theorem dX3_leastPrice_19 : decode cX3_leastPrice 19 = .ok (.iinc 4 1, 3) := by decide +kernel
theorem dX3_leastPrice_22 : decode cX3_leastPrice 22 = .ok (.goto (-19), 3) := by decide +kernel
theorem dX3_leastPrice_25 : decode cX3_leastPrice 25 = .ok (.iconst 0, 1) := by decide +kernel
theorem dX3_leastPrice_26 : decode cX3_leastPrice 26 = .ok (.istore 4, 2) := by decide +kernel
theorem dX3_leastPrice_28 : decode cX3_leastPrice 28 = .ok (.iload 4, 2) := by decide +kernel
theorem dX3_leastPrice_30 : decode cX3_leastPrice 30 = .ok (.iload_n 3, 1) := by decide +kernel
theorem dX3_leastPrice_31 : decode cX3_leastPrice 31 = .ok (.if_icmp .ge 20, 3) := by decide +kernel
theorem dX3_leastPrice_34 : decode cX3_leastPrice 34 = .ok (.aload_n 0, 1) := by decide +kernel
theorem dX3_leastPrice_35 : decode cX3_leastPrice 35 = .ok (.iload_n 1, 1) := by decide +kernel
theorem dX3_leastPrice_36 : decode cX3_leastPrice 36 = .ok (.iload_n 2, 1) := by decide +kernel
theorem dX3_leastPrice_37 : decode cX3_leastPrice 37 = .ok (.invokevirtual 26, 3) := by decide +kernel
theorem dX3_leastPrice_40 : decode cX3_leastPrice 40 = .ok (.ifCond .ne 5, 3) := by decide +kernel
theorem dX3_leastPrice_43 : decode cX3_leastPrice 43 = .ok (.iconst (-1), 1) := by decide +kernel
theorem dX3_leastPrice_44 : decode cX3_leastPrice 44 = .ok (.ireturn, 1) := by decide +kernel
theorem dX3_leastPrice_45 : decode cX3_leastPrice 45 = .ok (.iinc 4 1, 3) := by decide +kernel
theorem dX3_leastPrice_48 : decode cX3_leastPrice 48 = .ok (.goto (-20), 3) := by decide +kernel
theorem dX3_leastPrice_51 : decode cX3_leastPrice 51 = .ok (.aload_n 0, 1) := by decide +kernel
theorem dX3_leastPrice_52 : decode cX3_leastPrice 52 = .ok (.invokevirtual 30, 3) := by decide +kernel
theorem dX3_leastPrice_55 : decode cX3_leastPrice 55 = .ok (.aload_n 0, 1) := by decide +kernel
theorem dX3_leastPrice_56 : decode cX3_leastPrice 56 = .ok (.invokevirtual 33, 3) := by decide +kernel
theorem dX3_leastPrice_59 : decode cX3_leastPrice 59 = .ok (.ireturn, 1) := by decide +kernel
set_option maxRecDepth 20000 in
theorem ggX3_takeWay_X3_shortenAll : GoodIn wsX3_takeWay wsX3_shortenAll := goodIn_r _ [10, 1, 11, 12, 13, 14, 15, 3, 4, 5, 16, 17, 18, 19, 20, 21, 22, 23, 32, 33, 34, 35, 36, 37, 38, 39, 40, 41, 42] (by decide +kernel) (by decide +kernel)
set_option maxRecDepth 20000 in
theorem gX3_takeWay_X3_shortenAll : GoodIn wsX3_takeWay (wsV RX3 44 RX3 yX3_shortenAll wsX3_shortenAll) := goodIn_app (goodIn_of _ (by decide +kernel)) ggX3_takeWay_X3_shortenAll
set_option maxRecDepth 20000 in
theorem ggX3_takeWay_X3_turnBack : GoodIn wsX3_takeWay wsX3_turnBack := goodIn_r _ [27, 1, 2, 5, 13, 28, 29, 30, 9, 31, 14, 15, 32, 33, 34, 35, 36, 37, 38, 39, 40, 41, 42] (by decide +kernel) (by decide +kernel)
set_option maxRecDepth 20000 in
theorem gX3_takeWay_X3_turnBack : GoodIn wsX3_takeWay (wsV RX3 48 RX3 yX3_turnBack wsX3_turnBack) := goodIn_app (goodIn_of _ (by decide +kernel)) ggX3_takeWay_X3_turnBack
theorem dX3_takeWay_0 : decode cX3_takeWay 0 = .ok (.iconst 0, 1) := by decide +kernel
theorem dX3_takeWay_1 : decode cX3_takeWay 1 = .ok (.istore_n 3, 1) := by decide +kernel
theorem dX3_takeWay_2 : decode cX3_takeWay 2 = .ok (.iload_n 3, 1) := by decide +kernel
theorem dX3_takeWay_3 : decode cX3_takeWay 3 = .ok (.aload_n 0, 1) := by decide +kernel
theorem dX3_takeWay_4 : decode cX3_takeWay 4 = .ok (.getfield 22, 3) := by decide +kernel
theorem dX3_takeWay_7 : decode cX3_takeWay 7 = .ok (.getfield 37, 3) := by decide +kernel
theorem dX3_takeWay_10 : decode cX3_takeWay 10 = .ok (.if_icmp .ge 33, 3) := by decide +kernel
theorem dX3_takeWay_13 : decode cX3_takeWay 13 = .ok (.aload_n 0, 1) := by decide +kernel
theorem dX3_takeWay_14 : decode cX3_takeWay 14 = .ok (.getfield 15, 3) := by decide +kernel
theorem dX3_takeWay_17 : decode cX3_takeWay 17 = .ok (.iload_n 3, 1) := by decide +kernel
theorem dX3_takeWay_18 : decode cX3_takeWay 18 = .ok (.iload_n 3, 1) := by decide +kernel
theorem dX3_takeWay_19 : decode cX3_takeWay 19 = .ok (.iload_n 1, 1) := by decide +kernel
theorem dX3_takeWay_20 : decode cX3_takeWay 20 = .ok (.if_icmp .ne 7, 3) := by decide +kernel
theorem dX3_takeWay_23 : decode cX3_takeWay 23 = .ok (.iconst 0, 1) := by decide +kernel
theorem dX3_takeWay_24 : decode cX3_takeWay 24 = .ok (.goto 5, 3) := by decide +kernel
theorem dX3_takeWay_27 : decode cX3_takeWay 27 = .ok (.ldc 43, 2) := by decide +kernel
theorem dX3_takeWay_29 : decode cX3_takeWay 29 = .ok (.iastore, 1) := by decide +kernel
theorem dX3_takeWay_30 : decode cX3_takeWay 30 = .ok (.aload_n 0, 1) := by decide +kernel
theorem dX3_takeWay_31 : decode cX3_takeWay 31 = .ok (.getfield 19, 3) := by decide +kernel
theorem dX3_takeWay_34 : decode cX3_takeWay 34 = .ok (.iload_n 3, 1) := by decide +kernel
theorem dX3_takeWay_35 : decode cX3_takeWay 35 = .ok (.iconst (-1), 1) := by decide +kernel
theorem dX3_takeWay_36 : decode cX3_takeWay 36 = .ok (.iastore, 1) := by decide +kernel
theorem dX3_takeWay_37 : decode cX3_takeWay 37 = .ok (.iinc 3 1, 3) := by decide +kernel
theorem dX3_takeWay_40 : decode cX3_takeWay 40 = .ok (.goto (-38), 3) := by decide +kernel
theorem dX3_takeWay_43 : decode cX3_takeWay 43 = .ok (.iconst 1, 1) := by decide +kernel
theorem dX3_takeWay_44 : decode cX3_takeWay 44 = .ok (.istore_n 3, 1) := by decide +kernel
theorem dX3_takeWay_45 : decode cX3_takeWay 45 = .ok (.iconst 0, 1) := by decide +kernel
theorem dX3_takeWay_46 : decode cX3_takeWay 46 = .ok (.istore 4, 2) := by decide +kernel
theorem dX3_takeWay_48 : decode cX3_takeWay 48 = .ok (.iload 4, 2) := by decide +kernel
theorem dX3_takeWay_50 : decode cX3_takeWay 50 = .ok (.aload_n 0, 1) := by decide +kernel
theorem dX3_takeWay_51 : decode cX3_takeWay 51 = .ok (.getfield 22, 3) := by decide +kernel
theorem dX3_takeWay_54 : decode cX3_takeWay 54 = .ok (.getfield 37, 3) := by decide +kernel
theorem dX3_takeWay_57 : decode cX3_takeWay 57 = .ok (.if_icmp .ge 28, 3) := by decide +kernel
theorem dX3_takeWay_60 : decode cX3_takeWay 60 = .ok (.iload_n 3, 1) := by decide +kernel
theorem dX3_takeWay_61 : decode cX3_takeWay 61 = .ok (.ifCond .eq 24, 3) := by decide +kernel
theorem dX3_takeWay_64 : decode cX3_takeWay 64 = .ok (.aload_n 0, 1) := by decide +kernel
theorem dX3_takeWay_65 : decode cX3_takeWay 65 = .ok (.iconst 0, 1) := by decide +kernel
theorem dX3_takeWay_66 : decode cX3_takeWay 66 = .ok (.invokevirtual 44, 3) := by decide +kernel
theorem dX3_takeWay_69 : decode cX3_takeWay 69 = .ok (.iconst (-1), 1) := by decide +kernel
theorem dX3_takeWay_70 : decode cX3_takeWay 70 = .ok (.if_icmp .eq 7, 3) := by decide +kernel
theorem dX3_takeWay_73 : decode cX3_takeWay 73 = .ok (.iconst 1, 1) := by decide +kernel
theorem dX3_takeWay_74 : decode cX3_takeWay 74 = .ok (.goto 4, 3) := by decide +kernel
theorem dX3_takeWay_77 : decode cX3_takeWay 77 = .ok (.iconst 0, 1) := by decide +kernel
theorem dX3_takeWay_78 : decode cX3_takeWay 78 = .ok (.istore_n 3, 1) := by decide +kernel
theorem dX3_takeWay_79 : decode cX3_takeWay 79 = .ok (.iinc 4 1, 3) := by decide +kernel
theorem dX3_takeWay_82 : decode cX3_takeWay 82 = .ok (.goto (-34), 3) := by decide +kernel
theorem dX3_takeWay_85 : decode cX3_takeWay 85 = .ok (.aload_n 0, 1) := by decide +kernel
theorem dX3_takeWay_86 : decode cX3_takeWay 86 = .ok (.getfield 15, 3) := by decide +kernel
theorem dX3_takeWay_89 : decode cX3_takeWay 89 = .ok (.iload_n 2, 1) := by decide +kernel
theorem dX3_takeWay_90 : decode cX3_takeWay 90 = .ok (.iaload, 1) := by decide +kernel
theorem dX3_takeWay_91 : decode cX3_takeWay 91 = .ok (.ldc 43, 2) := by decide +kernel
theorem dX3_takeWay_93 : decode cX3_takeWay 93 = .ok (.if_icmp .lt 5, 3) := by decide +kernel
theorem dX3_takeWay_96 : decode cX3_takeWay 96 = .ok (.iconst 0, 1) := by decide +kernel
theorem dX3_takeWay_97 : decode cX3_takeWay 97 = .ok (.ireturn, 1) := by decide +kernel
theorem dX3_takeWay_98 : decode cX3_takeWay 98 = .ok (.aload_n 0, 1) := by decide +kernel
theorem dX3_takeWay_99 : decode cX3_takeWay 99 = .ok (.iload_n 2, 1) := by decide +kernel
theorem dX3_takeWay_100 : decode cX3_takeWay 100 = .ok (.iload_n 1, 1) := by decide +kernel
theorem dX3_takeWay_101 : decode cX3_takeWay 101 = .ok (.invokevirtual 48, 3) := by decide +kernel
theorem dX3_takeWay_104 : decode cX3_takeWay 104 = .ok (.iconst 1, 1) := by decide +kernel
theorem dX3_takeWay_105 : decode cX3_takeWay 105 = .ok (.ireturn, 1) := by decide +kernel
set_option maxRecDepth 20000 in
theorem ggX3_takeOutCircles_X3_takeOutCircle : GoodIn wsX3_takeOutCircles wsX3_takeOutCircle := goodIn_r _ [5, 6, 7, 8, 9, 10, 11, 12, 13, 4, 14, 15, 16, 17, 18, 19, 20, 21, 22, 23, 24, 25, 26, 27, 28, 29, 30, 31, 32, 33, 34, 35, 36, 37, 38, 39, 40, 41, 42, 43, 44, 45, 46] (by decide +kernel) (by decide +kernel)
set_option maxRecDepth 20000 in
theorem gX3_takeOutCircles_X3_takeOutCircle : GoodIn wsX3_takeOutCircles (wsV RX3 52 RX3 yX3_takeOutCircle wsX3_takeOutCircle) := goodIn_app (goodIn_of _ (by decide +kernel)) ggX3_takeOutCircles_X3_takeOutCircle
theorem dX3_takeOutCircles_0 : decode cX3_takeOutCircles 0 = .ok (.iconst 1, 1) := by decide +kernel
theorem dX3_takeOutCircles_1 : decode cX3_takeOutCircles 1 = .ok (.istore_n 1, 1) := by decide +kernel
theorem dX3_takeOutCircles_2 : decode cX3_takeOutCircles 2 = .ok (.iconst 0, 1) := by decide +kernel
theorem dX3_takeOutCircles_3 : decode cX3_takeOutCircles 3 = .ok (.istore_n 2, 1) := by decide +kernel
theorem dX3_takeOutCircles_4 : decode cX3_takeOutCircles 4 = .ok (.iload_n 2, 1) := by decide +kernel
theorem dX3_takeOutCircles_5 : decode cX3_takeOutCircles 5 = .ok (.sipush 17820, 3) := by decide +kernel
theorem dX3_takeOutCircles_8 : decode cX3_takeOutCircles 8 = .ok (.if_icmp .ge 18, 3) := by decide +kernel
theorem dX3_takeOutCircles_11 : decode cX3_takeOutCircles 11 = .ok (.iload_n 1, 1) := by decide +kernel
theorem dX3_takeOutCircles_12 : decode cX3_takeOutCircles 12 = .ok (.ifCond .eq 14, 3) := by decide +kernel
theorem dX3_takeOutCircles_15 : decode cX3_takeOutCircles 15 = .ok (.aload_n 0, 1) := by decide +kernel
theorem dX3_takeOutCircles_16 : decode cX3_takeOutCircles 16 = .ok (.invokevirtual 52, 3) := by decide +kernel
theorem dX3_takeOutCircles_19 : decode cX3_takeOutCircles 19 = .ok (.istore_n 1, 1) := by decide +kernel
theorem dX3_takeOutCircles_20 : decode cX3_takeOutCircles 20 = .ok (.iinc 2 1, 3) := by decide +kernel
theorem dX3_takeOutCircles_23 : decode cX3_takeOutCircles 23 = .ok (.goto (-19), 3) := by decide +kernel
theorem dX3_takeOutCircles_26 : decode cX3_takeOutCircles 26 = .ok (.return_, 1) := by decide +kernel
set_option maxRecDepth 20000 in
theorem ggX3_takeOutCircle_X3_shortenAll : GoodIn wsX3_takeOutCircle wsX3_shortenAll := goodIn_r _ [10, 1, 11, 12, 5, 13, 14, 3, 15, 4, 16, 17, 18, 19, 20, 21, 22, 23, 32, 33, 34, 35, 36, 37, 38, 39, 40, 41, 42] (by decide +kernel) (by decide +kernel)
set_option maxRecDepth 20000 in
theorem gX3_takeOutCircle_X3_shortenAll : GoodIn wsX3_takeOutCircle (wsV RX3 44 RX3 yX3_shortenAll wsX3_shortenAll) := goodIn_app (goodIn_of _ (by decide +kernel)) ggX3_takeOutCircle_X3_shortenAll
set_option maxRecDepth 20000 in
theorem ggX3_takeOutCircle_X3_nodeBefore : GoodIn wsX3_takeOutCircle wsX3_nodeBefore := goodIn_r _ [27, 4, 5, 1, 13, 14, 32, 33, 34, 35, 36, 37, 38, 39, 40, 41, 42] (by decide +kernel) (by decide +kernel)
set_option maxRecDepth 20000 in
theorem gX3_takeOutCircle_X3_nodeBefore : GoodIn wsX3_takeOutCircle (wsV RX3 56 RX3 yX3_nodeBefore wsX3_nodeBefore) := goodIn_app (goodIn_of _ (by decide +kernel)) ggX3_takeOutCircle_X3_nodeBefore
set_option maxRecDepth 20000 in
theorem ggX3_takeOutCircle_X3_turnBack : GoodIn wsX3_takeOutCircle wsX3_turnBack := goodIn_r _ [31, 1, 2, 4, 5, 24, 25, 26, 9, 27, 13, 14, 32, 33, 34, 35, 36, 37, 38, 39, 40, 41, 42] (by decide +kernel) (by decide +kernel)
set_option maxRecDepth 20000 in
theorem gX3_takeOutCircle_X3_turnBack : GoodIn wsX3_takeOutCircle (wsV RX3 48 RX3 yX3_turnBack wsX3_turnBack) := goodIn_app (goodIn_of _ (by decide +kernel)) ggX3_takeOutCircle_X3_turnBack
theorem dX3_takeOutCircle_0 : decode cX3_takeOutCircle 0 = .ok (.iconst 0, 1) := by decide +kernel
theorem dX3_takeOutCircle_1 : decode cX3_takeOutCircle 1 = .ok (.istore_n 1, 1) := by decide +kernel
theorem dX3_takeOutCircle_2 : decode cX3_takeOutCircle 2 = .ok (.iload_n 1, 1) := by decide +kernel
theorem dX3_takeOutCircle_3 : decode cX3_takeOutCircle 3 = .ok (.aload_n 0, 1) := by decide +kernel
theorem dX3_takeOutCircle_4 : decode cX3_takeOutCircle 4 = .ok (.getfield 22, 3) := by decide +kernel
theorem dX3_takeOutCircle_7 : decode cX3_takeOutCircle 7 = .ok (.getfield 37, 3) := by decide +kernel
theorem dX3_takeOutCircle_10 : decode cX3_takeOutCircle 10 = .ok (.if_icmp .ge 23, 3) := by decide +kernel
theorem dX3_takeOutCircle_13 : decode cX3_takeOutCircle 13 = .ok (.aload_n 0, 1) := by decide +kernel
theorem dX3_takeOutCircle_14 : decode cX3_takeOutCircle 14 = .ok (.getfield 15, 3) := by decide +kernel
theorem dX3_takeOutCircle_17 : decode cX3_takeOutCircle 17 = .ok (.iload_n 1, 1) := by decide +kernel
theorem dX3_takeOutCircle_18 : decode cX3_takeOutCircle 18 = .ok (.iconst 0, 1) := by decide +kernel
theorem dX3_takeOutCircle_19 : decode cX3_takeOutCircle 19 = .ok (.iastore, 1) := by decide +kernel
theorem dX3_takeOutCircle_20 : decode cX3_takeOutCircle 20 = .ok (.aload_n 0, 1) := by decide +kernel
theorem dX3_takeOutCircle_21 : decode cX3_takeOutCircle 21 = .ok (.getfield 19, 3) := by decide +kernel
theorem dX3_takeOutCircle_24 : decode cX3_takeOutCircle 24 = .ok (.iload_n 1, 1) := by decide +kernel
theorem dX3_takeOutCircle_25 : decode cX3_takeOutCircle 25 = .ok (.iconst (-1), 1) := by decide +kernel
theorem dX3_takeOutCircle_26 : decode cX3_takeOutCircle 26 = .ok (.iastore, 1) := by decide +kernel
theorem dX3_takeOutCircle_27 : decode cX3_takeOutCircle 27 = .ok (.iinc 1 1, 3) := by decide +kernel
theorem dX3_takeOutCircle_30 : decode cX3_takeOutCircle 30 = .ok (.goto (-28), 3) := by decide +kernel
theorem dX3_takeOutCircle_33 : decode cX3_takeOutCircle 33 = .ok (.iconst 0, 1) := by decide +kernel
theorem dX3_takeOutCircle_34 : decode cX3_takeOutCircle 34 = .ok (.istore_n 1, 1) := by decide +kernel
theorem dX3_takeOutCircle_35 : decode cX3_takeOutCircle 35 = .ok (.iconst 0, 1) := by decide +kernel
theorem dX3_takeOutCircle_36 : decode cX3_takeOutCircle 36 = .ok (.istore_n 2, 1) := by decide +kernel
theorem dX3_takeOutCircle_37 : decode cX3_takeOutCircle 37 = .ok (.iload_n 2, 1) := by decide +kernel
theorem dX3_takeOutCircle_38 : decode cX3_takeOutCircle 38 = .ok (.aload_n 0, 1) := by decide +kernel
theorem dX3_takeOutCircle_39 : decode cX3_takeOutCircle 39 = .ok (.getfield 22, 3) := by decide +kernel
theorem dX3_takeOutCircle_42 : decode cX3_takeOutCircle 42 = .ok (.getfield 37, 3) := by decide +kernel
theorem dX3_takeOutCircle_45 : decode cX3_takeOutCircle 45 = .ok (.if_icmp .ge 20, 3) := by decide +kernel
theorem dX3_takeOutCircle_48 : decode cX3_takeOutCircle 48 = .ok (.iload_n 1, 1) := by decide +kernel
theorem dX3_takeOutCircle_49 : decode cX3_takeOutCircle 49 = .ok (.iconst (-1), 1) := by decide +kernel
theorem dX3_takeOutCircle_50 : decode cX3_takeOutCircle 50 = .ok (.if_icmp .eq 15, 3) := by decide +kernel
theorem dX3_takeOutCircle_53 : decode cX3_takeOutCircle 53 = .ok (.aload_n 0, 1) := by decide +kernel
theorem dX3_takeOutCircle_54 : decode cX3_takeOutCircle 54 = .ok (.iconst 1, 1) := by decide +kernel
theorem dX3_takeOutCircle_55 : decode cX3_takeOutCircle 55 = .ok (.invokevirtual 44, 3) := by decide +kernel
theorem dX3_takeOutCircle_58 : decode cX3_takeOutCircle 58 = .ok (.istore_n 1, 1) := by decide +kernel
theorem dX3_takeOutCircle_59 : decode cX3_takeOutCircle 59 = .ok (.iinc 2 1, 3) := by decide +kernel
theorem dX3_takeOutCircle_62 : decode cX3_takeOutCircle 62 = .ok (.goto (-25), 3) := by decide +kernel
theorem dX3_takeOutCircle_65 : decode cX3_takeOutCircle 65 = .ok (.iconst 0, 1) := by decide +kernel
theorem dX3_takeOutCircle_66 : decode cX3_takeOutCircle 66 = .ok (.istore_n 2, 1) := by decide +kernel
theorem dX3_takeOutCircle_67 : decode cX3_takeOutCircle 67 = .ok (.iload_n 2, 1) := by decide +kernel
theorem dX3_takeOutCircle_68 : decode cX3_takeOutCircle 68 = .ok (.aload_n 0, 1) := by decide +kernel
theorem dX3_takeOutCircle_69 : decode cX3_takeOutCircle 69 = .ok (.getfield 22, 3) := by decide +kernel
theorem dX3_takeOutCircle_72 : decode cX3_takeOutCircle 72 = .ok (.getfield 37, 3) := by decide +kernel
theorem dX3_takeOutCircle_75 : decode cX3_takeOutCircle 75 = .ok (.if_icmp .ge 20, 3) := by decide +kernel
theorem dX3_takeOutCircle_78 : decode cX3_takeOutCircle 78 = .ok (.iload_n 1, 1) := by decide +kernel
theorem dX3_takeOutCircle_79 : decode cX3_takeOutCircle 79 = .ok (.iconst (-1), 1) := by decide +kernel
theorem dX3_takeOutCircle_80 : decode cX3_takeOutCircle 80 = .ok (.if_icmp .eq 15, 3) := by decide +kernel
theorem dX3_takeOutCircle_83 : decode cX3_takeOutCircle 83 = .ok (.aload_n 0, 1) := by decide +kernel
theorem dX3_takeOutCircle_84 : decode cX3_takeOutCircle 84 = .ok (.iload_n 1, 1) := by decide +kernel
theorem dX3_takeOutCircle_85 : decode cX3_takeOutCircle 85 = .ok (.invokevirtual 56, 3) := by decide +kernel
theorem dX3_takeOutCircle_88 : decode cX3_takeOutCircle 88 = .ok (.istore_n 1, 1) := by decide +kernel
theorem dX3_takeOutCircle_89 : decode cX3_takeOutCircle 89 = .ok (.iinc 2 1, 3) := by decide +kernel
theorem dX3_takeOutCircle_92 : decode cX3_takeOutCircle 92 = .ok (.goto (-25), 3) := by decide +kernel
theorem dX3_takeOutCircle_95 : decode cX3_takeOutCircle 95 = .ok (.iload_n 1, 1) := by decide +kernel
theorem dX3_takeOutCircle_96 : decode cX3_takeOutCircle 96 = .ok (.iconst (-1), 1) := by decide +kernel
theorem dX3_takeOutCircle_97 : decode cX3_takeOutCircle 97 = .ok (.if_icmp .eq 12, 3) := by decide +kernel
theorem dX3_takeOutCircle_100 : decode cX3_takeOutCircle 100 = .ok (.aload_n 0, 1) := by decide +kernel
theorem dX3_takeOutCircle_101 : decode cX3_takeOutCircle 101 = .ok (.iload_n 1, 1) := by decide +kernel
theorem dX3_takeOutCircle_102 : decode cX3_takeOutCircle 102 = .ok (.invokevirtual 56, 3) := by decide +kernel
theorem dX3_takeOutCircle_105 : decode cX3_takeOutCircle 105 = .ok (.iconst (-1), 1) := by decide +kernel
theorem dX3_takeOutCircle_106 : decode cX3_takeOutCircle 106 = .ok (.if_icmp .ne 5, 3) := by decide +kernel
theorem dX3_takeOutCircle_109 : decode cX3_takeOutCircle 109 = .ok (.iconst 0, 1) := by decide +kernel
theorem dX3_takeOutCircle_110 : decode cX3_takeOutCircle 110 = .ok (.ireturn, 1) := by decide +kernel
theorem dX3_takeOutCircle_111 : decode cX3_takeOutCircle 111 = .ok (.aload_n 0, 1) := by decide +kernel
theorem dX3_takeOutCircle_112 : decode cX3_takeOutCircle 112 = .ok (.getfield 19, 3) := by decide +kernel
theorem dX3_takeOutCircle_115 : decode cX3_takeOutCircle 115 = .ok (.iload_n 1, 1) := by decide +kernel
theorem dX3_takeOutCircle_116 : decode cX3_takeOutCircle 116 = .ok (.iaload, 1) := by decide +kernel
theorem dX3_takeOutCircle_117 : decode cX3_takeOutCircle 117 = .ok (.istore_n 2, 1) := by decide +kernel
theorem dX3_takeOutCircle_118 : decode cX3_takeOutCircle 118 = .ok (.aload_n 0, 1) := by decide +kernel
theorem dX3_takeOutCircle_119 : decode cX3_takeOutCircle 119 = .ok (.iload_n 1, 1) := by decide +kernel
theorem dX3_takeOutCircle_120 : decode cX3_takeOutCircle 120 = .ok (.invokevirtual 56, 3) := by decide +kernel
theorem dX3_takeOutCircle_123 : decode cX3_takeOutCircle 123 = .ok (.istore_n 3, 1) := by decide +kernel
theorem dX3_takeOutCircle_124 : decode cX3_takeOutCircle 124 = .ok (.aload_n 0, 1) := by decide +kernel
theorem dX3_takeOutCircle_125 : decode cX3_takeOutCircle 125 = .ok (.getfield 9, 3) := by decide +kernel
theorem dX3_takeOutCircle_128 : decode cX3_takeOutCircle 128 = .ok (.iload_n 2, 1) := by decide +kernel
theorem dX3_takeOutCircle_129 : decode cX3_takeOutCircle 129 = .ok (.aload_n 0, 1) := by decide +kernel
theorem dX3_takeOutCircle_130 : decode cX3_takeOutCircle 130 = .ok (.getfield 9, 3) := by decide +kernel
theorem dX3_takeOutCircle_133 : decode cX3_takeOutCircle 133 = .ok (.iload_n 2, 1) := by decide +kernel
theorem dX3_takeOutCircle_134 : decode cX3_takeOutCircle 134 = .ok (.baload, 1) := by decide +kernel
theorem dX3_takeOutCircle_135 : decode cX3_takeOutCircle 135 = .ok (.ifCond .ne 7, 3) := by decide +kernel
theorem dX3_takeOutCircle_138 : decode cX3_takeOutCircle 138 = .ok (.iconst 1, 1) := by decide +kernel
theorem dX3_takeOutCircle_139 : decode cX3_takeOutCircle 139 = .ok (.goto 4, 3) := by decide +kernel
theorem dX3_takeOutCircle_142 : decode cX3_takeOutCircle 142 = .ok (.iconst 0, 1) := by decide +kernel
theorem dX3_takeOutCircle_143 : decode cX3_takeOutCircle 143 = .ok (.bastore, 1) := by decide +kernel
theorem dX3_takeOutCircle_144 : decode cX3_takeOutCircle 144 = .ok (.aload_n 0, 1) := by decide +kernel
theorem dX3_takeOutCircle_145 : decode cX3_takeOutCircle 145 = .ok (.iload_n 3, 1) := by decide +kernel
theorem dX3_takeOutCircle_146 : decode cX3_takeOutCircle 146 = .ok (.iload_n 1, 1) := by decide +kernel
theorem dX3_takeOutCircle_147 : decode cX3_takeOutCircle 147 = .ok (.invokevirtual 48, 3) := by decide +kernel
theorem dX3_takeOutCircle_150 : decode cX3_takeOutCircle 150 = .ok (.iconst 1, 1) := by decide +kernel
theorem dX3_takeOutCircle_151 : decode cX3_takeOutCircle 151 = .ok (.ireturn, 1) := by decide +kernel
set_option maxRecDepth 20000 in
theorem ggX3_shortenAll_X2_unitPrice : GoodIn wsX3_shortenAll wsX2_unitPrice := goodIn_r _ [14, 15, 16, 17, 22, 23, 24, 25, 26, 27, 28] (by decide +kernel) (by decide +kernel)
set_option maxRecDepth 20000 in
theorem gX3_shortenAll_X2_unitPrice : GoodIn wsX3_shortenAll (wsV RX3 72 RX2 yX2_unitPrice wsX2_unitPrice) := goodIn_app (goodIn_of _ (by decide +kernel)) ggX3_shortenAll_X2_unitPrice
theorem dX3_shortenAll_0 : decode cX3_shortenAll 0 = .ok (.iconst (-1), 1) := by decide +kernel
theorem dX3_shortenAll_1 : decode cX3_shortenAll 1 = .ok (.istore_n 2, 1) := by decide +kernel
theorem dX3_shortenAll_2 : decode cX3_shortenAll 2 = .ok (.iconst 0, 1) := by decide +kernel
theorem dX3_shortenAll_3 : decode cX3_shortenAll 3 = .ok (.istore_n 3, 1) := by decide +kernel
theorem dX3_shortenAll_4 : decode cX3_shortenAll 4 = .ok (.iload_n 3, 1) := by decide +kernel
theorem dX3_shortenAll_5 : decode cX3_shortenAll 5 = .ok (.aload_n 0, 1) := by decide +kernel
theorem dX3_shortenAll_6 : decode cX3_shortenAll 6 = .ok (.getfield 22, 3) := by decide +kernel
theorem dX3_shortenAll_9 : decode cX3_shortenAll 9 = .ok (.getfield 60, 3) := by decide +kernel
theorem dX3_shortenAll_12 : decode cX3_shortenAll 12 = .ok (.if_icmp .ge 202, 3) := by decide +kernel
theorem dX3_shortenAll_15 : decode cX3_shortenAll 15 = .ok (.iconst 1, 1) := by decide +kernel
theorem dX3_shortenAll_16 : decode cX3_shortenAll 16 = .ok (.istore 4, 2) := by decide +kernel
theorem dX3_shortenAll_18 : decode cX3_shortenAll 18 = .ok (.iload 4, 2) := by decide +kernel
theorem dX3_shortenAll_20 : decode cX3_shortenAll 20 = .ok (.aload_n 0, 1) := by decide +kernel
theorem dX3_shortenAll_21 : decode cX3_shortenAll 21 = .ok (.getfield 22, 3) := by decide +kernel
theorem dX3_shortenAll_24 : decode cX3_shortenAll 24 = .ok (.getfield 63, 3) := by decide +kernel
theorem dX3_shortenAll_27 : decode cX3_shortenAll 27 = .ok (.iload_n 3, 1) := by decide +kernel
theorem dX3_shortenAll_28 : decode cX3_shortenAll 28 = .ok (.iaload, 1) := by decide +kernel
theorem dX3_shortenAll_29 : decode cX3_shortenAll 29 = .ok (.if_icmp .gt 179, 3) := by decide +kernel
theorem dX3_shortenAll_32 : decode cX3_shortenAll 32 = .ok (.iload_n 3, 1) := by decide +kernel
theorem dX3_shortenAll_33 : decode cX3_shortenAll 33 = .ok (.bipush 15, 2) := by decide +kernel
theorem dX3_shortenAll_35 : decode cX3_shortenAll 35 = .ok (.imul, 1) := by decide +kernel
theorem dX3_shortenAll_36 : decode cX3_shortenAll 36 = .ok (.iload 4, 2) := by decide +kernel
theorem dX3_shortenAll_38 : decode cX3_shortenAll 38 = .ok (.iadd, 1) := by decide +kernel
theorem dX3_shortenAll_39 : decode cX3_shortenAll 39 = .ok (.iconst 1, 1) := by decide +kernel
theorem dX3_shortenAll_40 : decode cX3_shortenAll 40 = .ok (.isub, 1) := by decide +kernel
theorem dX3_shortenAll_41 : decode cX3_shortenAll 41 = .ok (.istore 5, 2) := by decide +kernel
theorem dX3_shortenAll_43 : decode cX3_shortenAll 43 = .ok (.aload_n 0, 1) := by decide +kernel
theorem dX3_shortenAll_44 : decode cX3_shortenAll 44 = .ok (.getfield 9, 3) := by decide +kernel
theorem dX3_shortenAll_47 : decode cX3_shortenAll 47 = .ok (.iload 5, 2) := by decide +kernel
theorem dX3_shortenAll_49 : decode cX3_shortenAll 49 = .ok (.baload, 1) := by decide +kernel
theorem dX3_shortenAll_50 : decode cX3_shortenAll 50 = .ok (.ifCond .eq 15, 3) := by decide +kernel
theorem dX3_shortenAll_53 : decode cX3_shortenAll 53 = .ok (.aload_n 0, 1) := by decide +kernel
theorem dX3_shortenAll_54 : decode cX3_shortenAll 54 = .ok (.getfield 22, 3) := by decide +kernel
theorem dX3_shortenAll_57 : decode cX3_shortenAll 57 = .ok (.getfield 66, 3) := by decide +kernel
theorem dX3_shortenAll_60 : decode cX3_shortenAll 60 = .ok (.iload_n 3, 1) := by decide +kernel
theorem dX3_shortenAll_61 : decode cX3_shortenAll 61 = .ok (.iaload, 1) := by decide +kernel
theorem dX3_shortenAll_62 : decode cX3_shortenAll 62 = .ok (.goto 12, 3) := by decide +kernel
theorem dX3_shortenAll_65 : decode cX3_shortenAll 65 = .ok (.aload_n 0, 1) := by decide +kernel
theorem dX3_shortenAll_66 : decode cX3_shortenAll 66 = .ok (.getfield 22, 3) := by decide +kernel
theorem dX3_shortenAll_69 : decode cX3_shortenAll 69 = .ok (.getfield 69, 3) := by decide +kernel
theorem dX3_shortenAll_72 : decode cX3_shortenAll 72 = .ok (.iload_n 3, 1) := by decide +kernel
theorem dX3_shortenAll_73 : decode cX3_shortenAll 73 = .ok (.iaload, 1) := by decide +kernel
theorem dX3_shortenAll_74 : decode cX3_shortenAll 74 = .ok (.istore 6, 2) := by decide +kernel
theorem dX3_shortenAll_76 : decode cX3_shortenAll 76 = .ok (.aload_n 0, 1) := by decide +kernel
theorem dX3_shortenAll_77 : decode cX3_shortenAll 77 = .ok (.getfield 9, 3) := by decide +kernel
theorem dX3_shortenAll_80 : decode cX3_shortenAll 80 = .ok (.iload 5, 2) := by decide +kernel
theorem dX3_shortenAll_82 : decode cX3_shortenAll 82 = .ok (.baload, 1) := by decide +kernel
theorem dX3_shortenAll_83 : decode cX3_shortenAll 83 = .ok (.ifCond .eq 15, 3) := by decide +kernel
theorem dX3_shortenAll_86 : decode cX3_shortenAll 86 = .ok (.aload_n 0, 1) := by decide +kernel
theorem dX3_shortenAll_87 : decode cX3_shortenAll 87 = .ok (.getfield 22, 3) := by decide +kernel
theorem dX3_shortenAll_90 : decode cX3_shortenAll 90 = .ok (.getfield 69, 3) := by decide +kernel
theorem dX3_shortenAll_93 : decode cX3_shortenAll 93 = .ok (.iload_n 3, 1) := by decide +kernel
theorem dX3_shortenAll_94 : decode cX3_shortenAll 94 = .ok (.iaload, 1) := by decide +kernel
theorem dX3_shortenAll_95 : decode cX3_shortenAll 95 = .ok (.goto 12, 3) := by decide +kernel
theorem dX3_shortenAll_98 : decode cX3_shortenAll 98 = .ok (.aload_n 0, 1) := by decide +kernel
theorem dX3_shortenAll_99 : decode cX3_shortenAll 99 = .ok (.getfield 22, 3) := by decide +kernel
theorem dX3_shortenAll_102 : decode cX3_shortenAll 102 = .ok (.getfield 66, 3) := by decide +kernel
theorem dX3_shortenAll_105 : decode cX3_shortenAll 105 = .ok (.iload_n 3, 1) := by decide +kernel
theorem dX3_shortenAll_106 : decode cX3_shortenAll 106 = .ok (.iaload, 1) := by decide +kernel
theorem dX3_shortenAll_107 : decode cX3_shortenAll 107 = .ok (.istore 7, 2) := by decide +kernel
theorem dX3_shortenAll_109 : decode cX3_shortenAll 109 = .ok (.iload_n 1, 1) := by decide +kernel
theorem dX3_shortenAll_110 : decode cX3_shortenAll 110 = .ok (.ifCond .eq 16, 3) := by decide +kernel
theorem dX3_shortenAll_113 : decode cX3_shortenAll 113 = .ok (.aload_n 0, 1) := by decide +kernel
theorem dX3_shortenAll_114 : decode cX3_shortenAll 114 = .ok (.getfield 22, 3) := by decide +kernel
theorem dX3_shortenAll_117 : decode cX3_shortenAll 117 = .ok (.iload_n 3, 1) := by decide +kernel
theorem dX3_shortenAll_118 : decode cX3_shortenAll 118 = .ok (.iload 4, 2) := by decide +kernel
theorem dX3_shortenAll_120 : decode cX3_shortenAll 120 = .ok (.invokevirtual 72, 3) := by decide +kernel
theorem dX3_shortenAll_123 : decode cX3_shortenAll 123 = .ok (.goto 4, 3) := by decide +kernel
theorem dX3_shortenAll_126 : decode cX3_shortenAll 126 = .ok (.iconst 0, 1) := by decide +kernel
theorem dX3_shortenAll_127 : decode cX3_shortenAll 127 = .ok (.istore 8, 2) := by decide +kernel
theorem dX3_shortenAll_129 : decode cX3_shortenAll 129 = .ok (.aload_n 0, 1) := by decide +kernel
theorem dX3_shortenAll_130 : decode cX3_shortenAll 130 = .ok (.getfield 15, 3) := by decide +kernel
theorem dX3_shortenAll_133 : decode cX3_shortenAll 133 = .ok (.iload 6, 2) := by decide +kernel
theorem dX3_shortenAll_135 : decode cX3_shortenAll 135 = .ok (.iaload, 1) := by decide +kernel
theorem dX3_shortenAll_136 : decode cX3_shortenAll 136 = .ok (.aload_n 0, 1) := by decide +kernel
theorem dX3_shortenAll_137 : decode cX3_shortenAll 137 = .ok (.getfield 9, 3) := by decide +kernel
theorem dX3_shortenAll_140 : decode cX3_shortenAll 140 = .ok (.iload 5, 2) := by decide +kernel
theorem dX3_shortenAll_142 : decode cX3_shortenAll 142 = .ok (.baload, 1) := by decide +kernel
theorem dX3_shortenAll_143 : decode cX3_shortenAll 143 = .ok (.ifCond .eq 9, 3) := by decide +kernel
theorem dX3_shortenAll_146 : decode cX3_shortenAll 146 = .ok (.iload 8, 2) := by decide +kernel
theorem dX3_shortenAll_148 : decode cX3_shortenAll 148 = .ok (.ineg, 1) := by decide +kernel
theorem dX3_shortenAll_149 : decode cX3_shortenAll 149 = .ok (.goto 5, 3) := by decide +kernel
theorem dX3_shortenAll_152 : decode cX3_shortenAll 152 = .ok (.iload 8, 2) := by decide +kernel
theorem dX3_shortenAll_154 : decode cX3_shortenAll 154 = .ok (.iadd, 1) := by decide +kernel
theorem dX3_shortenAll_155 : decode cX3_shortenAll 155 = .ok (.istore 9, 2) := by decide +kernel
theorem dX3_shortenAll_157 : decode cX3_shortenAll 157 = .ok (.aload_n 0, 1) := by decide +kernel
theorem dX3_shortenAll_158 : decode cX3_shortenAll 158 = .ok (.getfield 15, 3) := by decide +kernel
theorem dX3_shortenAll_161 : decode cX3_shortenAll 161 = .ok (.iload 6, 2) := by decide +kernel
theorem dX3_shortenAll_163 : decode cX3_shortenAll 163 = .ok (.iaload, 1) := by decide +kernel
theorem dX3_shortenAll_164 : decode cX3_shortenAll 164 = .ok (.ldc 43, 2) := by decide +kernel
theorem dX3_shortenAll_166 : decode cX3_shortenAll 166 = .ok (.if_icmp .ge 36, 3) := by decide +kernel
theorem dX3_shortenAll_169 : decode cX3_shortenAll 169 = .ok (.iload 9, 2) := by decide +kernel
theorem dX3_shortenAll_171 : decode cX3_shortenAll 171 = .ok (.aload_n 0, 1) := by decide +kernel
theorem dX3_shortenAll_172 : decode cX3_shortenAll 172 = .ok (.getfield 15, 3) := by decide +kernel
theorem dX3_shortenAll_175 : decode cX3_shortenAll 175 = .ok (.iload 7, 2) := by decide +kernel
theorem dX3_shortenAll_177 : decode cX3_shortenAll 177 = .ok (.iaload, 1) := by decide +kernel
theorem dX3_shortenAll_178 : decode cX3_shortenAll 178 = .ok (.if_icmp .ge 24, 3) := by decide +kernel
theorem dX3_shortenAll_181 : decode cX3_shortenAll 181 = .ok (.aload_n 0, 1) := by decide +kernel
theorem dX3_shortenAll_182 : decode cX3_shortenAll 182 = .ok (.getfield 15, 3) := by decide +kernel
theorem dX3_shortenAll_185 : decode cX3_shortenAll 185 = .ok (.iload 7, 2) := by decide +kernel
theorem dX3_shortenAll_187 : decode cX3_shortenAll 187 = .ok (.iload 9, 2) := by decide +kernel
theorem dX3_shortenAll_189 : decode cX3_shortenAll 189 = .ok (.iastore, 1) := by decide +kernel
theorem dX3_shortenAll_190 : decode cX3_shortenAll 190 = .ok (.aload_n 0, 1) := by decide +kernel
theorem dX3_shortenAll_191 : decode cX3_shortenAll 191 = .ok (.getfield 19, 3) := by decide +kernel
theorem dX3_shortenAll_194 : decode cX3_shortenAll 194 = .ok (.iload 7, 2) := by decide +kernel
theorem dX3_shortenAll_196 : decode cX3_shortenAll 196 = .ok (.iload 5, 2) := by decide +kernel
theorem dX3_shortenAll_198 : decode cX3_shortenAll 198 = .ok (.iastore, 1) := by decide +kernel
theorem dX3_shortenAll_199 : decode cX3_shortenAll 199 = .ok (.iload 7, 2) := by decide +kernel
theorem dX3_shortenAll_201 : decode cX3_shortenAll 201 = .ok (.istore_n 2, 1) := by decide +kernel
theorem dX3_shortenAll_202 : decode cX3_shortenAll 202 = .ok (.iinc 4 1, 3) := by decide +kernel
theorem dX3_shortenAll_205 : decode cX3_shortenAll 205 = .ok (.goto (-187), 3) := by decide +kernel
theorem dX3_shortenAll_208 : decode cX3_shortenAll 208 = .ok (.iinc 3 1, 3) := by decide +kernel
theorem dX3_shortenAll_211 : decode cX3_shortenAll 211 = .ok (.goto (-207), 3) := by decide +kernel
theorem dX3_shortenAll_214 : decode cX3_shortenAll 214 = .ok (.iload_n 2, 1) := by decide +kernel
theorem dX3_shortenAll_215 : decode cX3_shortenAll 215 = .ok (.ireturn, 1) := by decide +kernel
set_option maxRecDepth 20000 in
theorem ggX3_turnBack_X3_nodeBefore : GoodIn wsX3_turnBack wsX3_nodeBefore := goodIn_r _ [9, 3, 4, 1, 10, 11, 12, 13, 14, 15, 16, 17, 18, 19, 20, 21, 22] (by decide +kernel) (by decide +kernel)
set_option maxRecDepth 20000 in
theorem gX3_turnBack_X3_nodeBefore : GoodIn wsX3_turnBack (wsV RX3 56 RX3 yX3_nodeBefore wsX3_nodeBefore) := goodIn_app (goodIn_of _ (by decide +kernel)) ggX3_turnBack_X3_nodeBefore
theorem dX3_turnBack_0 : decode cX3_turnBack 0 = .ok (.iload_n 1, 1) := by decide +kernel
theorem dX3_turnBack_1 : decode cX3_turnBack 1 = .ok (.istore_n 3, 1) := by decide +kernel
theorem dX3_turnBack_2 : decode cX3_turnBack 2 = .ok (.iconst 0, 1) := by decide +kernel
theorem dX3_turnBack_3 : decode cX3_turnBack 3 = .ok (.istore 4, 2) := by decide +kernel
theorem dX3_turnBack_5 : decode cX3_turnBack 5 = .ok (.iload 4, 2) := by decide +kernel
theorem dX3_turnBack_7 : decode cX3_turnBack 7 = .ok (.aload_n 0, 1) := by decide +kernel
theorem dX3_turnBack_8 : decode cX3_turnBack 8 = .ok (.getfield 22, 3) := by decide +kernel
theorem dX3_turnBack_11 : decode cX3_turnBack 11 = .ok (.getfield 37, 3) := by decide +kernel
theorem dX3_turnBack_14 : decode cX3_turnBack 14 = .ok (.if_icmp .ge 61, 3) := by decide +kernel
theorem dX3_turnBack_17 : decode cX3_turnBack 17 = .ok (.iload_n 3, 1) := by decide +kernel
theorem dX3_turnBack_18 : decode cX3_turnBack 18 = .ok (.iload_n 2, 1) := by decide +kernel
theorem dX3_turnBack_19 : decode cX3_turnBack 19 = .ok (.if_icmp .eq 56, 3) := by decide +kernel
theorem dX3_turnBack_22 : decode cX3_turnBack 22 = .ok (.aload_n 0, 1) := by decide +kernel
theorem dX3_turnBack_23 : decode cX3_turnBack 23 = .ok (.getfield 19, 3) := by decide +kernel
theorem dX3_turnBack_26 : decode cX3_turnBack 26 = .ok (.iload_n 3, 1) := by decide +kernel
theorem dX3_turnBack_27 : decode cX3_turnBack 27 = .ok (.iaload, 1) := by decide +kernel
theorem dX3_turnBack_28 : decode cX3_turnBack 28 = .ok (.istore 5, 2) := by decide +kernel
theorem dX3_turnBack_30 : decode cX3_turnBack 30 = .ok (.aload_n 0, 1) := by decide +kernel
theorem dX3_turnBack_31 : decode cX3_turnBack 31 = .ok (.iload_n 3, 1) := by decide +kernel
theorem dX3_turnBack_32 : decode cX3_turnBack 32 = .ok (.invokevirtual 56, 3) := by decide +kernel
theorem dX3_turnBack_35 : decode cX3_turnBack 35 = .ok (.istore 6, 2) := by decide +kernel
theorem dX3_turnBack_37 : decode cX3_turnBack 37 = .ok (.iload 6, 2) := by decide +kernel
theorem dX3_turnBack_39 : decode cX3_turnBack 39 = .ok (.iconst (-1), 1) := by decide +kernel
theorem dX3_turnBack_40 : decode cX3_turnBack 40 = .ok (.if_icmp .ne 4, 3) := by decide +kernel
theorem dX3_turnBack_43 : decode cX3_turnBack 43 = .ok (.return_, 1) := by decide +kernel
theorem dX3_turnBack_44 : decode cX3_turnBack 44 = .ok (.aload_n 0, 1) := by decide +kernel
theorem dX3_turnBack_45 : decode cX3_turnBack 45 = .ok (.getfield 9, 3) := by decide +kernel
theorem dX3_turnBack_48 : decode cX3_turnBack 48 = .ok (.iload 5, 2) := by decide +kernel
theorem dX3_turnBack_50 : decode cX3_turnBack 50 = .ok (.aload_n 0, 1) := by decide +kernel
theorem dX3_turnBack_51 : decode cX3_turnBack 51 = .ok (.getfield 9, 3) := by decide +kernel
theorem dX3_turnBack_54 : decode cX3_turnBack 54 = .ok (.iload 5, 2) := by decide +kernel
theorem dX3_turnBack_56 : decode cX3_turnBack 56 = .ok (.baload, 1) := by decide +kernel
theorem dX3_turnBack_57 : decode cX3_turnBack 57 = .ok (.ifCond .ne 7, 3) := by decide +kernel
theorem dX3_turnBack_60 : decode cX3_turnBack 60 = .ok (.iconst 1, 1) := by decide +kernel
theorem dX3_turnBack_61 : decode cX3_turnBack 61 = .ok (.goto 4, 3) := by decide +kernel
theorem dX3_turnBack_64 : decode cX3_turnBack 64 = .ok (.iconst 0, 1) := by decide +kernel
theorem dX3_turnBack_65 : decode cX3_turnBack 65 = .ok (.bastore, 1) := by decide +kernel
theorem dX3_turnBack_66 : decode cX3_turnBack 66 = .ok (.iload 6, 2) := by decide +kernel
theorem dX3_turnBack_68 : decode cX3_turnBack 68 = .ok (.istore_n 3, 1) := by decide +kernel
theorem dX3_turnBack_69 : decode cX3_turnBack 69 = .ok (.iinc 4 1, 3) := by decide +kernel
theorem dX3_turnBack_72 : decode cX3_turnBack 72 = .ok (.goto (-67), 3) := by decide +kernel
theorem dX3_turnBack_75 : decode cX3_turnBack 75 = .ok (.return_, 1) := by decide +kernel
theorem dX3_nodeBefore_0 : decode cX3_nodeBefore 0 = .ok (.aload_n 0, 1) := by decide +kernel
theorem dX3_nodeBefore_1 : decode cX3_nodeBefore 1 = .ok (.getfield 19, 3) := by decide +kernel
theorem dX3_nodeBefore_4 : decode cX3_nodeBefore 4 = .ok (.iload_n 1, 1) := by decide +kernel
theorem dX3_nodeBefore_5 : decode cX3_nodeBefore 5 = .ok (.iaload, 1) := by decide +kernel
theorem dX3_nodeBefore_6 : decode cX3_nodeBefore 6 = .ok (.istore_n 2, 1) := by decide +kernel
theorem dX3_nodeBefore_7 : decode cX3_nodeBefore 7 = .ok (.iload_n 2, 1) := by decide +kernel
theorem dX3_nodeBefore_8 : decode cX3_nodeBefore 8 = .ok (.iconst (-1), 1) := by decide +kernel
theorem dX3_nodeBefore_9 : decode cX3_nodeBefore 9 = .ok (.if_icmp .ne 5, 3) := by decide +kernel
theorem dX3_nodeBefore_12 : decode cX3_nodeBefore 12 = .ok (.iconst (-1), 1) := by decide +kernel
theorem dX3_nodeBefore_13 : decode cX3_nodeBefore 13 = .ok (.ireturn, 1) := by decide +kernel
theorem dX3_nodeBefore_14 : decode cX3_nodeBefore 14 = .ok (.iload_n 2, 1) := by decide +kernel
theorem dX3_nodeBefore_15 : decode cX3_nodeBefore 15 = .ok (.bipush 15, 2) := by decide +kernel
theorem dX3_nodeBefore_17 : decode cX3_nodeBefore 17 = .ok (.idiv, 1) := by decide +kernel
theorem dX3_nodeBefore_18 : decode cX3_nodeBefore 18 = .ok (.istore_n 3, 1) := by decide +kernel
theorem dX3_nodeBefore_19 : decode cX3_nodeBefore 19 = .ok (.aload_n 0, 1) := by decide +kernel
theorem dX3_nodeBefore_20 : decode cX3_nodeBefore 20 = .ok (.getfield 9, 3) := by decide +kernel
theorem dX3_nodeBefore_23 : decode cX3_nodeBefore 23 = .ok (.iload_n 2, 1) := by decide +kernel
theorem dX3_nodeBefore_24 : decode cX3_nodeBefore 24 = .ok (.baload, 1) := by decide +kernel
theorem dX3_nodeBefore_25 : decode cX3_nodeBefore 25 = .ok (.ifCond .eq 15, 3) := by decide +kernel
theorem dX3_nodeBefore_28 : decode cX3_nodeBefore 28 = .ok (.aload_n 0, 1) := by decide +kernel
theorem dX3_nodeBefore_29 : decode cX3_nodeBefore 29 = .ok (.getfield 22, 3) := by decide +kernel
theorem dX3_nodeBefore_32 : decode cX3_nodeBefore 32 = .ok (.getfield 66, 3) := by decide +kernel
theorem dX3_nodeBefore_35 : decode cX3_nodeBefore 35 = .ok (.iload_n 3, 1) := by decide +kernel
theorem dX3_nodeBefore_36 : decode cX3_nodeBefore 36 = .ok (.iaload, 1) := by decide +kernel
theorem dX3_nodeBefore_37 : decode cX3_nodeBefore 37 = .ok (.goto 12, 3) := by decide +kernel
theorem dX3_nodeBefore_40 : decode cX3_nodeBefore 40 = .ok (.aload_n 0, 1) := by decide +kernel
theorem dX3_nodeBefore_41 : decode cX3_nodeBefore 41 = .ok (.getfield 22, 3) := by decide +kernel
theorem dX3_nodeBefore_44 : decode cX3_nodeBefore 44 = .ok (.getfield 69, 3) := by decide +kernel
theorem dX3_nodeBefore_47 : decode cX3_nodeBefore 47 = .ok (.iload_n 3, 1) := by decide +kernel
theorem dX3_nodeBefore_48 : decode cX3_nodeBefore 48 = .ok (.iaload, 1) := by decide +kernel
theorem dX3_nodeBefore_49 : decode cX3_nodeBefore 49 = .ok (.ireturn, 1) := by decide +kernel
set_option maxRecDepth 20000 in
theorem ggX3_priceOfTaken_X2_unitPrice : GoodIn wsX3_priceOfTaken wsX2_unitPrice := goodIn_r _ [9, 10, 11, 12, 17, 18, 19, 20, 21, 22, 23] (by decide +kernel) (by decide +kernel)
set_option maxRecDepth 20000 in
theorem gX3_priceOfTaken_X2_unitPrice : GoodIn wsX3_priceOfTaken (wsV RX3 72 RX2 yX2_unitPrice wsX2_unitPrice) := goodIn_app (goodIn_of _ (by decide +kernel)) ggX3_priceOfTaken_X2_unitPrice
theorem dX3_priceOfTaken_0 : decode cX3_priceOfTaken 0 = .ok (.iconst 0, 1) := by decide +kernel
theorem dX3_priceOfTaken_1 : decode cX3_priceOfTaken 1 = .ok (.istore_n 1, 1) := by decide +kernel
theorem dX3_priceOfTaken_2 : decode cX3_priceOfTaken 2 = .ok (.iconst 0, 1) := by decide +kernel
theorem dX3_priceOfTaken_3 : decode cX3_priceOfTaken 3 = .ok (.istore_n 2, 1) := by decide +kernel
theorem dX3_priceOfTaken_4 : decode cX3_priceOfTaken 4 = .ok (.iload_n 2, 1) := by decide +kernel
theorem dX3_priceOfTaken_5 : decode cX3_priceOfTaken 5 = .ok (.aload_n 0, 1) := by decide +kernel
theorem dX3_priceOfTaken_6 : decode cX3_priceOfTaken 6 = .ok (.getfield 22, 3) := by decide +kernel
theorem dX3_priceOfTaken_9 : decode cX3_priceOfTaken 9 = .ok (.getfield 60, 3) := by decide +kernel
theorem dX3_priceOfTaken_12 : decode cX3_priceOfTaken 12 = .ok (.if_icmp .ge 58, 3) := by decide +kernel
theorem dX3_priceOfTaken_15 : decode cX3_priceOfTaken 15 = .ok (.iconst 1, 1) := by decide +kernel
theorem dX3_priceOfTaken_16 : decode cX3_priceOfTaken 16 = .ok (.istore_n 3, 1) := by decide +kernel
theorem dX3_priceOfTaken_17 : decode cX3_priceOfTaken 17 = .ok (.iload_n 3, 1) := by decide +kernel
theorem dX3_priceOfTaken_18 : decode cX3_priceOfTaken 18 = .ok (.aload_n 0, 1) := by decide +kernel
theorem dX3_priceOfTaken_19 : decode cX3_priceOfTaken 19 = .ok (.getfield 22, 3) := by decide +kernel
theorem dX3_priceOfTaken_22 : decode cX3_priceOfTaken 22 = .ok (.getfield 63, 3) := by decide +kernel
theorem dX3_priceOfTaken_25 : decode cX3_priceOfTaken 25 = .ok (.iload_n 2, 1) := by decide +kernel
theorem dX3_priceOfTaken_26 : decode cX3_priceOfTaken 26 = .ok (.iaload, 1) := by decide +kernel
theorem dX3_priceOfTaken_27 : decode cX3_priceOfTaken 27 = .ok (.if_icmp .gt 37, 3) := by decide +kernel
theorem dX3_priceOfTaken_30 : decode cX3_priceOfTaken 30 = .ok (.aload_n 0, 1) := by decide +kernel
theorem dX3_priceOfTaken_31 : decode cX3_priceOfTaken 31 = .ok (.getfield 9, 3) := by decide +kernel
theorem dX3_priceOfTaken_34 : decode cX3_priceOfTaken 34 = .ok (.iload_n 2, 1) := by decide +kernel
theorem dX3_priceOfTaken_35 : decode cX3_priceOfTaken 35 = .ok (.bipush 15, 2) := by decide +kernel
theorem dX3_priceOfTaken_37 : decode cX3_priceOfTaken 37 = .ok (.imul, 1) := by decide +kernel
theorem dX3_priceOfTaken_38 : decode cX3_priceOfTaken 38 = .ok (.iload_n 3, 1) := by decide +kernel
theorem dX3_priceOfTaken_39 : decode cX3_priceOfTaken 39 = .ok (.iadd, 1) := by decide +kernel
theorem dX3_priceOfTaken_40 : decode cX3_priceOfTaken 40 = .ok (.iconst 1, 1) := by decide +kernel
theorem dX3_priceOfTaken_41 : decode cX3_priceOfTaken 41 = .ok (.isub, 1) := by decide +kernel
theorem dX3_priceOfTaken_42 : decode cX3_priceOfTaken 42 = .ok (.baload, 1) := by decide +kernel
theorem dX3_priceOfTaken_43 : decode cX3_priceOfTaken 43 = .ok (.ifCond .eq 15, 3) := by decide +kernel
theorem dX3_priceOfTaken_46 : decode cX3_priceOfTaken 46 = .ok (.iload_n 1, 1) := by decide +kernel
theorem dX3_priceOfTaken_47 : decode cX3_priceOfTaken 47 = .ok (.aload_n 0, 1) := by decide +kernel
theorem dX3_priceOfTaken_48 : decode cX3_priceOfTaken 48 = .ok (.getfield 22, 3) := by decide +kernel
theorem dX3_priceOfTaken_51 : decode cX3_priceOfTaken 51 = .ok (.iload_n 2, 1) := by decide +kernel
theorem dX3_priceOfTaken_52 : decode cX3_priceOfTaken 52 = .ok (.iload_n 3, 1) := by decide +kernel
theorem dX3_priceOfTaken_53 : decode cX3_priceOfTaken 53 = .ok (.invokevirtual 72, 3) := by decide +kernel
theorem dX3_priceOfTaken_56 : decode cX3_priceOfTaken 56 = .ok (.iadd, 1) := by decide +kernel
theorem dX3_priceOfTaken_57 : decode cX3_priceOfTaken 57 = .ok (.istore_n 1, 1) := by decide +kernel
theorem dX3_priceOfTaken_58 : decode cX3_priceOfTaken 58 = .ok (.iinc 3 1, 3) := by decide +kernel
theorem dX3_priceOfTaken_61 : decode cX3_priceOfTaken 61 = .ok (.goto (-44), 3) := by decide +kernel
theorem dX3_priceOfTaken_64 : decode cX3_priceOfTaken 64 = .ok (.iinc 2 1, 3) := by decide +kernel
theorem dX3_priceOfTaken_67 : decode cX3_priceOfTaken 67 = .ok (.goto (-63), 3) := by decide +kernel
theorem dX3_priceOfTaken_70 : decode cX3_priceOfTaken 70 = .ok (.iload_n 1, 1) := by decide +kernel
theorem dX3_priceOfTaken_71 : decode cX3_priceOfTaken 71 = .ok (.ireturn, 1) := by decide +kernel
