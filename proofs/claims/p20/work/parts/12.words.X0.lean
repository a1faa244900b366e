theorem dX0_init_0 : decode cX0_init 0 = .ok (.aload_n 0, 1) := by decide +kernel
theorem dX0_init_1 : decode cX0_init 1 = .ok (.invokespecial 3, 3) := by decide +kernel
theorem dX0_init_4 : decode cX0_init 4 = .ok (.aload_n 0, 1) := by decide +kernel
theorem dX0_init_5 : decode cX0_init 5 = .ok (.bipush 12, 2) := by decide +kernel
theorem dX0_init_7 : decode cX0_init 7 = .ok (.newarray .int, 2) := by decide +kernel
theorem dX0_init_9 : decode cX0_init 9 = .ok (.putfield 9, 3) := by decide +kernel
theorem dX0_init_12 : decode cX0_init 12 = .ok (.aload_n 0, 1) := by decide +kernel
theorem dX0_init_13 : decode cX0_init 13 = .ok (.bipush 12, 2) := by decide +kernel
theorem dX0_init_15 : decode cX0_init 15 = .ok (.newarray .int, 2) := by decide +kernel
theorem dX0_init_17 : decode cX0_init 17 = .ok (.putfield 15, 3) := by decide +kernel
theorem dX0_init_20 : decode cX0_init 20 = .ok (.aload_n 0, 1) := by decide +kernel
theorem dX0_init_21 : decode cX0_init 21 = .ok (.bipush 12, 2) := by decide +kernel
theorem dX0_init_23 : decode cX0_init 23 = .ok (.newarray .int, 2) := by decide +kernel
theorem dX0_init_25 : decode cX0_init 25 = .ok (.putfield 18, 3) := by decide +kernel
theorem dX0_init_28 : decode cX0_init 28 = .ok (.aload_n 0, 1) := by decide +kernel
theorem dX0_init_29 : decode cX0_init 29 = .ok (.bipush 8, 2) := by decide +kernel
theorem dX0_init_31 : decode cX0_init 31 = .ok (.newarray .int, 2) := by decide +kernel
theorem dX0_init_33 : decode cX0_init 33 = .ok (.putfield 21, 3) := by decide +kernel
theorem dX0_init_36 : decode cX0_init 36 = .ok (.aload_n 0, 1) := by decide +kernel
theorem dX0_init_37 : decode cX0_init 37 = .ok (.bipush 8, 2) := by decide +kernel
theorem dX0_init_39 : decode cX0_init 39 = .ok (.newarray .int, 2) := by decide +kernel
theorem dX0_init_41 : decode cX0_init 41 = .ok (.putfield 24, 3) := by decide +kernel
theorem dX0_init_44 : decode cX0_init 44 = .ok (.aload_n 0, 1) := by decide +kernel
theorem dX0_init_45 : decode cX0_init 45 = .ok (.aload_n 1, 1) := by decide +kernel
theorem dX0_init_46 : decode cX0_init 46 = .ok (.putfield 27, 3) := by decide +kernel
theorem dX0_init_49 : decode cX0_init 49 = .ok (.return_, 1) := by decide +kernel
set_option maxRecDepth 20000 in
theorem ggX0_meet_X0_empty : GoodIn wsX0_meet wsX0_empty := goodIn_r _ [5, 6, 7, 8, 9, 10, 11, 79, 80, 81, 82, 83, 84, 85, 86, 87, 88, 89, 90, 91] (by decide +kernel) (by decide +kernel)
set_option maxRecDepth 20000 in
theorem gX0_meet_X0_empty : GoodIn wsX0_meet (wsV RX0 31 RX0 yX0_empty wsX0_empty) := goodIn_app (goodIn_of _ (by decide +kernel)) ggX0_meet_X0_empty
set_option maxRecDepth 20000 in
theorem ggX0_meet_X0_measureFrom : GoodIn wsX0_meet wsX0_measureFrom := goodIn_r _ [15, 6, 16, 17, 18, 19, 20, 21, 22, 4, 23, 24, 25, 26, 27, 28, 29, 30, 31, 32, 33, 34, 35, 36, 37, 38, 39, 40, 41, 42, 43, 44, 45, 46, 47, 48, 49, 50, 51, 52, 53, 10, 8, 9, 54, 55, 56, 57, 58, 59, 60, 61, 62, 63, 64, 65, 66, 79, 80, 81, 82, 83, 84, 85, 86, 87, 88, 89, 90, 91] (by decide +kernel) (by decide +kernel)
set_option maxRecDepth 20000 in
theorem gX0_meet_X0_measureFrom : GoodIn wsX0_meet (wsV RX0 34 RX0 yX0_measureFrom wsX0_measureFrom) := goodIn_app (goodIn_of _ (by decide +kernel)) ggX0_meet_X0_measureFrom
set_option maxRecDepth 20000 in
theorem ggX0_meet_X0_sendOnWay : GoodIn wsX0_meet wsX0_sendOnWay := goodIn_r _ [70, 71, 72, 73, 74, 6, 16, 19, 8, 75, 76, 77, 4, 78, 18, 50, 51, 52, 53, 10, 9, 54, 44, 27, 45, 55, 41, 42, 34, 35, 36, 37, 38, 39, 40, 43, 79, 80, 81, 82, 83, 84, 85, 86, 87, 88, 89, 90, 91] (by decide +kernel) (by decide +kernel)
set_option maxRecDepth 20000 in
theorem gX0_meet_X0_sendOnWay : GoodIn wsX0_meet (wsV RX0 38 RX0 yX0_sendOnWay wsX0_sendOnWay) := goodIn_app (goodIn_of _ (by decide +kernel)) ggX0_meet_X0_sendOnWay
theorem dX0_meet_0 : decode cX0_meet 0 = .ok (.aload_n 0, 1) := by decide +kernel
theorem dX0_meet_1 : decode cX0_meet 1 = .ok (.invokevirtual 31, 3) := by decide +kernel
theorem dX0_meet_4 : decode cX0_meet 4 = .ok (.iconst 0, 1) := by decide +kernel
theorem dX0_meet_5 : decode cX0_meet 5 = .ok (.istore 4, 2) := by decide +kernel
theorem dX0_meet_7 : decode cX0_meet 7 = .ok (.iload 4, 2) := by decide +kernel
theorem dX0_meet_9 : decode cX0_meet 9 = .ok (.iload_n 3, 1) := by decide +kernel
theorem dX0_meet_10 : decode cX0_meet 10 = .ok (.if_icmp .ge 26, 3) := by decide +kernel
theorem dX0_meet_13 : decode cX0_meet 13 = .ok (.aload_n 0, 1) := by decide +kernel
theorem dX0_meet_14 : decode cX0_meet 14 = .ok (.iload_n 1, 1) := by decide +kernel
theorem dX0_meet_15 : decode cX0_meet 15 = .ok (.invokevirtual 34, 3) := by decide +kernel
theorem dX0_meet_18 : decode cX0_meet 18 = .ok (.aload_n 0, 1) := by decide +kernel
theorem dX0_meet_19 : decode cX0_meet 19 = .ok (.iload_n 1, 1) := by decide +kernel
theorem dX0_meet_20 : decode cX0_meet 20 = .ok (.iload_n 2, 1) := by decide +kernel
theorem dX0_meet_21 : decode cX0_meet 21 = .ok (.iconst 1, 1) := by decide +kernel
theorem dX0_meet_22 : decode cX0_meet 22 = .ok (.invokevirtual 38, 3) := by decide +kernel
theorem dX0_meet_25 : decode cX0_meet 25 = .ok (.ifCond .ne 5, 3) := by decide +kernel
theorem dX0_meet_28 : decode cX0_meet 28 = .ok (.iconst 0, 1) := by decide +kernel
theorem dX0_meet_29 : decode cX0_meet 29 = .ok (.ireturn, 1) := by decide +kernel
theorem dX0_meet_30 : decode cX0_meet 30 = .ok (.iinc 4 1, 3) := by decide +kernel
theorem dX0_meet_33 : decode cX0_meet 33 = .ok (.goto (-26), 3) := by decide +kernel
theorem dX0_meet_36 : decode cX0_meet 36 = .ok (.iconst 1, 1) := by decide +kernel
theorem dX0_meet_37 : decode cX0_meet 37 = .ok (.ireturn, 1) := by decide +kernel
set_option maxRecDepth 20000 in
theorem ggX0_greatestAmount_X0_empty : GoodIn wsX0_greatestAmount wsX0_empty := goodIn_r _ [5, 6, 7, 8, 9, 10, 11, 67, 68, 69, 70, 71, 72, 73, 74, 75, 76, 77, 78, 79] (by decide +kernel) (by decide +kernel)
set_option maxRecDepth 20000 in
theorem gX0_greatestAmount_X0_empty : GoodIn wsX0_greatestAmount (wsV RX0 31 RX0 yX0_empty wsX0_empty) := goodIn_app (goodIn_of _ (by decide +kernel)) ggX0_greatestAmount_X0_empty
set_option maxRecDepth 20000 in
theorem ggX0_greatestAmount_X0_send : GoodIn wsX0_greatestAmount wsX0_send := goodIn_r _ [15, 16, 17, 18, 4, 19, 6, 20, 21, 22, 23, 24, 25, 26, 27, 28, 29, 30, 31, 32, 33, 34, 35, 36, 37, 38, 39, 40, 41, 42, 43, 44, 45, 46, 47, 48, 49, 50, 51, 10, 8, 9, 52, 53, 54, 55, 56, 57, 58, 59, 60, 61, 62, 63, 64, 65, 66, 67, 68, 69, 70, 71, 72, 73, 74, 75, 76, 77, 78, 79] (by decide +kernel) (by decide +kernel)
set_option maxRecDepth 20000 in
theorem gX0_greatestAmount_X0_send : GoodIn wsX0_greatestAmount (wsV RX0 42 RX0 yX0_send wsX0_send) := goodIn_app (goodIn_of _ (by decide +kernel)) ggX0_greatestAmount_X0_send
theorem dX0_greatestAmount_0 : decode cX0_greatestAmount 0 = .ok (.aload_n 0, 1) := by decide +kernel
theorem dX0_greatestAmount_1 : decode cX0_greatestAmount 1 = .ok (.invokevirtual 31, 3) := by decide +kernel
theorem dX0_greatestAmount_4 : decode cX0_greatestAmount 4 = .ok (.aload_n 0, 1) := by decide +kernel
theorem dX0_greatestAmount_5 : decode cX0_greatestAmount 5 = .ok (.iload_n 1, 1) := by decide +kernel
theorem dX0_greatestAmount_6 : decode cX0_greatestAmount 6 = .ok (.iload_n 2, 1) := by decide +kernel
theorem dX0_greatestAmount_7 : decode cX0_greatestAmount 7 = .ok (.sipush 180, 3) := by decide +kernel
theorem dX0_greatestAmount_10 : decode cX0_greatestAmount 10 = .ok (.invokevirtual 42, 3) := by decide +kernel
theorem dX0_greatestAmount_13 : decode cX0_greatestAmount 13 = .ok (.ireturn, 1) := by decide +kernel
set_option maxRecDepth 20000 in
theorem ggX0_totalPrice_X2_unitPrice : GoodIn wsX0_totalPrice wsX2_unitPrice := goodIn_r _ [8, 9, 10, 11, 18, 19, 20, 21, 22, 23, 24] (by decide +kernel) (by decide +kernel)
set_option maxRecDepth 20000 in
theorem gX0_totalPrice_X2_unitPrice : GoodIn wsX0_totalPrice (wsV RX0 51 RX2 yX2_unitPrice wsX2_unitPrice) := goodIn_app (goodIn_of _ (by decide +kernel)) ggX0_totalPrice_X2_unitPrice
theorem dX0_totalPrice_0 : decode cX0_totalPrice 0 = .ok (.iconst 0, 1) := by decide +kernel
theorem dX0_totalPrice_1 : decode cX0_totalPrice 1 = .ok (.istore_n 1, 1) := by decide +kernel
theorem dX0_totalPrice_2 : decode cX0_totalPrice 2 = .ok (.iconst 0, 1) := by decide +kernel
theorem dX0_totalPrice_3 : decode cX0_totalPrice 3 = .ok (.istore_n 2, 1) := by decide +kernel
theorem dX0_totalPrice_4 : decode cX0_totalPrice 4 = .ok (.iload_n 2, 1) := by decide +kernel
theorem dX0_totalPrice_5 : decode cX0_totalPrice 5 = .ok (.aload_n 0, 1) := by decide +kernel
theorem dX0_totalPrice_6 : decode cX0_totalPrice 6 = .ok (.getfield 27, 3) := by decide +kernel
theorem dX0_totalPrice_9 : decode cX0_totalPrice 9 = .ok (.getfield 45, 3) := by decide +kernel
theorem dX0_totalPrice_12 : decode cX0_totalPrice 12 = .ok (.if_icmp .ge 39, 3) := by decide +kernel
theorem dX0_totalPrice_15 : decode cX0_totalPrice 15 = .ok (.iconst 1, 1) := by decide +kernel
theorem dX0_totalPrice_16 : decode cX0_totalPrice 16 = .ok (.istore_n 3, 1) := by decide +kernel
theorem dX0_totalPrice_17 : decode cX0_totalPrice 17 = .ok (.iload_n 3, 1) := by decide +kernel
theorem dX0_totalPrice_18 : decode cX0_totalPrice 18 = .ok (.aload_n 0, 1) := by decide +kernel
theorem dX0_totalPrice_19 : decode cX0_totalPrice 19 = .ok (.getfield 9, 3) := by decide +kernel
theorem dX0_totalPrice_22 : decode cX0_totalPrice 22 = .ok (.iload_n 2, 1) := by decide +kernel
theorem dX0_totalPrice_23 : decode cX0_totalPrice 23 = .ok (.iaload, 1) := by decide +kernel
theorem dX0_totalPrice_24 : decode cX0_totalPrice 24 = .ok (.if_icmp .gt 21, 3) := by decide +kernel
theorem dX0_totalPrice_27 : decode cX0_totalPrice 27 = .ok (.iload_n 1, 1) := by decide +kernel
theorem dX0_totalPrice_28 : decode cX0_totalPrice 28 = .ok (.aload_n 0, 1) := by decide +kernel
theorem dX0_totalPrice_29 : decode cX0_totalPrice 29 = .ok (.getfield 27, 3) := by decide +kernel
theorem dX0_totalPrice_32 : decode cX0_totalPrice 32 = .ok (.iload_n 2, 1) := by decide +kernel
theorem dX0_totalPrice_33 : decode cX0_totalPrice 33 = .ok (.iload_n 3, 1) := by decide +kernel
theorem dX0_totalPrice_34 : decode cX0_totalPrice 34 = .ok (.invokevirtual 51, 3) := by decide +kernel
theorem dX0_totalPrice_37 : decode cX0_totalPrice 37 = .ok (.iadd, 1) := by decide +kernel
theorem dX0_totalPrice_38 : decode cX0_totalPrice 38 = .ok (.istore_n 1, 1) := by decide +kernel
theorem dX0_totalPrice_39 : decode cX0_totalPrice 39 = .ok (.iinc 3 1, 3) := by decide +kernel
theorem dX0_totalPrice_42 : decode cX0_totalPrice 42 = .ok (.goto (-25), 3) := by decide +kernel
theorem dX0_totalPrice_45 : decode cX0_totalPrice 45 = .ok (.iinc 2 1, 3) := by decide +kernel
theorem dX0_totalPrice_48 : decode cX0_totalPrice 48 = .ok (.goto (-44), 3) := by decide +kernel
theorem dX0_totalPrice_51 : decode cX0_totalPrice 51 = .ok (.iload_n 1, 1) := by decide +kernel
theorem dX0_totalPrice_52 : decode cX0_totalPrice 52 = .ok (.ireturn, 1) := by decide +kernel
set_option maxRecDepth 20000 in
theorem ggX0_priceOfUnitMore_X0_measureFrom : GoodIn wsX0_priceOfUnitMore wsX0_measureFrom := goodIn_r _ [7, 8, 9, 1, 2, 10, 11, 12, 13, 6, 14, 15, 16, 17, 18, 19, 20, 21, 22, 23, 24, 25, 26, 27, 28, 29, 30, 31, 32, 33, 34, 35, 36, 37, 38, 39, 40, 41, 42, 43, 44, 45, 46, 47, 48, 49, 50, 51, 52, 53, 54, 55, 56, 57, 58, 59, 60, 61, 62, 63, 64, 65, 66, 67, 68, 69, 70, 71, 72, 73] (by decide +kernel) (by decide +kernel)
set_option maxRecDepth 20000 in
theorem gX0_priceOfUnitMore_X0_measureFrom : GoodIn wsX0_priceOfUnitMore (wsV RX0 34 RX0 yX0_measureFrom wsX0_measureFrom) := goodIn_app (goodIn_of _ (by decide +kernel)) ggX0_priceOfUnitMore_X0_measureFrom
theorem dX0_priceOfUnitMore_0 : decode cX0_priceOfUnitMore 0 = .ok (.aload_n 0, 1) := by decide +kernel
theorem dX0_priceOfUnitMore_1 : decode cX0_priceOfUnitMore 1 = .ok (.iload_n 1, 1) := by decide +kernel
theorem dX0_priceOfUnitMore_2 : decode cX0_priceOfUnitMore 2 = .ok (.invokevirtual 34, 3) := by decide +kernel
theorem dX0_priceOfUnitMore_5 : decode cX0_priceOfUnitMore 5 = .ok (.aload_n 0, 1) := by decide +kernel
theorem dX0_priceOfUnitMore_6 : decode cX0_priceOfUnitMore 6 = .ok (.getfield 21, 3) := by decide +kernel
theorem dX0_priceOfUnitMore_9 : decode cX0_priceOfUnitMore 9 = .ok (.iload_n 2, 1) := by decide +kernel
theorem dX0_priceOfUnitMore_10 : decode cX0_priceOfUnitMore 10 = .ok (.iaload, 1) := by decide +kernel
theorem dX0_priceOfUnitMore_11 : decode cX0_priceOfUnitMore 11 = .ok (.ldc 55, 2) := by decide +kernel
theorem dX0_priceOfUnitMore_13 : decode cX0_priceOfUnitMore 13 = .ok (.if_icmp .ge 12, 3) := by decide +kernel
theorem dX0_priceOfUnitMore_16 : decode cX0_priceOfUnitMore 16 = .ok (.aload_n 0, 1) := by decide +kernel
theorem dX0_priceOfUnitMore_17 : decode cX0_priceOfUnitMore 17 = .ok (.getfield 21, 3) := by decide +kernel
theorem dX0_priceOfUnitMore_20 : decode cX0_priceOfUnitMore 20 = .ok (.iload_n 2, 1) := by decide +kernel
theorem dX0_priceOfUnitMore_21 : decode cX0_priceOfUnitMore 21 = .ok (.iaload, 1) := by decide +kernel
theorem dX0_priceOfUnitMore_22 : decode cX0_priceOfUnitMore 22 = .ok (.goto 4, 3) := by decide +kernel
theorem dX0_priceOfUnitMore_25 : decode cX0_priceOfUnitMore 25 = .ok (.iconst (-1), 1) := by decide +kernel
theorem dX0_priceOfUnitMore_26 : decode cX0_priceOfUnitMore 26 = .ok (.ireturn, 1) := by decide +kernel
set_option maxRecDepth 20000 in
theorem ggX0_keepToCheapest_X0_measureFromAll : GoodIn wsX0_keepToCheapest wsX0_measureFromAll := goodIn_r _ [13, 1, 14, 3, 15, 16, 17, 18, 12, 19, 20, 21, 22, 23, 24, 25, 26, 27, 28, 29, 30, 31, 32, 33, 34, 35, 36, 37, 38, 39, 40, 41, 42, 43, 44, 45, 46, 47, 48, 49, 50, 7, 51, 6, 52, 53, 54, 55, 56, 57, 58, 59, 60, 61, 62, 63, 64, 65, 66, 67, 68, 69, 70, 71, 72, 73, 74, 75, 76, 77] (by decide +kernel) (by decide +kernel)
set_option maxRecDepth 20000 in
theorem gX0_keepToCheapest_X0_measureFromAll : GoodIn wsX0_keepToCheapest (wsV RX0 56 RX0 yX0_measureFromAll wsX0_measureFromAll) := goodIn_app (goodIn_of _ (by decide +kernel)) ggX0_keepToCheapest_X0_measureFromAll
set_option maxRecDepth 20000 in
theorem ggX0_keepToCheapest_X2_unitPrice : GoodIn wsX0_keepToCheapest wsX2_unitPrice := goodIn_r _ [61, 62, 63, 64, 71, 72, 73, 74, 75, 76, 77] (by decide +kernel) (by decide +kernel)
set_option maxRecDepth 20000 in
theorem gX0_keepToCheapest_X2_unitPrice : GoodIn wsX0_keepToCheapest (wsV RX0 51 RX2 yX2_unitPrice wsX2_unitPrice) := goodIn_app (goodIn_of _ (by decide +kernel)) ggX0_keepToCheapest_X2_unitPrice
theorem dX0_keepToCheapest_0 : decode cX0_keepToCheapest 0 = .ok (.aload_n 0, 1) := by decide +kernel
theorem dX0_keepToCheapest_1 : decode cX0_keepToCheapest 1 = .ok (.invokevirtual 56, 3) := by decide +kernel
theorem dX0_keepToCheapest_4 : decode cX0_keepToCheapest 4 = .ok (.iconst 0, 1) := by decide +kernel
theorem dX0_keepToCheapest_5 : decode cX0_keepToCheapest 5 = .ok (.istore_n 1, 1) := by decide +kernel
theorem dX0_keepToCheapest_6 : decode cX0_keepToCheapest 6 = .ok (.iload_n 1, 1) := by decide +kernel
theorem dX0_keepToCheapest_7 : decode cX0_keepToCheapest 7 = .ok (.aload_n 0, 1) := by decide +kernel
theorem dX0_keepToCheapest_8 : decode cX0_keepToCheapest 8 = .ok (.getfield 27, 3) := by decide +kernel
theorem dX0_keepToCheapest_11 : decode cX0_keepToCheapest 11 = .ok (.getfield 45, 3) := by decide +kernel
theorem dX0_keepToCheapest_14 : decode cX0_keepToCheapest 14 = .ok (.if_icmp .ge 125, 3) := by decide +kernel
theorem dX0_keepToCheapest_17 : decode cX0_keepToCheapest 17 = .ok (.aload_n 0, 1) := by decide +kernel
theorem dX0_keepToCheapest_18 : decode cX0_keepToCheapest 18 = .ok (.getfield 21, 3) := by decide +kernel
theorem dX0_keepToCheapest_21 : decode cX0_keepToCheapest 21 = .ok (.aload_n 0, 1) := by decide +kernel
theorem dX0_keepToCheapest_22 : decode cX0_keepToCheapest 22 = .ok (.getfield 27, 3) := by decide +kernel
theorem dX0_keepToCheapest_25 : decode cX0_keepToCheapest 25 = .ok (.getfield 59, 3) := by decide +kernel
theorem dX0_keepToCheapest_28 : decode cX0_keepToCheapest 28 = .ok (.iload_n 1, 1) := by decide +kernel
theorem dX0_keepToCheapest_29 : decode cX0_keepToCheapest 29 = .ok (.iaload, 1) := by decide +kernel
theorem dX0_keepToCheapest_30 : decode cX0_keepToCheapest 30 = .ok (.iaload, 1) := by decide +kernel
theorem dX0_keepToCheapest_31 : decode cX0_keepToCheapest 31 = .ok (.aload_n 0, 1) := by decide +kernel
theorem dX0_keepToCheapest_32 : decode cX0_keepToCheapest 32 = .ok (.getfield 21, 3) := by decide +kernel
theorem dX0_keepToCheapest_35 : decode cX0_keepToCheapest 35 = .ok (.aload_n 0, 1) := by decide +kernel
theorem dX0_keepToCheapest_36 : decode cX0_keepToCheapest 36 = .ok (.getfield 27, 3) := by decide +kernel
theorem dX0_keepToCheapest_39 : decode cX0_keepToCheapest 39 = .ok (.getfield 62, 3) := by decide +kernel
theorem dX0_keepToCheapest_42 : decode cX0_keepToCheapest 42 = .ok (.iload_n 1, 1) := by decide +kernel
theorem dX0_keepToCheapest_43 : decode cX0_keepToCheapest 43 = .ok (.iaload, 1) := by decide +kernel
theorem dX0_keepToCheapest_44 : decode cX0_keepToCheapest 44 = .ok (.iaload, 1) := by decide +kernel
theorem dX0_keepToCheapest_45 : decode cX0_keepToCheapest 45 = .ok (.isub, 1) := by decide +kernel
theorem dX0_keepToCheapest_46 : decode cX0_keepToCheapest 46 = .ok (.istore_n 2, 1) := by decide +kernel
theorem dX0_keepToCheapest_47 : decode cX0_keepToCheapest 47 = .ok (.aload_n 0, 1) := by decide +kernel
theorem dX0_keepToCheapest_48 : decode cX0_keepToCheapest 48 = .ok (.getfield 15, 3) := by decide +kernel
theorem dX0_keepToCheapest_51 : decode cX0_keepToCheapest 51 = .ok (.iload_n 1, 1) := by decide +kernel
theorem dX0_keepToCheapest_52 : decode cX0_keepToCheapest 52 = .ok (.iconst 0, 1) := by decide +kernel
theorem dX0_keepToCheapest_53 : decode cX0_keepToCheapest 53 = .ok (.iastore, 1) := by decide +kernel
theorem dX0_keepToCheapest_54 : decode cX0_keepToCheapest 54 = .ok (.aload_n 0, 1) := by decide +kernel
theorem dX0_keepToCheapest_55 : decode cX0_keepToCheapest 55 = .ok (.getfield 18, 3) := by decide +kernel
theorem dX0_keepToCheapest_58 : decode cX0_keepToCheapest 58 = .ok (.iload_n 1, 1) := by decide +kernel
theorem dX0_keepToCheapest_59 : decode cX0_keepToCheapest 59 = .ok (.iconst 0, 1) := by decide +kernel
theorem dX0_keepToCheapest_60 : decode cX0_keepToCheapest 60 = .ok (.iastore, 1) := by decide +kernel
theorem dX0_keepToCheapest_61 : decode cX0_keepToCheapest 61 = .ok (.iconst 1, 1) := by decide +kernel
theorem dX0_keepToCheapest_62 : decode cX0_keepToCheapest 62 = .ok (.istore_n 3, 1) := by decide +kernel
theorem dX0_keepToCheapest_63 : decode cX0_keepToCheapest 63 = .ok (.iload_n 3, 1) := by decide +kernel
theorem dX0_keepToCheapest_64 : decode cX0_keepToCheapest 64 = .ok (.aload_n 0, 1) := by decide +kernel
theorem dX0_keepToCheapest_65 : decode cX0_keepToCheapest 65 = .ok (.getfield 27, 3) := by decide +kernel
theorem dX0_keepToCheapest_68 : decode cX0_keepToCheapest 68 = .ok (.getfield 65, 3) := by decide +kernel
theorem dX0_keepToCheapest_71 : decode cX0_keepToCheapest 71 = .ok (.iload_n 1, 1) := by decide +kernel
theorem dX0_keepToCheapest_72 : decode cX0_keepToCheapest 72 = .ok (.iaload, 1) := by decide +kernel
theorem dX0_keepToCheapest_73 : decode cX0_keepToCheapest 73 = .ok (.if_icmp .gt 60, 3) := by decide +kernel
theorem dX0_keepToCheapest_76 : decode cX0_keepToCheapest 76 = .ok (.aload_n 0, 1) := by decide +kernel
theorem dX0_keepToCheapest_77 : decode cX0_keepToCheapest 77 = .ok (.getfield 27, 3) := by decide +kernel
theorem dX0_keepToCheapest_80 : decode cX0_keepToCheapest 80 = .ok (.iload_n 1, 1) := by decide +kernel
theorem dX0_keepToCheapest_81 : decode cX0_keepToCheapest 81 = .ok (.iload_n 3, 1) := by decide +kernel
theorem dX0_keepToCheapest_82 : decode cX0_keepToCheapest 82 = .ok (.invokevirtual 51, 3) := by decide +kernel
theorem dX0_keepToCheapest_85 : decode cX0_keepToCheapest 85 = .ok (.istore 4, 2) := by decide +kernel
theorem dX0_keepToCheapest_87 : decode cX0_keepToCheapest 87 = .ok (.aload_n 0, 1) := by decide +kernel
theorem dX0_keepToCheapest_88 : decode cX0_keepToCheapest 88 = .ok (.getfield 15, 3) := by decide +kernel
theorem dX0_keepToCheapest_91 : decode cX0_keepToCheapest 91 = .ok (.iload_n 1, 1) := by decide +kernel
theorem dX0_keepToCheapest_92 : decode cX0_keepToCheapest 92 = .ok (.dup2, 1) := by decide +kernel
theorem dX0_keepToCheapest_93 : decode cX0_keepToCheapest 93 = .ok (.iaload, 1) := by decide +kernel
theorem dX0_keepToCheapest_94 : decode cX0_keepToCheapest 94 = .ok (.iload 4, 2) := by decide +kernel
theorem dX0_keepToCheapest_96 : decode cX0_keepToCheapest 96 = .ok (.iload_n 2, 1) := by decide +kernel
theorem dX0_keepToCheapest_97 : decode cX0_keepToCheapest 97 = .ok (.if_icmp .ge 7, 3) := by decide +kernel
theorem dX0_keepToCheapest_100 : decode cX0_keepToCheapest 100 = .ok (.iconst 1, 1) := by decide +kernel
theorem dX0_keepToCheapest_101 : decode cX0_keepToCheapest 101 = .ok (.goto 4, 3) := by decide +kernel
theorem dX0_keepToCheapest_104 : decode cX0_keepToCheapest 104 = .ok (.iconst 0, 1) := by decide +kernel
theorem dX0_keepToCheapest_105 : decode cX0_keepToCheapest 105 = .ok (.iadd, 1) := by decide +kernel
theorem dX0_keepToCheapest_106 : decode cX0_keepToCheapest 106 = .ok (.iastore, 1) := by decide +kernel
theorem dX0_keepToCheapest_107 : decode cX0_keepToCheapest 107 = .ok (.aload_n 0, 1) := by decide +kernel
theorem dX0_keepToCheapest_108 : decode cX0_keepToCheapest 108 = .ok (.getfield 18, 3) := by decide +kernel
theorem dX0_keepToCheapest_111 : decode cX0_keepToCheapest 111 = .ok (.iload_n 1, 1) := by decide +kernel
theorem dX0_keepToCheapest_112 : decode cX0_keepToCheapest 112 = .ok (.dup2, 1) := by decide +kernel
theorem dX0_keepToCheapest_113 : decode cX0_keepToCheapest 113 = .ok (.iaload, 1) := by decide +kernel
theorem dX0_keepToCheapest_114 : decode cX0_keepToCheapest 114 = .ok (.iload 4, 2) := by decide +kernel
theorem dX0_keepToCheapest_116 : decode cX0_keepToCheapest 116 = .ok (.iload_n 2, 1) := by decide +kernel
theorem dX0_keepToCheapest_117 : decode cX0_keepToCheapest 117 = .ok (.if_icmp .gt 7, 3) := by decide +kernel
theorem dX0_keepToCheapest_120 : decode cX0_keepToCheapest 120 = .ok (.iconst 1, 1) := by decide +kernel
theorem dX0_keepToCheapest_121 : decode cX0_keepToCheapest 121 = .ok (.goto 4, 3) := by decide +kernel
theorem dX0_keepToCheapest_124 : decode cX0_keepToCheapest 124 = .ok (.iconst 0, 1) := by decide +kernel
theorem dX0_keepToCheapest_125 : decode cX0_keepToCheapest 125 = .ok (.iadd, 1) := by decide +kernel
theorem dX0_keepToCheapest_126 : decode cX0_keepToCheapest 126 = .ok (.iastore, 1) := by decide +kernel
theorem dX0_keepToCheapest_127 : decode cX0_keepToCheapest 127 = .ok (.iinc 3 1, 3) := by decide +kernel
theorem dX0_keepToCheapest_130 : decode cX0_keepToCheapest 130 = .ok (.goto (-67), 3) := by decide +kernel
theorem dX0_keepToCheapest_133 : decode cX0_keepToCheapest 133 = .ok (.iinc 1 1, 3) := by decide +kernel
theorem dX0_keepToCheapest_136 : decode cX0_keepToCheapest 136 = .ok (.goto (-130), 3) := by decide +kernel
theorem dX0_keepToCheapest_139 : decode cX0_keepToCheapest 139 = .ok (.return_, 1) := by decide +kernel
set_option maxRecDepth 20000 in
theorem ggX0_lower_X0_hold : GoodIn wsX0_lower wsX0_hold := goodIn_r _ [10, 2, 1, 11, 67, 68, 69, 70, 71, 72] (by decide +kernel) (by decide +kernel)
set_option maxRecDepth 20000 in
theorem gX0_lower_X0_hold : GoodIn wsX0_lower (wsV RX0 68 RX0 yX0_hold wsX0_hold) := goodIn_app (goodIn_of _ (by decide +kernel)) ggX0_lower_X0_hold
set_option maxRecDepth 20000 in
theorem ggX0_lower_X0_send : GoodIn wsX0_lower wsX0_send := goodIn_r _ [15, 16, 17, 18, 9, 19, 3, 20, 21, 22, 23, 24, 25, 26, 27, 28, 29, 30, 31, 32, 33, 34, 35, 36, 37, 38, 39, 40, 41, 42, 43, 44, 45, 46, 47, 48, 49, 50, 51, 11, 1, 2, 52, 53, 54, 55, 56, 57, 58, 59, 60, 61, 62, 63, 64, 65, 66, 67, 68, 69, 70, 71, 72, 73, 74, 75, 76, 77, 78, 79] (by decide +kernel) (by decide +kernel)
set_option maxRecDepth 20000 in
theorem gX0_lower_X0_send : GoodIn wsX0_lower (wsV RX0 42 RX0 yX0_send wsX0_send) := goodIn_app (goodIn_of _ (by decide +kernel)) ggX0_lower_X0_send
theorem dX0_lower_0 : decode cX0_lower 0 = .ok (.aload_n 0, 1) := by decide +kernel
theorem dX0_lower_1 : decode cX0_lower 1 = .ok (.getfield 9, 3) := by decide +kernel
theorem dX0_lower_4 : decode cX0_lower 4 = .ok (.iload_n 1, 1) := by decide +kernel
theorem dX0_lower_5 : decode cX0_lower 5 = .ok (.iaload, 1) := by decide +kernel
theorem dX0_lower_6 : decode cX0_lower 6 = .ok (.aload_n 0, 1) := by decide +kernel
theorem dX0_lower_7 : decode cX0_lower 7 = .ok (.getfield 15, 3) := by decide +kernel
theorem dX0_lower_10 : decode cX0_lower 10 = .ok (.iload_n 1, 1) := by decide +kernel
theorem dX0_lower_11 : decode cX0_lower 11 = .ok (.iaload, 1) := by decide +kernel
theorem dX0_lower_12 : decode cX0_lower 12 = .ok (.isub, 1) := by decide +kernel
theorem dX0_lower_13 : decode cX0_lower 13 = .ok (.istore_n 2, 1) := by decide +kernel
theorem dX0_lower_14 : decode cX0_lower 14 = .ok (.aload_n 0, 1) := by decide +kernel
theorem dX0_lower_15 : decode cX0_lower 15 = .ok (.iload_n 1, 1) := by decide +kernel
theorem dX0_lower_16 : decode cX0_lower 16 = .ok (.invokevirtual 68, 3) := by decide +kernel
theorem dX0_lower_19 : decode cX0_lower 19 = .ok (.aload_n 0, 1) := by decide +kernel
theorem dX0_lower_20 : decode cX0_lower 20 = .ok (.getfield 9, 3) := by decide +kernel
theorem dX0_lower_23 : decode cX0_lower 23 = .ok (.iload_n 1, 1) := by decide +kernel
theorem dX0_lower_24 : decode cX0_lower 24 = .ok (.dup2, 1) := by decide +kernel
theorem dX0_lower_25 : decode cX0_lower 25 = .ok (.iaload, 1) := by decide +kernel
theorem dX0_lower_26 : decode cX0_lower 26 = .ok (.aload_n 0, 1) := by decide +kernel
theorem dX0_lower_27 : decode cX0_lower 27 = .ok (.aload_n 0, 1) := by decide +kernel
theorem dX0_lower_28 : decode cX0_lower 28 = .ok (.getfield 27, 3) := by decide +kernel
theorem dX0_lower_31 : decode cX0_lower 31 = .ok (.getfield 62, 3) := by decide +kernel
theorem dX0_lower_34 : decode cX0_lower 34 = .ok (.iload_n 1, 1) := by decide +kernel
theorem dX0_lower_35 : decode cX0_lower 35 = .ok (.iaload, 1) := by decide +kernel
theorem dX0_lower_36 : decode cX0_lower 36 = .ok (.aload_n 0, 1) := by decide +kernel
theorem dX0_lower_37 : decode cX0_lower 37 = .ok (.getfield 27, 3) := by decide +kernel
theorem dX0_lower_40 : decode cX0_lower 40 = .ok (.getfield 59, 3) := by decide +kernel
theorem dX0_lower_43 : decode cX0_lower 43 = .ok (.iload_n 1, 1) := by decide +kernel
theorem dX0_lower_44 : decode cX0_lower 44 = .ok (.iaload, 1) := by decide +kernel
theorem dX0_lower_45 : decode cX0_lower 45 = .ok (.iload_n 2, 1) := by decide +kernel
theorem dX0_lower_46 : decode cX0_lower 46 = .ok (.invokevirtual 42, 3) := by decide +kernel
theorem dX0_lower_49 : decode cX0_lower 49 = .ok (.isub, 1) := by decide +kernel
theorem dX0_lower_50 : decode cX0_lower 50 = .ok (.iastore, 1) := by decide +kernel
theorem dX0_lower_51 : decode cX0_lower 51 = .ok (.aload_n 0, 1) := by decide +kernel
theorem dX0_lower_52 : decode cX0_lower 52 = .ok (.iload_n 1, 1) := by decide +kernel
theorem dX0_lower_53 : decode cX0_lower 53 = .ok (.invokevirtual 68, 3) := by decide +kernel
theorem dX0_lower_56 : decode cX0_lower 56 = .ok (.aload_n 0, 1) := by decide +kernel
theorem dX0_lower_57 : decode cX0_lower 57 = .ok (.getfield 9, 3) := by decide +kernel
theorem dX0_lower_60 : decode cX0_lower 60 = .ok (.iload_n 1, 1) := by decide +kernel
theorem dX0_lower_61 : decode cX0_lower 61 = .ok (.iaload, 1) := by decide +kernel
theorem dX0_lower_62 : decode cX0_lower 62 = .ok (.ireturn, 1) := by decide +kernel
set_option maxRecDepth 20000 in
theorem ggX0_raise_X0_hold : GoodIn wsX0_raise wsX0_hold := goodIn_r _ [10, 11, 2, 1, 67, 68, 69, 70, 71, 72] (by decide +kernel) (by decide +kernel)
set_option maxRecDepth 20000 in
theorem gX0_raise_X0_hold : GoodIn wsX0_raise (wsV RX0 68 RX0 yX0_hold wsX0_hold) := goodIn_app (goodIn_of _ (by decide +kernel)) ggX0_raise_X0_hold
set_option maxRecDepth 20000 in
theorem ggX0_raise_X0_send : GoodIn wsX0_raise wsX0_send := goodIn_r _ [15, 16, 17, 18, 9, 19, 3, 20, 21, 22, 23, 24, 25, 26, 27, 28, 29, 30, 31, 32, 33, 34, 35, 36, 37, 38, 39, 40, 41, 42, 43, 44, 45, 46, 47, 48, 49, 50, 51, 1, 2, 11, 52, 53, 54, 55, 56, 57, 58, 59, 60, 61, 62, 63, 64, 65, 66, 67, 68, 69, 70, 71, 72, 73, 74, 75, 76, 77, 78, 79] (by decide +kernel) (by decide +kernel)
set_option maxRecDepth 20000 in
theorem gX0_raise_X0_send : GoodIn wsX0_raise (wsV RX0 42 RX0 yX0_send wsX0_send) := goodIn_app (goodIn_of _ (by decide +kernel)) ggX0_raise_X0_send
theorem dX0_raise_0 : decode cX0_raise 0 = .ok (.aload_n 0, 1) := by decide +kernel
theorem dX0_raise_1 : decode cX0_raise 1 = .ok (.getfield 18, 3) := by decide +kernel
theorem dX0_raise_4 : decode cX0_raise 4 = .ok (.iload_n 1, 1) := by decide +kernel
theorem dX0_raise_5 : decode cX0_raise 5 = .ok (.iaload, 1) := by decide +kernel
theorem dX0_raise_6 : decode cX0_raise 6 = .ok (.aload_n 0, 1) := by decide +kernel
theorem dX0_raise_7 : decode cX0_raise 7 = .ok (.getfield 9, 3) := by decide +kernel
theorem dX0_raise_10 : decode cX0_raise 10 = .ok (.iload_n 1, 1) := by decide +kernel
theorem dX0_raise_11 : decode cX0_raise 11 = .ok (.iaload, 1) := by decide +kernel
theorem dX0_raise_12 : decode cX0_raise 12 = .ok (.isub, 1) := by decide +kernel
theorem dX0_raise_13 : decode cX0_raise 13 = .ok (.istore_n 2, 1) := by decide +kernel
theorem dX0_raise_14 : decode cX0_raise 14 = .ok (.aload_n 0, 1) := by decide +kernel
theorem dX0_raise_15 : decode cX0_raise 15 = .ok (.iload_n 1, 1) := by decide +kernel
theorem dX0_raise_16 : decode cX0_raise 16 = .ok (.invokevirtual 68, 3) := by decide +kernel
theorem dX0_raise_19 : decode cX0_raise 19 = .ok (.aload_n 0, 1) := by decide +kernel
theorem dX0_raise_20 : decode cX0_raise 20 = .ok (.getfield 9, 3) := by decide +kernel
theorem dX0_raise_23 : decode cX0_raise 23 = .ok (.iload_n 1, 1) := by decide +kernel
theorem dX0_raise_24 : decode cX0_raise 24 = .ok (.dup2, 1) := by decide +kernel
theorem dX0_raise_25 : decode cX0_raise 25 = .ok (.iaload, 1) := by decide +kernel
theorem dX0_raise_26 : decode cX0_raise 26 = .ok (.aload_n 0, 1) := by decide +kernel
theorem dX0_raise_27 : decode cX0_raise 27 = .ok (.aload_n 0, 1) := by decide +kernel
theorem dX0_raise_28 : decode cX0_raise 28 = .ok (.getfield 27, 3) := by decide +kernel
theorem dX0_raise_31 : decode cX0_raise 31 = .ok (.getfield 59, 3) := by decide +kernel
theorem dX0_raise_34 : decode cX0_raise 34 = .ok (.iload_n 1, 1) := by decide +kernel
theorem dX0_raise_35 : decode cX0_raise 35 = .ok (.iaload, 1) := by decide +kernel
theorem dX0_raise_36 : decode cX0_raise 36 = .ok (.aload_n 0, 1) := by decide +kernel
theorem dX0_raise_37 : decode cX0_raise 37 = .ok (.getfield 27, 3) := by decide +kernel
theorem dX0_raise_40 : decode cX0_raise 40 = .ok (.getfield 62, 3) := by decide +kernel
theorem dX0_raise_43 : decode cX0_raise 43 = .ok (.iload_n 1, 1) := by decide +kernel
theorem dX0_raise_44 : decode cX0_raise 44 = .ok (.iaload, 1) := by decide +kernel
theorem dX0_raise_45 : decode cX0_raise 45 = .ok (.iload_n 2, 1) := by decide +kernel
theorem dX0_raise_46 : decode cX0_raise 46 = .ok (.invokevirtual 42, 3) := by decide +kernel
theorem dX0_raise_49 : decode cX0_raise 49 = .ok (.iadd, 1) := by decide +kernel
theorem dX0_raise_50 : decode cX0_raise 50 = .ok (.iastore, 1) := by decide +kernel
theorem dX0_raise_51 : decode cX0_raise 51 = .ok (.aload_n 0, 1) := by decide +kernel
theorem dX0_raise_52 : decode cX0_raise 52 = .ok (.iload_n 1, 1) := by decide +kernel
theorem dX0_raise_53 : decode cX0_raise 53 = .ok (.invokevirtual 68, 3) := by decide +kernel
theorem dX0_raise_56 : decode cX0_raise 56 = .ok (.aload_n 0, 1) := by decide +kernel
theorem dX0_raise_57 : decode cX0_raise 57 = .ok (.getfield 9, 3) := by decide +kernel
theorem dX0_raise_60 : decode cX0_raise 60 = .ok (.iload_n 1, 1) := by decide +kernel
theorem dX0_raise_61 : decode cX0_raise 61 = .ok (.iaload, 1) := by decide +kernel
theorem dX0_raise_62 : decode cX0_raise 62 = .ok (.ireturn, 1) := by decide +kernel
theorem dX0_hold_0 : decode cX0_hold 0 = .ok (.aload_n 0, 1) := by decide +kernel
theorem dX0_hold_1 : decode cX0_hold 1 = .ok (.getfield 15, 3) := by decide +kernel
theorem dX0_hold_4 : decode cX0_hold 4 = .ok (.iload_n 1, 1) := by decide +kernel
theorem dX0_hold_5 : decode cX0_hold 5 = .ok (.aload_n 0, 1) := by decide +kernel
theorem dX0_hold_6 : decode cX0_hold 6 = .ok (.getfield 9, 3) := by decide +kernel
theorem dX0_hold_9 : decode cX0_hold 9 = .ok (.iload_n 1, 1) := by decide +kernel
theorem dX0_hold_10 : decode cX0_hold 10 = .ok (.iaload, 1) := by decide +kernel
theorem dX0_hold_11 : decode cX0_hold 11 = .ok (.iastore, 1) := by decide +kernel
theorem dX0_hold_12 : decode cX0_hold 12 = .ok (.aload_n 0, 1) := by decide +kernel
theorem dX0_hold_13 : decode cX0_hold 13 = .ok (.getfield 18, 3) := by decide +kernel
theorem dX0_hold_16 : decode cX0_hold 16 = .ok (.iload_n 1, 1) := by decide +kernel
theorem dX0_hold_17 : decode cX0_hold 17 = .ok (.aload_n 0, 1) := by decide +kernel
theorem dX0_hold_18 : decode cX0_hold 18 = .ok (.getfield 9, 3) := by decide +kernel
theorem dX0_hold_21 : decode cX0_hold 21 = .ok (.iload_n 1, 1) := by decide +kernel
theorem dX0_hold_22 : decode cX0_hold 22 = .ok (.iaload, 1) := by decide +kernel
theorem dX0_hold_23 : decode cX0_hold 23 = .ok (.iastore, 1) := by decide +kernel
theorem dX0_hold_24 : decode cX0_hold 24 = .ok (.return_, 1) := by decide +kernel
theorem dX0_empty_0 : decode cX0_empty 0 = .ok (.iconst 0, 1) := by decide +kernel
theorem dX0_empty_1 : decode cX0_empty 1 = .ok (.istore_n 1, 1) := by decide +kernel
theorem dX0_empty_2 : decode cX0_empty 2 = .ok (.iload_n 1, 1) := by decide +kernel
theorem dX0_empty_3 : decode cX0_empty 3 = .ok (.aload_n 0, 1) := by decide +kernel
theorem dX0_empty_4 : decode cX0_empty 4 = .ok (.getfield 27, 3) := by decide +kernel
theorem dX0_empty_7 : decode cX0_empty 7 = .ok (.getfield 45, 3) := by decide +kernel
theorem dX0_empty_10 : decode cX0_empty 10 = .ok (.if_icmp .ge 38, 3) := by decide +kernel
theorem dX0_empty_13 : decode cX0_empty 13 = .ok (.aload_n 0, 1) := by decide +kernel
theorem dX0_empty_14 : decode cX0_empty 14 = .ok (.getfield 9, 3) := by decide +kernel
theorem dX0_empty_17 : decode cX0_empty 17 = .ok (.iload_n 1, 1) := by decide +kernel
theorem dX0_empty_18 : decode cX0_empty 18 = .ok (.iconst 0, 1) := by decide +kernel
theorem dX0_empty_19 : decode cX0_empty 19 = .ok (.iastore, 1) := by decide +kernel
theorem dX0_empty_20 : decode cX0_empty 20 = .ok (.aload_n 0, 1) := by decide +kernel
theorem dX0_empty_21 : decode cX0_empty 21 = .ok (.getfield 15, 3) := by decide +kernel
theorem dX0_empty_24 : decode cX0_empty 24 = .ok (.iload_n 1, 1) := by decide +kernel
theorem dX0_empty_25 : decode cX0_empty 25 = .ok (.iconst 0, 1) := by decide +kernel
theorem dX0_empty_26 : decode cX0_empty 26 = .ok (.iastore, 1) := by decide +kernel
theorem dX0_empty_27 : decode cX0_empty 27 = .ok (.aload_n 0, 1) := by decide +kernel
theorem dX0_empty_28 : decode cX0_empty 28 = .ok (.getfield 18, 3) := by decide +kernel
theorem dX0_empty_31 : decode cX0_empty 31 = .ok (.iload_n 1, 1) := by decide +kernel
theorem dX0_empty_32 : decode cX0_empty 32 = .ok (.aload_n 0, 1) := by decide +kernel
theorem dX0_empty_33 : decode cX0_empty 33 = .ok (.getfield 27, 3) := by decide +kernel
theorem dX0_empty_36 : decode cX0_empty 36 = .ok (.getfield 65, 3) := by decide +kernel
theorem dX0_empty_39 : decode cX0_empty 39 = .ok (.iload_n 1, 1) := by decide +kernel
theorem dX0_empty_40 : decode cX0_empty 40 = .ok (.iaload, 1) := by decide +kernel
theorem dX0_empty_41 : decode cX0_empty 41 = .ok (.iastore, 1) := by decide +kernel
theorem dX0_empty_42 : decode cX0_empty 42 = .ok (.iinc 1 1, 3) := by decide +kernel
theorem dX0_empty_45 : decode cX0_empty 45 = .ok (.goto (-43), 3) := by decide +kernel
theorem dX0_empty_48 : decode cX0_empty 48 = .ok (.return_, 1) := by decide +kernel
set_option maxRecDepth 20000 in
theorem ggX0_send_X0_spreadFrom : GoodIn wsX0_send wsX0_spreadFrom := goodIn_r _ [5, 6, 7, 8, 9, 10, 11, 12, 13, 14, 15, 16, 17, 4, 18, 19, 20, 21, 22, 23, 24, 25, 26, 27, 28, 29, 30, 31, 32, 33, 34, 35, 36, 37, 38, 39, 40, 41, 42, 43, 57, 58, 59, 60, 61, 62, 63, 64, 65, 66, 67, 68, 69] (by decide +kernel) (by decide +kernel)
set_option maxRecDepth 20000 in
theorem gX0_send_X0_spreadFrom : GoodIn wsX0_send (wsV RX0 71 RX0 yX0_spreadFrom wsX0_spreadFrom) := goodIn_app (goodIn_of _ (by decide +kernel)) ggX0_send_X0_spreadFrom
set_option maxRecDepth 20000 in
theorem ggX0_send_X0_sendOnWay : GoodIn wsX0_send wsX0_sendOnWay := goodIn_r _ [47, 48, 49, 50, 51, 6, 7, 8, 40, 52, 53, 54, 4, 55, 56, 35, 36, 37, 38, 39, 41, 42, 29, 12, 30, 43, 26, 27, 19, 20, 21, 22, 23, 24, 25, 28, 57, 58, 59, 60, 61, 62, 63, 64, 65, 66, 67, 68, 69] (by decide +kernel) (by decide +kernel)
set_option maxRecDepth 20000 in
theorem gX0_send_X0_sendOnWay : GoodIn wsX0_send (wsV RX0 38 RX0 yX0_sendOnWay wsX0_sendOnWay) := goodIn_app (goodIn_of _ (by decide +kernel)) ggX0_send_X0_sendOnWay
theorem dX0_send_0 : decode cX0_send 0 = .ok (.iconst 0, 1) := by decide +kernel
theorem dX0_send_1 : decode cX0_send 1 = .ok (.istore 4, 2) := by decide +kernel
theorem dX0_send_3 : decode cX0_send 3 = .ok (.iconst 0, 1) := by decide +kernel
theorem dX0_send_4 : decode cX0_send 4 = .ok (.istore 5, 2) := by decide +kernel
theorem dX0_send_6 : decode cX0_send 6 = .ok (.iload 5, 2) := by decide +kernel
theorem dX0_send_8 : decode cX0_send 8 = .ok (.iload_n 3, 1) := by decide +kernel
theorem dX0_send_9 : decode cX0_send 9 = .ok (.if_icmp .ge 47, 3) := by decide +kernel
theorem dX0_send_12 : decode cX0_send 12 = .ok (.iload 4, 2) := by decide +kernel
theorem dX0_send_14 : decode cX0_send 14 = .ok (.iload_n 3, 1) := by decide +kernel
theorem dX0_send_15 : decode cX0_send 15 = .ok (.if_icmp .ge 41, 3) := by decide +kernel
theorem dX0_send_18 : decode cX0_send 18 = .ok (.aload_n 0, 1) := by decide +kernel
theorem dX0_send_19 : decode cX0_send 19 = .ok (.iload_n 1, 1) := by decide +kernel
theorem dX0_send_20 : decode cX0_send 20 = .ok (.invokevirtual 71, 3) := by decide +kernel
theorem dX0_send_23 : decode cX0_send 23 = .ok (.aload_n 0, 1) := by decide +kernel
theorem dX0_send_24 : decode cX0_send 24 = .ok (.iload_n 1, 1) := by decide +kernel
theorem dX0_send_25 : decode cX0_send 25 = .ok (.iload_n 2, 1) := by decide +kernel
theorem dX0_send_26 : decode cX0_send 26 = .ok (.iload_n 3, 1) := by decide +kernel
theorem dX0_send_27 : decode cX0_send 27 = .ok (.iload 4, 2) := by decide +kernel
theorem dX0_send_29 : decode cX0_send 29 = .ok (.isub, 1) := by decide +kernel
theorem dX0_send_30 : decode cX0_send 30 = .ok (.invokevirtual 38, 3) := by decide +kernel
theorem dX0_send_33 : decode cX0_send 33 = .ok (.istore 6, 2) := by decide +kernel
theorem dX0_send_35 : decode cX0_send 35 = .ok (.iload 6, 2) := by decide +kernel
theorem dX0_send_37 : decode cX0_send 37 = .ok (.ifCond .ne 6, 3) := by decide +kernel
theorem dX0_send_40 : decode cX0_send 40 = .ok (.iload 4, 2) := by decide +kernel
theorem dX0_send_42 : decode cX0_send 42 = .ok (.ireturn, 1) := by decide +kernel
theorem dX0_send_43 : decode cX0_send 43 = .ok (.iload 4, 2) := by decide +kernel
theorem dX0_send_45 : decode cX0_send 45 = .ok (.iload 6, 2) := by decide +kernel
theorem dX0_send_47 : decode cX0_send 47 = .ok (.iadd, 1) := by decide +kernel
theorem dX0_send_48 : decode cX0_send 48 = .ok (.istore 4, 2) := by decide +kernel
theorem dX0_send_50 : decode cX0_send 50 = .ok (.iinc 5 1, 3) := by decide +kernel
theorem dX0_send_53 : decode cX0_send 53 = .ok (.goto (-47), 3) := by decide +kernel
theorem dX0_send_56 : decode cX0_send 56 = .ok (.iload 4, 2) := by decide +kernel
theorem dX0_send_58 : decode cX0_send 58 = .ok (.ireturn, 1) := by decide +kernel
set_option maxRecDepth 20000 in
theorem ggX0_sendOnWay_X0_roomOnWay : GoodIn wsX0_sendOnWay wsX0_roomOnWay := goodIn_r _ [13, 14, 5, 6, 7, 1, 2, 3, 4, 15, 16, 17, 12, 18, 19, 8, 20, 21, 22, 23, 24, 25, 26, 27, 28, 29, 30, 31, 32, 33, 34, 35, 36, 37, 38, 39, 40, 41, 42, 43, 44, 45, 46, 47, 48] (by decide +kernel) (by decide +kernel)
set_option maxRecDepth 20000 in
theorem gX0_sendOnWay_X0_roomOnWay : GoodIn wsX0_sendOnWay (wsV RX0 74 RX0 yX0_roomOnWay wsX0_roomOnWay) := goodIn_app (goodIn_of _ (by decide +kernel)) ggX0_sendOnWay_X0_roomOnWay
set_option maxRecDepth 20000 in
theorem ggX0_sendOnWay_X2_arcOf : GoodIn wsX0_sendOnWay wsX2_arcOf := goodIn_r _ [24] (by decide +kernel) (by decide +kernel)
set_option maxRecDepth 20000 in
theorem gX0_sendOnWay_X2_arcOf : GoodIn wsX0_sendOnWay (va_wsS RX0 85 yX2_arcOf wsX2_arcOf) := goodIn_app (goodIn_of _ (by decide +kernel)) ggX0_sendOnWay_X2_arcOf
set_option maxRecDepth 20000 in
theorem ggX0_sendOnWay_X2_goesAlong : GoodIn wsX0_sendOnWay wsX2_goesAlong := goodIn_r _ [27] (by decide +kernel) (by decide +kernel)
set_option maxRecDepth 20000 in
theorem gX0_sendOnWay_X2_goesAlong : GoodIn wsX0_sendOnWay (va_wsS RX0 89 yX2_goesAlong wsX2_goesAlong) := goodIn_app (goodIn_of _ (by decide +kernel)) ggX0_sendOnWay_X2_goesAlong
set_option maxRecDepth 20000 in
theorem ggX0_sendOnWay_X2_start : GoodIn wsX0_sendOnWay wsX2_start := goodIn_r _ [31, 32, 33, 34, 26, 23, 27, 35, 22, 24, 42, 43, 44, 45, 46, 47, 48] (by decide +kernel) (by decide +kernel)
set_option maxRecDepth 20000 in
theorem gX0_sendOnWay_X2_start : GoodIn wsX0_sendOnWay (wsV RX0 93 RX2 yX2_start wsX2_start) := goodIn_app (goodIn_of _ (by decide +kernel)) ggX0_sendOnWay_X2_start
theorem dX0_sendOnWay_0 : decode cX0_sendOnWay 0 = .ok (.iload_n 3, 1) := by decide +kernel
theorem dX0_sendOnWay_1 : decode cX0_sendOnWay 1 = .ok (.aload_n 0, 1) := by decide +kernel
theorem dX0_sendOnWay_2 : decode cX0_sendOnWay 2 = .ok (.iload_n 1, 1) := by decide +kernel
theorem dX0_sendOnWay_3 : decode cX0_sendOnWay 3 = .ok (.iload_n 2, 1) := by decide +kernel
theorem dX0_sendOnWay_4 : decode cX0_sendOnWay 4 = .ok (.invokevirtual 74, 3) := by decide +kernel
theorem dX0_sendOnWay_7 : decode cX0_sendOnWay 7 = .ok (.invokestatic 77, 3) := by decide +kernel
theorem dX0_sendOnWay_10 : decode cX0_sendOnWay 10 = .ok (.istore 4, 2) := by decide +kernel
theorem dX0_sendOnWay_12 : decode cX0_sendOnWay 12 = .ok (.iload_n 2, 1) := by decide +kernel
theorem dX0_sendOnWay_13 : decode cX0_sendOnWay 13 = .ok (.istore 5, 2) := by decide +kernel
theorem dX0_sendOnWay_15 : decode cX0_sendOnWay 15 = .ok (.iconst 0, 1) := by decide +kernel
theorem dX0_sendOnWay_16 : decode cX0_sendOnWay 16 = .ok (.istore 6, 2) := by decide +kernel
theorem dX0_sendOnWay_18 : decode cX0_sendOnWay 18 = .ok (.iload 6, 2) := by decide +kernel
theorem dX0_sendOnWay_20 : decode cX0_sendOnWay 20 = .ok (.aload_n 0, 1) := by decide +kernel
theorem dX0_sendOnWay_21 : decode cX0_sendOnWay 21 = .ok (.getfield 27, 3) := by decide +kernel
theorem dX0_sendOnWay_24 : decode cX0_sendOnWay 24 = .ok (.getfield 82, 3) := by decide +kernel
theorem dX0_sendOnWay_27 : decode cX0_sendOnWay 27 = .ok (.if_icmp .ge 69, 3) := by decide +kernel
theorem dX0_sendOnWay_30 : decode cX0_sendOnWay 30 = .ok (.iload 5, 2) := by decide +kernel
theorem dX0_sendOnWay_32 : decode cX0_sendOnWay 32 = .ok (.iload_n 1, 1) := by decide +kernel
theorem dX0_sendOnWay_33 : decode cX0_sendOnWay 33 = .ok (.if_icmp .eq 63, 3) := by decide +kernel
theorem dX0_sendOnWay_36 : decode cX0_sendOnWay 36 = .ok (.iload 4, 2) := by decide +kernel
theorem dX0_sendOnWay_38 : decode cX0_sendOnWay 38 = .ok (.ifCond .le 58, 3) := by decide +kernel
theorem dX0_sendOnWay_41 : decode cX0_sendOnWay 41 = .ok (.aload_n 0, 1) := by decide +kernel
theorem dX0_sendOnWay_42 : decode cX0_sendOnWay 42 = .ok (.getfield 24, 3) := by decide +kernel
theorem dX0_sendOnWay_45 : decode cX0_sendOnWay 45 = .ok (.iload 5, 2) := by decide +kernel
theorem dX0_sendOnWay_47 : decode cX0_sendOnWay 47 = .ok (.iaload, 1) := by decide +kernel
theorem dX0_sendOnWay_48 : decode cX0_sendOnWay 48 = .ok (.istore 7, 2) := by decide +kernel
theorem dX0_sendOnWay_50 : decode cX0_sendOnWay 50 = .ok (.aload_n 0, 1) := by decide +kernel
theorem dX0_sendOnWay_51 : decode cX0_sendOnWay 51 = .ok (.getfield 9, 3) := by decide +kernel
theorem dX0_sendOnWay_54 : decode cX0_sendOnWay 54 = .ok (.iload 7, 2) := by decide +kernel
theorem dX0_sendOnWay_56 : decode cX0_sendOnWay 56 = .ok (.invokestatic 85, 3) := by decide +kernel
theorem dX0_sendOnWay_59 : decode cX0_sendOnWay 59 = .ok (.dup2, 1) := by decide +kernel
theorem dX0_sendOnWay_60 : decode cX0_sendOnWay 60 = .ok (.iaload, 1) := by decide +kernel
theorem dX0_sendOnWay_61 : decode cX0_sendOnWay 61 = .ok (.iload 7, 2) := by decide +kernel
theorem dX0_sendOnWay_63 : decode cX0_sendOnWay 63 = .ok (.invokestatic 89, 3) := by decide +kernel
theorem dX0_sendOnWay_66 : decode cX0_sendOnWay 66 = .ok (.ifCond .eq 8, 3) := by decide +kernel
theorem dX0_sendOnWay_69 : decode cX0_sendOnWay 69 = .ok (.iload 4, 2) := by decide +kernel
theorem dX0_sendOnWay_71 : decode cX0_sendOnWay 71 = .ok (.goto 6, 3) := by decide +kernel
theorem dX0_sendOnWay_74 : decode cX0_sendOnWay 74 = .ok (.iload 4, 2) := by decide +kernel
theorem dX0_sendOnWay_76 : decode cX0_sendOnWay 76 = .ok (.ineg, 1) := by decide +kernel
theorem dX0_sendOnWay_77 : decode cX0_sendOnWay 77 = .ok (.iadd, 1) := by decide +kernel
theorem dX0_sendOnWay_78 : decode cX0_sendOnWay 78 = .ok (.iastore, 1) := by decide +kernel
theorem dX0_sendOnWay_79 : decode cX0_sendOnWay 79 = .ok (.aload_n 0, 1) := by decide +kernel
theorem dX0_sendOnWay_80 : decode cX0_sendOnWay 80 = .ok (.getfield 27, 3) := by decide +kernel
theorem dX0_sendOnWay_83 : decode cX0_sendOnWay 83 = .ok (.iload 7, 2) := by decide +kernel
theorem dX0_sendOnWay_85 : decode cX0_sendOnWay 85 = .ok (.invokevirtual 93, 3) := by decide +kernel
theorem dX0_sendOnWay_88 : decode cX0_sendOnWay 88 = .ok (.istore 5, 2) := by decide +kernel
theorem dX0_sendOnWay_90 : decode cX0_sendOnWay 90 = .ok (.iinc 6 1, 3) := by decide +kernel
theorem dX0_sendOnWay_93 : decode cX0_sendOnWay 93 = .ok (.goto (-75), 3) := by decide +kernel
theorem dX0_sendOnWay_96 : decode cX0_sendOnWay 96 = .ok (.iload 4, 2) := by decide +kernel
theorem dX0_sendOnWay_98 : decode cX0_sendOnWay 98 = .ok (.ireturn, 1) := by decide +kernel
set_option maxRecDepth 20000 in
theorem ggX0_roomOnWay_X0_roomOf : GoodIn wsX0_roomOnWay wsX0_roomOf := goodIn_r _ [13, 14, 15, 16, 17, 18, 19, 20, 21, 22, 23, 32, 33, 34, 35, 36, 37] (by decide +kernel) (by decide +kernel)
set_option maxRecDepth 20000 in
theorem gX0_roomOnWay_X0_roomOf : GoodIn wsX0_roomOnWay (wsV RX0 96 RX0 yX0_roomOf wsX0_roomOf) := goodIn_app (goodIn_of _ (by decide +kernel)) ggX0_roomOnWay_X0_roomOf
set_option maxRecDepth 20000 in
theorem ggX0_roomOnWay_X2_start : GoodIn wsX0_roomOnWay wsX2_start := goodIn_r _ [27, 28, 29, 30, 22, 19, 23, 31, 18, 20, 38, 39, 40, 41, 42, 43, 44] (by decide +kernel) (by decide +kernel)
set_option maxRecDepth 20000 in
theorem gX0_roomOnWay_X2_start : GoodIn wsX0_roomOnWay (wsV RX0 93 RX2 yX2_start wsX2_start) := goodIn_app (goodIn_of _ (by decide +kernel)) ggX0_roomOnWay_X2_start
theorem dX0_roomOnWay_0 : decode cX0_roomOnWay 0 = .ok (.ldc 55, 2) := by decide +kernel
theorem dX0_roomOnWay_2 : decode cX0_roomOnWay 2 = .ok (.istore_n 3, 1) := by decide +kernel
theorem dX0_roomOnWay_3 : decode cX0_roomOnWay 3 = .ok (.iload_n 2, 1) := by decide +kernel
theorem dX0_roomOnWay_4 : decode cX0_roomOnWay 4 = .ok (.istore 4, 2) := by decide +kernel
theorem dX0_roomOnWay_6 : decode cX0_roomOnWay 6 = .ok (.iconst 0, 1) := by decide +kernel
theorem dX0_roomOnWay_7 : decode cX0_roomOnWay 7 = .ok (.istore 5, 2) := by decide +kernel
theorem dX0_roomOnWay_9 : decode cX0_roomOnWay 9 = .ok (.iload 5, 2) := by decide +kernel
theorem dX0_roomOnWay_11 : decode cX0_roomOnWay 11 = .ok (.aload_n 0, 1) := by decide +kernel
theorem dX0_roomOnWay_12 : decode cX0_roomOnWay 12 = .ok (.getfield 27, 3) := by decide +kernel
theorem dX0_roomOnWay_15 : decode cX0_roomOnWay 15 = .ok (.getfield 82, 3) := by decide +kernel
theorem dX0_roomOnWay_18 : decode cX0_roomOnWay 18 = .ok (.if_icmp .ge 54, 3) := by decide +kernel
theorem dX0_roomOnWay_21 : decode cX0_roomOnWay 21 = .ok (.iload 4, 2) := by decide +kernel
theorem dX0_roomOnWay_23 : decode cX0_roomOnWay 23 = .ok (.iload_n 1, 1) := by decide +kernel
theorem dX0_roomOnWay_24 : decode cX0_roomOnWay 24 = .ok (.if_icmp .eq 48, 3) := by decide +kernel
theorem dX0_roomOnWay_27 : decode cX0_roomOnWay 27 = .ok (.aload_n 0, 1) := by decide +kernel
theorem dX0_roomOnWay_28 : decode cX0_roomOnWay 28 = .ok (.getfield 24, 3) := by decide +kernel
theorem dX0_roomOnWay_31 : decode cX0_roomOnWay 31 = .ok (.iload 4, 2) := by decide +kernel
theorem dX0_roomOnWay_33 : decode cX0_roomOnWay 33 = .ok (.iaload, 1) := by decide +kernel
theorem dX0_roomOnWay_34 : decode cX0_roomOnWay 34 = .ok (.istore 6, 2) := by decide +kernel
theorem dX0_roomOnWay_36 : decode cX0_roomOnWay 36 = .ok (.iload 6, 2) := by decide +kernel
theorem dX0_roomOnWay_38 : decode cX0_roomOnWay 38 = .ok (.iconst (-1), 1) := by decide +kernel
theorem dX0_roomOnWay_39 : decode cX0_roomOnWay 39 = .ok (.if_icmp .ne 5, 3) := by decide +kernel
theorem dX0_roomOnWay_42 : decode cX0_roomOnWay 42 = .ok (.iconst 0, 1) := by decide +kernel
theorem dX0_roomOnWay_43 : decode cX0_roomOnWay 43 = .ok (.ireturn, 1) := by decide +kernel
theorem dX0_roomOnWay_44 : decode cX0_roomOnWay 44 = .ok (.iload_n 3, 1) := by decide +kernel
theorem dX0_roomOnWay_45 : decode cX0_roomOnWay 45 = .ok (.aload_n 0, 1) := by decide +kernel
theorem dX0_roomOnWay_46 : decode cX0_roomOnWay 46 = .ok (.iload 6, 2) := by decide +kernel
theorem dX0_roomOnWay_48 : decode cX0_roomOnWay 48 = .ok (.invokevirtual 96, 3) := by decide +kernel
theorem dX0_roomOnWay_51 : decode cX0_roomOnWay 51 = .ok (.invokestatic 77, 3) := by decide +kernel
theorem dX0_roomOnWay_54 : decode cX0_roomOnWay 54 = .ok (.istore_n 3, 1) := by decide +kernel
theorem dX0_roomOnWay_55 : decode cX0_roomOnWay 55 = .ok (.aload_n 0, 1) := by decide +kernel
theorem dX0_roomOnWay_56 : decode cX0_roomOnWay 56 = .ok (.getfield 27, 3) := by decide +kernel
theorem dX0_roomOnWay_59 : decode cX0_roomOnWay 59 = .ok (.iload 6, 2) := by decide +kernel
theorem dX0_roomOnWay_61 : decode cX0_roomOnWay 61 = .ok (.invokevirtual 93, 3) := by decide +kernel
theorem dX0_roomOnWay_64 : decode cX0_roomOnWay 64 = .ok (.istore 4, 2) := by decide +kernel
theorem dX0_roomOnWay_66 : decode cX0_roomOnWay 66 = .ok (.iinc 5 1, 3) := by decide +kernel
theorem dX0_roomOnWay_69 : decode cX0_roomOnWay 69 = .ok (.goto (-60), 3) := by decide +kernel
theorem dX0_roomOnWay_72 : decode cX0_roomOnWay 72 = .ok (.iload 4, 2) := by decide +kernel
theorem dX0_roomOnWay_74 : decode cX0_roomOnWay 74 = .ok (.iload_n 1, 1) := by decide +kernel
theorem dX0_roomOnWay_75 : decode cX0_roomOnWay 75 = .ok (.if_icmp .ne 7, 3) := by decide +kernel
theorem dX0_roomOnWay_78 : decode cX0_roomOnWay 78 = .ok (.iload_n 3, 1) := by decide +kernel
theorem dX0_roomOnWay_79 : decode cX0_roomOnWay 79 = .ok (.goto 4, 3) := by decide +kernel
theorem dX0_roomOnWay_82 : decode cX0_roomOnWay 82 = .ok (.iconst 0, 1) := by decide +kernel
theorem dX0_roomOnWay_83 : decode cX0_roomOnWay 83 = .ok (.ireturn, 1) := by decide +kernel
set_option maxRecDepth 20000 in
theorem ggX0_roomOf_X2_arcOf : GoodIn wsX0_roomOf wsX2_arcOf := goodIn_r _ [7] (by decide +kernel) (by decide +kernel)
set_option maxRecDepth 20000 in
theorem gX0_roomOf_X2_arcOf : GoodIn wsX0_roomOf (va_wsS RX0 85 yX2_arcOf wsX2_arcOf) := goodIn_app (goodIn_of _ (by decide +kernel)) ggX0_roomOf_X2_arcOf
set_option maxRecDepth 20000 in
theorem ggX0_roomOf_X2_goesAlong : GoodIn wsX0_roomOf wsX2_goesAlong := goodIn_r _ [10] (by decide +kernel) (by decide +kernel)
set_option maxRecDepth 20000 in
theorem gX0_roomOf_X2_goesAlong : GoodIn wsX0_roomOf (va_wsS RX0 89 yX2_goesAlong wsX2_goesAlong) := goodIn_app (goodIn_of _ (by decide +kernel)) ggX0_roomOf_X2_goesAlong
theorem dX0_roomOf_0 : decode cX0_roomOf 0 = .ok (.iload_n 1, 1) := by decide +kernel
theorem dX0_roomOf_1 : decode cX0_roomOf 1 = .ok (.invokestatic 85, 3) := by decide +kernel
theorem dX0_roomOf_4 : decode cX0_roomOf 4 = .ok (.istore_n 2, 1) := by decide +kernel
theorem dX0_roomOf_5 : decode cX0_roomOf 5 = .ok (.iload_n 1, 1) := by decide +kernel
theorem dX0_roomOf_6 : decode cX0_roomOf 6 = .ok (.invokestatic 89, 3) := by decide +kernel
theorem dX0_roomOf_9 : decode cX0_roomOf 9 = .ok (.ifCond .eq 19, 3) := by decide +kernel
theorem dX0_roomOf_12 : decode cX0_roomOf 12 = .ok (.aload_n 0, 1) := by decide +kernel
theorem dX0_roomOf_13 : decode cX0_roomOf 13 = .ok (.getfield 18, 3) := by decide +kernel
theorem dX0_roomOf_16 : decode cX0_roomOf 16 = .ok (.iload_n 2, 1) := by decide +kernel
theorem dX0_roomOf_17 : decode cX0_roomOf 17 = .ok (.iaload, 1) := by decide +kernel
theorem dX0_roomOf_18 : decode cX0_roomOf 18 = .ok (.aload_n 0, 1) := by decide +kernel
theorem dX0_roomOf_19 : decode cX0_roomOf 19 = .ok (.getfield 9, 3) := by decide +kernel
theorem dX0_roomOf_22 : decode cX0_roomOf 22 = .ok (.iload_n 2, 1) := by decide +kernel
theorem dX0_roomOf_23 : decode cX0_roomOf 23 = .ok (.iaload, 1) := by decide +kernel
theorem dX0_roomOf_24 : decode cX0_roomOf 24 = .ok (.isub, 1) := by decide +kernel
theorem dX0_roomOf_25 : decode cX0_roomOf 25 = .ok (.goto 16, 3) := by decide +kernel
theorem dX0_roomOf_28 : decode cX0_roomOf 28 = .ok (.aload_n 0, 1) := by decide +kernel
theorem dX0_roomOf_29 : decode cX0_roomOf 29 = .ok (.getfield 9, 3) := by decide +kernel
theorem dX0_roomOf_32 : decode cX0_roomOf 32 = .ok (.iload_n 2, 1) := by decide +kernel
theorem dX0_roomOf_33 : decode cX0_roomOf 33 = .ok (.iaload, 1) := by decide +kernel
theorem dX0_roomOf_34 : decode cX0_roomOf 34 = .ok (.aload_n 0, 1) := by decide +kernel
theorem dX0_roomOf_35 : decode cX0_roomOf 35 = .ok (.getfield 15, 3) := by decide +kernel
theorem dX0_roomOf_38 : decode cX0_roomOf 38 = .ok (.iload_n 2, 1) := by decide +kernel
theorem dX0_roomOf_39 : decode cX0_roomOf 39 = .ok (.iaload, 1) := by decide +kernel
theorem dX0_roomOf_40 : decode cX0_roomOf 40 = .ok (.isub, 1) := by decide +kernel
theorem dX0_roomOf_41 : decode cX0_roomOf 41 = .ok (.ireturn, 1) := by decide +kernel
set_option maxRecDepth 20000 in
theorem ggX0_priceOf_X2_arcOf : GoodIn wsX0_priceOf wsX2_arcOf := goodIn_r _ [6] (by decide +kernel) (by decide +kernel)
set_option maxRecDepth 20000 in
theorem gX0_priceOf_X2_arcOf : GoodIn wsX0_priceOf (va_wsS RX0 85 yX2_arcOf wsX2_arcOf) := goodIn_app (goodIn_of _ (by decide +kernel)) ggX0_priceOf_X2_arcOf
set_option maxRecDepth 20000 in
theorem ggX0_priceOf_X2_goesAlong : GoodIn wsX0_priceOf wsX2_goesAlong := goodIn_r _ [9] (by decide +kernel) (by decide +kernel)
set_option maxRecDepth 20000 in
theorem gX0_priceOf_X2_goesAlong : GoodIn wsX0_priceOf (va_wsS RX0 89 yX2_goesAlong wsX2_goesAlong) := goodIn_app (goodIn_of _ (by decide +kernel)) ggX0_priceOf_X2_goesAlong
set_option maxRecDepth 20000 in
theorem ggX0_priceOf_X2_unitPrice : GoodIn wsX0_priceOf wsX2_unitPrice := goodIn_r _ [13, 14, 15, 16, 23, 24, 25, 26, 27, 28, 29] (by decide +kernel) (by decide +kernel)
set_option maxRecDepth 20000 in
theorem gX0_priceOf_X2_unitPrice : GoodIn wsX0_priceOf (wsV RX0 51 RX2 yX2_unitPrice wsX2_unitPrice) := goodIn_app (goodIn_of _ (by decide +kernel)) ggX0_priceOf_X2_unitPrice
theorem dX0_priceOf_0 : decode cX0_priceOf 0 = .ok (.iload_n 1, 1) := by decide +kernel
theorem dX0_priceOf_1 : decode cX0_priceOf 1 = .ok (.invokestatic 85, 3) := by decide +kernel
theorem dX0_priceOf_4 : decode cX0_priceOf 4 = .ok (.istore_n 2, 1) := by decide +kernel
theorem dX0_priceOf_5 : decode cX0_priceOf 5 = .ok (.iload_n 1, 1) := by decide +kernel
theorem dX0_priceOf_6 : decode cX0_priceOf 6 = .ok (.invokestatic 89, 3) := by decide +kernel
theorem dX0_priceOf_9 : decode cX0_priceOf 9 = .ok (.ifCond .eq 22, 3) := by decide +kernel
theorem dX0_priceOf_12 : decode cX0_priceOf 12 = .ok (.aload_n 0, 1) := by decide +kernel
theorem dX0_priceOf_13 : decode cX0_priceOf 13 = .ok (.getfield 27, 3) := by decide +kernel
theorem dX0_priceOf_16 : decode cX0_priceOf 16 = .ok (.iload_n 2, 1) := by decide +kernel
theorem dX0_priceOf_17 : decode cX0_priceOf 17 = .ok (.aload_n 0, 1) := by decide +kernel
theorem dX0_priceOf_18 : decode cX0_priceOf 18 = .ok (.getfield 9, 3) := by decide +kernel
theorem dX0_priceOf_21 : decode cX0_priceOf 21 = .ok (.iload_n 2, 1) := by decide +kernel
theorem dX0_priceOf_22 : decode cX0_priceOf 22 = .ok (.iaload, 1) := by decide +kernel
theorem dX0_priceOf_23 : decode cX0_priceOf 23 = .ok (.iconst 1, 1) := by decide +kernel
theorem dX0_priceOf_24 : decode cX0_priceOf 24 = .ok (.iadd, 1) := by decide +kernel
theorem dX0_priceOf_25 : decode cX0_priceOf 25 = .ok (.invokevirtual 51, 3) := by decide +kernel
theorem dX0_priceOf_28 : decode cX0_priceOf 28 = .ok (.goto 18, 3) := by decide +kernel
theorem dX0_priceOf_31 : decode cX0_priceOf 31 = .ok (.aload_n 0, 1) := by decide +kernel
theorem dX0_priceOf_32 : decode cX0_priceOf 32 = .ok (.getfield 27, 3) := by decide +kernel
theorem dX0_priceOf_35 : decode cX0_priceOf 35 = .ok (.iload_n 2, 1) := by decide +kernel
theorem dX0_priceOf_36 : decode cX0_priceOf 36 = .ok (.aload_n 0, 1) := by decide +kernel
theorem dX0_priceOf_37 : decode cX0_priceOf 37 = .ok (.getfield 9, 3) := by decide +kernel
theorem dX0_priceOf_40 : decode cX0_priceOf 40 = .ok (.iload_n 2, 1) := by decide +kernel
theorem dX0_priceOf_41 : decode cX0_priceOf 41 = .ok (.iaload, 1) := by decide +kernel
theorem dX0_priceOf_42 : decode cX0_priceOf 42 = .ok (.invokevirtual 51, 3) := by decide +kernel
theorem dX0_priceOf_45 : decode cX0_priceOf 45 = .ok (.ineg, 1) := by decide +kernel
theorem dX0_priceOf_46 : decode cX0_priceOf 46 = .ok (.ireturn, 1) := by decide +kernel
set_option maxRecDepth 20000 in
theorem ggX0_measureFrom_X0_measure : GoodIn wsX0_measureFrom wsX0_measure := goodIn_r _ [10, 1, 2, 11, 12, 13, 14, 15, 16, 17, 18, 19, 9, 20, 3, 4, 5, 21, 22, 23, 24, 25, 26, 27, 28, 29, 30, 31, 32, 33, 34, 35, 36, 37, 38, 39, 40, 41, 42, 43, 44, 45, 46, 47, 48, 49, 50, 51, 52, 53, 54, 55, 56, 57, 58, 59, 60, 61, 62, 63, 64, 65, 66, 67, 68, 69] (by decide +kernel) (by decide +kernel)
set_option maxRecDepth 20000 in
theorem gX0_measureFrom_X0_measure : GoodIn wsX0_measureFrom (wsV RX0 99 RX0 yX0_measure wsX0_measure) := goodIn_app (goodIn_of _ (by decide +kernel)) ggX0_measureFrom_X0_measure
theorem dX0_measureFrom_0 : decode cX0_measureFrom 0 = .ok (.iconst 0, 1) := by decide +kernel
theorem dX0_measureFrom_1 : decode cX0_measureFrom 1 = .ok (.istore_n 2, 1) := by decide +kernel
theorem dX0_measureFrom_2 : decode cX0_measureFrom 2 = .ok (.iload_n 2, 1) := by decide +kernel
theorem dX0_measureFrom_3 : decode cX0_measureFrom 3 = .ok (.aload_n 0, 1) := by decide +kernel
theorem dX0_measureFrom_4 : decode cX0_measureFrom 4 = .ok (.getfield 27, 3) := by decide +kernel
theorem dX0_measureFrom_7 : decode cX0_measureFrom 7 = .ok (.getfield 82, 3) := by decide +kernel
theorem dX0_measureFrom_10 : decode cX0_measureFrom 10 = .ok (.if_icmp .ge 33, 3) := by decide +kernel
theorem dX0_measureFrom_13 : decode cX0_measureFrom 13 = .ok (.aload_n 0, 1) := by decide +kernel
theorem dX0_measureFrom_14 : decode cX0_measureFrom 14 = .ok (.getfield 21, 3) := by decide +kernel
theorem dX0_measureFrom_17 : decode cX0_measureFrom 17 = .ok (.iload_n 2, 1) := by decide +kernel
theorem dX0_measureFrom_18 : decode cX0_measureFrom 18 = .ok (.iload_n 2, 1) := by decide +kernel
theorem dX0_measureFrom_19 : decode cX0_measureFrom 19 = .ok (.iload_n 1, 1) := by decide +kernel
theorem dX0_measureFrom_20 : decode cX0_measureFrom 20 = .ok (.if_icmp .ne 7, 3) := by decide +kernel
theorem dX0_measureFrom_23 : decode cX0_measureFrom 23 = .ok (.iconst 0, 1) := by decide +kernel
theorem dX0_measureFrom_24 : decode cX0_measureFrom 24 = .ok (.goto 5, 3) := by decide +kernel
theorem dX0_measureFrom_27 : decode cX0_measureFrom 27 = .ok (.ldc 55, 2) := by decide +kernel
theorem dX0_measureFrom_29 : decode cX0_measureFrom 29 = .ok (.iastore, 1) := by decide +kernel
theorem dX0_measureFrom_30 : decode cX0_measureFrom 30 = .ok (.aload_n 0, 1) := by decide +kernel
theorem dX0_measureFrom_31 : decode cX0_measureFrom 31 = .ok (.getfield 24, 3) := by decide +kernel
theorem dX0_measureFrom_34 : decode cX0_measureFrom 34 = .ok (.iload_n 2, 1) := by decide +kernel
theorem dX0_measureFrom_35 : decode cX0_measureFrom 35 = .ok (.iconst (-1), 1) := by decide +kernel
theorem dX0_measureFrom_36 : decode cX0_measureFrom 36 = .ok (.iastore, 1) := by decide +kernel
theorem dX0_measureFrom_37 : decode cX0_measureFrom 37 = .ok (.iinc 2 1, 3) := by decide +kernel
theorem dX0_measureFrom_40 : decode cX0_measureFrom 40 = .ok (.goto (-38), 3) := by decide +kernel
theorem dX0_measureFrom_43 : decode cX0_measureFrom 43 = .ok (.aload_n 0, 1) := by decide +kernel
theorem dX0_measureFrom_44 : decode cX0_measureFrom 44 = .ok (.invokevirtual 99, 3) := by decide +kernel
theorem dX0_measureFrom_47 : decode cX0_measureFrom 47 = .ok (.return_, 1) := by decide +kernel
set_option maxRecDepth 20000 in
theorem ggX0_measureFromAll_X0_measure : GoodIn wsX0_measureFromAll wsX0_measure := goodIn_r _ [9, 1, 2, 10, 11, 12, 13, 14, 15, 16, 17, 18, 8, 19, 3, 20, 4, 21, 22, 23, 24, 25, 26, 27, 28, 29, 30, 31, 32, 33, 34, 35, 36, 37, 38, 39, 40, 41, 42, 43, 44, 45, 46, 47, 48, 49, 50, 51, 52, 53, 54, 55, 56, 57, 58, 59, 60, 61, 62, 63, 64, 65, 66, 67, 68, 69] (by decide +kernel) (by decide +kernel)
set_option maxRecDepth 20000 in
theorem gX0_measureFromAll_X0_measure : GoodIn wsX0_measureFromAll (wsV RX0 99 RX0 yX0_measure wsX0_measure) := goodIn_app (goodIn_of _ (by decide +kernel)) ggX0_measureFromAll_X0_measure
theorem dX0_measureFromAll_0 : decode cX0_measureFromAll 0 = .ok (.iconst 0, 1) := by decide +kernel
theorem dX0_measureFromAll_1 : decode cX0_measureFromAll 1 = .ok (.istore_n 1, 1) := by decide +kernel
theorem dX0_measureFromAll_2 : decode cX0_measureFromAll 2 = .ok (.iload_n 1, 1) := by decide +kernel
theorem dX0_measureFromAll_3 : decode cX0_measureFromAll 3 = .ok (.aload_n 0, 1) := by decide +kernel
theorem dX0_measureFromAll_4 : decode cX0_measureFromAll 4 = .ok (.getfield 27, 3) := by decide +kernel
theorem dX0_measureFromAll_7 : decode cX0_measureFromAll 7 = .ok (.getfield 82, 3) := by decide +kernel
theorem dX0_measureFromAll_10 : decode cX0_measureFromAll 10 = .ok (.if_icmp .ge 23, 3) := by decide +kernel
theorem dX0_measureFromAll_13 : decode cX0_measureFromAll 13 = .ok (.aload_n 0, 1) := by decide +kernel
theorem dX0_measureFromAll_14 : decode cX0_measureFromAll 14 = .ok (.getfield 21, 3) := by decide +kernel
theorem dX0_measureFromAll_17 : decode cX0_measureFromAll 17 = .ok (.iload_n 1, 1) := by decide +kernel
theorem dX0_measureFromAll_18 : decode cX0_measureFromAll 18 = .ok (.iconst 0, 1) := by decide +kernel
theorem dX0_measureFromAll_19 : decode cX0_measureFromAll 19 = .ok (.iastore, 1) := by decide +kernel
theorem dX0_measureFromAll_20 : decode cX0_measureFromAll 20 = .ok (.aload_n 0, 1) := by decide +kernel
theorem dX0_measureFromAll_21 : decode cX0_measureFromAll 21 = .ok (.getfield 24, 3) := by decide +kernel
theorem dX0_measureFromAll_24 : decode cX0_measureFromAll 24 = .ok (.iload_n 1, 1) := by decide +kernel
theorem dX0_measureFromAll_25 : decode cX0_measureFromAll 25 = .ok (.iconst (-1), 1) := by decide +kernel
theorem dX0_measureFromAll_26 : decode cX0_measureFromAll 26 = .ok (.iastore, 1) := by decide +kernel
theorem dX0_measureFromAll_27 : decode cX0_measureFromAll 27 = .ok (.iinc 1 1, 3) := by decide +kernel
theorem dX0_measureFromAll_30 : decode cX0_measureFromAll 30 = .ok (.goto (-28), 3) := by decide +kernel
theorem dX0_measureFromAll_33 : decode cX0_measureFromAll 33 = .ok (.aload_n 0, 1) := by decide +kernel
theorem dX0_measureFromAll_34 : decode cX0_measureFromAll 34 = .ok (.invokevirtual 99, 3) := by decide +kernel
theorem dX0_measureFromAll_37 : decode cX0_measureFromAll 37 = .ok (.return_, 1) := by decide +kernel
set_option maxRecDepth 20000 in
theorem ggX0_measure_X2_steps : GoodIn wsX0_measure wsX2_steps := goodIn_r _ [7, 8, 59, 60, 61, 62, 63, 64, 65] (by decide +kernel) (by decide +kernel)
set_option maxRecDepth 20000 in
theorem gX0_measure_X2_steps : GoodIn wsX0_measure (wsV RX0 102 RX2 yX2_steps wsX2_steps) := goodIn_app (goodIn_of _ (by decide +kernel)) ggX0_measure_X2_steps
set_option maxRecDepth 20000 in
theorem ggX0_measure_X0_shorten : GoodIn wsX0_measure wsX0_shorten := goodIn_r _ [13, 1, 14, 15, 16, 17, 18, 19, 6, 20, 21, 22, 23, 24, 25, 26, 27, 28, 29, 30, 31, 32, 33, 34, 35, 12, 36, 37, 38, 39, 40, 41, 42, 43, 44, 45, 46, 47, 48, 49, 50, 51, 52, 53, 54, 55, 56, 57, 58, 59, 60, 61, 62, 63, 64, 65] (by decide +kernel) (by decide +kernel)
set_option maxRecDepth 20000 in
theorem gX0_measure_X0_shorten : GoodIn wsX0_measure (wsV RX0 106 RX0 yX0_shorten wsX0_shorten) := goodIn_app (goodIn_of _ (by decide +kernel)) ggX0_measure_X0_shorten
theorem dX0_measure_0 : decode cX0_measure 0 = .ok (.iconst 1, 1) := by decide +kernel
theorem dX0_measure_1 : decode cX0_measure 1 = .ok (.istore_n 1, 1) := by decide +kernel
theorem dX0_measure_2 : decode cX0_measure 2 = .ok (.iconst 0, 1) := by decide +kernel
theorem dX0_measure_3 : decode cX0_measure 3 = .ok (.istore_n 2, 1) := by decide +kernel
theorem dX0_measure_4 : decode cX0_measure 4 = .ok (.iload_n 2, 1) := by decide +kernel
theorem dX0_measure_5 : decode cX0_measure 5 = .ok (.aload_n 0, 1) := by decide +kernel
theorem dX0_measure_6 : decode cX0_measure 6 = .ok (.getfield 27, 3) := by decide +kernel
theorem dX0_measure_9 : decode cX0_measure 9 = .ok (.getfield 82, 3) := by decide +kernel
theorem dX0_measure_12 : decode cX0_measure 12 = .ok (.if_icmp .ge 42, 3) := by decide +kernel
theorem dX0_measure_15 : decode cX0_measure 15 = .ok (.iload_n 1, 1) := by decide +kernel
theorem dX0_measure_16 : decode cX0_measure 16 = .ok (.ifCond .eq 38, 3) := by decide +kernel
theorem dX0_measure_19 : decode cX0_measure 19 = .ok (.iconst 0, 1) := by decide +kernel
theorem dX0_measure_20 : decode cX0_measure 20 = .ok (.istore_n 1, 1) := by decide +kernel
theorem dX0_measure_21 : decode cX0_measure 21 = .ok (.iconst 0, 1) := by decide +kernel
theorem dX0_measure_22 : decode cX0_measure 22 = .ok (.istore_n 3, 1) := by decide +kernel
theorem dX0_measure_23 : decode cX0_measure 23 = .ok (.iload_n 3, 1) := by decide +kernel
theorem dX0_measure_24 : decode cX0_measure 24 = .ok (.aload_n 0, 1) := by decide +kernel
theorem dX0_measure_25 : decode cX0_measure 25 = .ok (.getfield 27, 3) := by decide +kernel
theorem dX0_measure_28 : decode cX0_measure 28 = .ok (.invokevirtual 102, 3) := by decide +kernel
theorem dX0_measure_31 : decode cX0_measure 31 = .ok (.if_icmp .ge 17, 3) := by decide +kernel
theorem dX0_measure_34 : decode cX0_measure 34 = .ok (.iload_n 1, 1) := by decide +kernel
theorem dX0_measure_35 : decode cX0_measure 35 = .ok (.aload_n 0, 1) := by decide +kernel
theorem dX0_measure_36 : decode cX0_measure 36 = .ok (.iload_n 3, 1) := by decide +kernel
theorem dX0_measure_37 : decode cX0_measure 37 = .ok (.invokevirtual 106, 3) := by decide +kernel
theorem dX0_measure_40 : decode cX0_measure 40 = .ok (.ior, 1) := by decide +kernel
theorem dX0_measure_41 : decode cX0_measure 41 = .ok (.istore_n 1, 1) := by decide +kernel
theorem dX0_measure_42 : decode cX0_measure 42 = .ok (.iinc 3 1, 3) := by decide +kernel
theorem dX0_measure_45 : decode cX0_measure 45 = .ok (.goto (-22), 3) := by decide +kernel
theorem dX0_measure_48 : decode cX0_measure 48 = .ok (.iinc 2 1, 3) := by decide +kernel
theorem dX0_measure_51 : decode cX0_measure 51 = .ok (.goto (-47), 3) := by decide +kernel
theorem dX0_measure_54 : decode cX0_measure 54 = .ok (.return_, 1) := by decide +kernel
set_option maxRecDepth 20000 in
theorem ggX0_shorten_X2_start : GoodIn wsX0_shorten wsX2_start := goodIn_r _ [9, 10, 11, 12, 13, 8, 14, 15, 16, 17, 49, 50, 51, 52, 53, 54, 55] (by decide +kernel) (by decide +kernel)
set_option maxRecDepth 20000 in
theorem gX0_shorten_X2_start : GoodIn wsX0_shorten (wsV RX0 93 RX2 yX2_start wsX2_start) := goodIn_app (goodIn_of _ (by decide +kernel)) ggX0_shorten_X2_start
set_option maxRecDepth 20000 in
theorem ggX0_shorten_X2_end : GoodIn wsX0_shorten wsX2_end := goodIn_r _ [21, 11, 10, 12, 13, 8, 14, 15, 16, 17, 49, 50, 51, 52, 53, 54, 55] (by decide +kernel) (by decide +kernel)
set_option maxRecDepth 20000 in
theorem gX0_shorten_X2_end : GoodIn wsX0_shorten (wsV RX0 109 RX2 yX2_end wsX2_end) := goodIn_app (goodIn_of _ (by decide +kernel)) ggX0_shorten_X2_end
set_option maxRecDepth 20000 in
theorem ggX0_shorten_X0_roomOf : GoodIn wsX0_shorten wsX0_roomOf := goodIn_r _ [26, 27, 28, 29, 30, 16, 8, 17, 31, 13, 14, 43, 44, 45, 46, 47, 48] (by decide +kernel) (by decide +kernel)
set_option maxRecDepth 20000 in
theorem gX0_shorten_X0_roomOf : GoodIn wsX0_shorten (wsV RX0 96 RX0 yX0_roomOf wsX0_roomOf) := goodIn_app (goodIn_of _ (by decide +kernel)) ggX0_shorten_X0_roomOf
set_option maxRecDepth 20000 in
theorem ggX0_shorten_X0_priceOf : GoodIn wsX0_shorten wsX0_priceOf := goodIn_r _ [35, 1, 28, 30, 16, 8, 17, 31, 13, 14, 36, 37, 38, 39, 40, 41, 42, 43, 44, 45, 46, 47, 48, 49, 50, 51, 52, 53, 54, 55] (by decide +kernel) (by decide +kernel)
set_option maxRecDepth 20000 in
theorem gX0_shorten_X0_priceOf : GoodIn wsX0_shorten (wsV RX0 112 RX0 yX0_priceOf wsX0_priceOf) := goodIn_app (goodIn_of _ (by decide +kernel)) ggX0_shorten_X0_priceOf
theorem dX0_shorten_0 : decode cX0_shorten 0 = .ok (.aload_n 0, 1) := by decide +kernel
theorem dX0_shorten_1 : decode cX0_shorten 1 = .ok (.getfield 27, 3) := by decide +kernel
theorem dX0_shorten_4 : decode cX0_shorten 4 = .ok (.iload_n 1, 1) := by decide +kernel
theorem dX0_shorten_5 : decode cX0_shorten 5 = .ok (.invokevirtual 93, 3) := by decide +kernel
theorem dX0_shorten_8 : decode cX0_shorten 8 = .ok (.istore_n 2, 1) := by decide +kernel
theorem dX0_shorten_9 : decode cX0_shorten 9 = .ok (.aload_n 0, 1) := by decide +kernel
theorem dX0_shorten_10 : decode cX0_shorten 10 = .ok (.getfield 27, 3) := by decide +kernel
theorem dX0_shorten_13 : decode cX0_shorten 13 = .ok (.iload_n 1, 1) := by decide +kernel
theorem dX0_shorten_14 : decode cX0_shorten 14 = .ok (.invokevirtual 109, 3) := by decide +kernel
theorem dX0_shorten_17 : decode cX0_shorten 17 = .ok (.istore_n 3, 1) := by decide +kernel
theorem dX0_shorten_18 : decode cX0_shorten 18 = .ok (.aload_n 0, 1) := by decide +kernel
theorem dX0_shorten_19 : decode cX0_shorten 19 = .ok (.getfield 21, 3) := by decide +kernel
theorem dX0_shorten_22 : decode cX0_shorten 22 = .ok (.iload_n 2, 1) := by decide +kernel
theorem dX0_shorten_23 : decode cX0_shorten 23 = .ok (.iaload, 1) := by decide +kernel
theorem dX0_shorten_24 : decode cX0_shorten 24 = .ok (.ldc 55, 2) := by decide +kernel
theorem dX0_shorten_26 : decode cX0_shorten 26 = .ok (.if_icmp .ge 32, 3) := by decide +kernel
theorem dX0_shorten_29 : decode cX0_shorten 29 = .ok (.aload_n 0, 1) := by decide +kernel
theorem dX0_shorten_30 : decode cX0_shorten 30 = .ok (.iload_n 1, 1) := by decide +kernel
theorem dX0_shorten_31 : decode cX0_shorten 31 = .ok (.invokevirtual 96, 3) := by decide +kernel
theorem dX0_shorten_34 : decode cX0_shorten 34 = .ok (.ifCond .le 24, 3) := by decide +kernel
theorem dX0_shorten_37 : decode cX0_shorten 37 = .ok (.aload_n 0, 1) := by decide +kernel
theorem dX0_shorten_38 : decode cX0_shorten 38 = .ok (.getfield 21, 3) := by decide +kernel
theorem dX0_shorten_41 : decode cX0_shorten 41 = .ok (.iload_n 2, 1) := by decide +kernel
theorem dX0_shorten_42 : decode cX0_shorten 42 = .ok (.iaload, 1) := by decide +kernel
theorem dX0_shorten_43 : decode cX0_shorten 43 = .ok (.aload_n 0, 1) := by decide +kernel
theorem dX0_shorten_44 : decode cX0_shorten 44 = .ok (.iload_n 1, 1) := by decide +kernel
theorem dX0_shorten_45 : decode cX0_shorten 45 = .ok (.invokevirtual 112, 3) := by decide +kernel
theorem dX0_shorten_48 : decode cX0_shorten 48 = .ok (.iadd, 1) := by decide +kernel
theorem dX0_shorten_49 : decode cX0_shorten 49 = .ok (.aload_n 0, 1) := by decide +kernel
theorem dX0_shorten_50 : decode cX0_shorten 50 = .ok (.getfield 21, 3) := by decide +kernel
theorem dX0_shorten_53 : decode cX0_shorten 53 = .ok (.iload_n 3, 1) := by decide +kernel
theorem dX0_shorten_54 : decode cX0_shorten 54 = .ok (.iaload, 1) := by decide +kernel
theorem dX0_shorten_55 : decode cX0_shorten 55 = .ok (.if_icmp .lt 5, 3) := by decide +kernel
theorem dX0_shorten_58 : decode cX0_shorten 58 = .ok (.iconst 0, 1) := by decide +kernel
theorem dX0_shorten_59 : decode cX0_shorten 59 = .ok (.ireturn, 1) := by decide +kernel
theorem dX0_shorten_60 : decode cX0_shorten 60 = .ok (.aload_n 0, 1) := by decide +kernel
theorem dX0_shorten_61 : decode cX0_shorten 61 = .ok (.getfield 21, 3) := by decide +kernel
theorem dX0_shorten_64 : decode cX0_shorten 64 = .ok (.iload_n 3, 1) := by decide +kernel
theorem dX0_shorten_65 : decode cX0_shorten 65 = .ok (.aload_n 0, 1) := by decide +kernel
theorem dX0_shorten_66 : decode cX0_shorten 66 = .ok (.getfield 21, 3) := by decide +kernel
theorem dX0_shorten_69 : decode cX0_shorten 69 = .ok (.iload_n 2, 1) := by decide +kernel
theorem dX0_shorten_70 : decode cX0_shorten 70 = .ok (.iaload, 1) := by decide +kernel
theorem dX0_shorten_71 : decode cX0_shorten 71 = .ok (.aload_n 0, 1) := by decide +kernel
theorem dX0_shorten_72 : decode cX0_shorten 72 = .ok (.iload_n 1, 1) := by decide +kernel
theorem dX0_shorten_73 : decode cX0_shorten 73 = .ok (.invokevirtual 112, 3) := by decide +kernel
theorem dX0_shorten_76 : decode cX0_shorten 76 = .ok (.iadd, 1) := by decide +kernel
theorem dX0_shorten_77 : decode cX0_shorten 77 = .ok (.iastore, 1) := by decide +kernel
theorem dX0_shorten_78 : decode cX0_shorten 78 = .ok (.aload_n 0, 1) := by decide +kernel
theorem dX0_shorten_79 : decode cX0_shorten 79 = .ok (.getfield 24, 3) := by decide +kernel
theorem dX0_shorten_82 : decode cX0_shorten 82 = .ok (.iload_n 3, 1) := by decide +kernel
theorem dX0_shorten_83 : decode cX0_shorten 83 = .ok (.iload_n 1, 1) := by decide +kernel
theorem dX0_shorten_84 : decode cX0_shorten 84 = .ok (.iastore, 1) := by decide +kernel
theorem dX0_shorten_85 : decode cX0_shorten 85 = .ok (.iconst 1, 1) := by decide +kernel
theorem dX0_shorten_86 : decode cX0_shorten 86 = .ok (.ireturn, 1) := by decide +kernel
set_option maxRecDepth 20000 in
theorem ggX0_spreadFrom_X2_steps : GoodIn wsX0_spreadFrom wsX2_steps := goodIn_r _ [8, 9, 46, 47, 48, 49, 50, 51, 52] (by decide +kernel) (by decide +kernel)
set_option maxRecDepth 20000 in
theorem gX0_spreadFrom_X2_steps : GoodIn wsX0_spreadFrom (wsV RX0 102 RX2 yX2_steps wsX2_steps) := goodIn_app (goodIn_of _ (by decide +kernel)) ggX0_spreadFrom_X2_steps
set_option maxRecDepth 20000 in
theorem ggX0_spreadFrom_X0_widen : GoodIn wsX0_spreadFrom wsX0_widen := goodIn_r _ [14, 1, 3, 15, 16, 17, 7, 18, 19, 20, 21, 22, 23, 24, 25, 26, 27, 28, 29, 30, 31, 32, 33, 13, 34, 35, 36, 37, 38, 39, 40, 41, 42, 43, 44, 45, 46, 47, 48, 49, 50, 51, 52] (by decide +kernel) (by decide +kernel)
set_option maxRecDepth 20000 in
theorem gX0_spreadFrom_X0_widen : GoodIn wsX0_spreadFrom (wsV RX0 115 RX0 yX0_widen wsX0_widen) := goodIn_app (goodIn_of _ (by decide +kernel)) ggX0_spreadFrom_X0_widen
theorem dX0_spreadFrom_0 : decode cX0_spreadFrom 0 = .ok (.iconst 0, 1) := by decide +kernel
theorem dX0_spreadFrom_1 : decode cX0_spreadFrom 1 = .ok (.istore_n 2, 1) := by decide +kernel
theorem dX0_spreadFrom_2 : decode cX0_spreadFrom 2 = .ok (.iload_n 2, 1) := by decide +kernel
theorem dX0_spreadFrom_3 : decode cX0_spreadFrom 3 = .ok (.aload_n 0, 1) := by decide +kernel
theorem dX0_spreadFrom_4 : decode cX0_spreadFrom 4 = .ok (.getfield 27, 3) := by decide +kernel
theorem dX0_spreadFrom_7 : decode cX0_spreadFrom 7 = .ok (.getfield 82, 3) := by decide +kernel
theorem dX0_spreadFrom_10 : decode cX0_spreadFrom 10 = .ok (.if_icmp .ge 16, 3) := by decide +kernel
theorem dX0_spreadFrom_13 : decode cX0_spreadFrom 13 = .ok (.aload_n 0, 1) := by decide +kernel
theorem dX0_spreadFrom_14 : decode cX0_spreadFrom 14 = .ok (.getfield 24, 3) := by decide +kernel
theorem dX0_spreadFrom_17 : decode cX0_spreadFrom 17 = .ok (.iload_n 2, 1) := by decide +kernel
theorem dX0_spreadFrom_18 : decode cX0_spreadFrom 18 = .ok (.iconst (-1), 1) := by decide +kernel
theorem dX0_spreadFrom_19 : decode cX0_spreadFrom 19 = .ok (.iastore, 1) := by decide +kernel
theorem dX0_spreadFrom_20 : decode cX0_spreadFrom 20 = .ok (.iinc 2 1, 3) := by decide +kernel
theorem dX0_spreadFrom_23 : decode cX0_spreadFrom 23 = .ok (.goto (-21), 3) := by decide +kernel
theorem dX0_spreadFrom_26 : decode cX0_spreadFrom 26 = .ok (.iconst 1, 1) := by decide +kernel
theorem dX0_spreadFrom_27 : decode cX0_spreadFrom 27 = .ok (.istore_n 2, 1) := by decide +kernel
theorem dX0_spreadFrom_28 : decode cX0_spreadFrom 28 = .ok (.iconst 0, 1) := by decide +kernel
theorem dX0_spreadFrom_29 : decode cX0_spreadFrom 29 = .ok (.istore_n 3, 1) := by decide +kernel
theorem dX0_spreadFrom_30 : decode cX0_spreadFrom 30 = .ok (.iload_n 3, 1) := by decide +kernel
theorem dX0_spreadFrom_31 : decode cX0_spreadFrom 31 = .ok (.aload_n 0, 1) := by decide +kernel
theorem dX0_spreadFrom_32 : decode cX0_spreadFrom 32 = .ok (.getfield 27, 3) := by decide +kernel
theorem dX0_spreadFrom_35 : decode cX0_spreadFrom 35 = .ok (.getfield 82, 3) := by decide +kernel
theorem dX0_spreadFrom_38 : decode cX0_spreadFrom 38 = .ok (.if_icmp .ge 46, 3) := by decide +kernel
theorem dX0_spreadFrom_41 : decode cX0_spreadFrom 41 = .ok (.iload_n 2, 1) := by decide +kernel
theorem dX0_spreadFrom_42 : decode cX0_spreadFrom 42 = .ok (.ifCond .eq 42, 3) := by decide +kernel
theorem dX0_spreadFrom_45 : decode cX0_spreadFrom 45 = .ok (.iconst 0, 1) := by decide +kernel
theorem dX0_spreadFrom_46 : decode cX0_spreadFrom 46 = .ok (.istore_n 2, 1) := by decide +kernel
theorem dX0_spreadFrom_47 : decode cX0_spreadFrom 47 = .ok (.iconst 0, 1) := by decide +kernel
theorem dX0_spreadFrom_48 : decode cX0_spreadFrom 48 = .ok (.istore 4, 2) := by decide +kernel
theorem dX0_spreadFrom_50 : decode cX0_spreadFrom 50 = .ok (.iload 4, 2) := by decide +kernel
theorem dX0_spreadFrom_52 : decode cX0_spreadFrom 52 = .ok (.aload_n 0, 1) := by decide +kernel
theorem dX0_spreadFrom_53 : decode cX0_spreadFrom 53 = .ok (.getfield 27, 3) := by decide +kernel
theorem dX0_spreadFrom_56 : decode cX0_spreadFrom 56 = .ok (.invokevirtual 102, 3) := by decide +kernel
theorem dX0_spreadFrom_59 : decode cX0_spreadFrom 59 = .ok (.if_icmp .ge 19, 3) := by decide +kernel
theorem dX0_spreadFrom_62 : decode cX0_spreadFrom 62 = .ok (.iload_n 2, 1) := by decide +kernel
theorem dX0_spreadFrom_63 : decode cX0_spreadFrom 63 = .ok (.aload_n 0, 1) := by decide +kernel
theorem dX0_spreadFrom_64 : decode cX0_spreadFrom 64 = .ok (.iload_n 1, 1) := by decide +kernel
theorem dX0_spreadFrom_65 : decode cX0_spreadFrom 65 = .ok (.iload 4, 2) := by decide +kernel
theorem dX0_spreadFrom_67 : decode cX0_spreadFrom 67 = .ok (.invokevirtual 115, 3) := by decide +kernel
theorem dX0_spreadFrom_70 : decode cX0_spreadFrom 70 = .ok (.ior, 1) := by decide +kernel
theorem dX0_spreadFrom_71 : decode cX0_spreadFrom 71 = .ok (.istore_n 2, 1) := by decide +kernel
theorem dX0_spreadFrom_72 : decode cX0_spreadFrom 72 = .ok (.iinc 4 1, 3) := by decide +kernel
theorem dX0_spreadFrom_75 : decode cX0_spreadFrom 75 = .ok (.goto (-25), 3) := by decide +kernel
theorem dX0_spreadFrom_78 : decode cX0_spreadFrom 78 = .ok (.iinc 3 1, 3) := by decide +kernel
theorem dX0_spreadFrom_81 : decode cX0_spreadFrom 81 = .ok (.goto (-51), 3) := by decide +kernel
theorem dX0_spreadFrom_84 : decode cX0_spreadFrom 84 = .ok (.return_, 1) := by decide +kernel
set_option maxRecDepth 20000 in
theorem ggX0_widen_X2_start : GoodIn wsX0_widen wsX2_start := goodIn_r _ [7, 8, 9, 10, 11, 6, 12, 13, 14, 15, 36, 37, 38, 39, 40, 41, 42] (by decide +kernel) (by decide +kernel)
set_option maxRecDepth 20000 in
theorem gX0_widen_X2_start : GoodIn wsX0_widen (wsV RX0 93 RX2 yX2_start wsX2_start) := goodIn_app (goodIn_of _ (by decide +kernel)) ggX0_widen_X2_start
set_option maxRecDepth 20000 in
theorem ggX0_widen_X2_end : GoodIn wsX0_widen wsX2_end := goodIn_r _ [19, 9, 8, 10, 11, 6, 12, 13, 14, 15, 36, 37, 38, 39, 40, 41, 42] (by decide +kernel) (by decide +kernel)
set_option maxRecDepth 20000 in
theorem gX0_widen_X2_end : GoodIn wsX0_widen (wsV RX0 109 RX2 yX2_end wsX2_end) := goodIn_app (goodIn_of _ (by decide +kernel)) ggX0_widen_X2_end
set_option maxRecDepth 20000 in
theorem ggX0_widen_X0_roomOf : GoodIn wsX0_widen wsX0_roomOf := goodIn_r _ [24, 25, 26, 27, 28, 14, 6, 15, 29, 11, 12, 30, 31, 32, 33, 34, 35] (by decide +kernel) (by decide +kernel)
set_option maxRecDepth 20000 in
theorem gX0_widen_X0_roomOf : GoodIn wsX0_widen (wsV RX0 96 RX0 yX0_roomOf wsX0_roomOf) := goodIn_app (goodIn_of _ (by decide +kernel)) ggX0_widen_X0_roomOf
theorem dX0_widen_0 : decode cX0_widen 0 = .ok (.aload_n 0, 1) := by decide +kernel
theorem dX0_widen_1 : decode cX0_widen 1 = .ok (.getfield 27, 3) := by decide +kernel
theorem dX0_widen_4 : decode cX0_widen 4 = .ok (.iload_n 2, 1) := by decide +kernel
theorem dX0_widen_5 : decode cX0_widen 5 = .ok (.invokevirtual 93, 3) := by decide +kernel
theorem dX0_widen_8 : decode cX0_widen 8 = .ok (.istore_n 3, 1) := by decide +kernel
theorem dX0_widen_9 : decode cX0_widen 9 = .ok (.aload_n 0, 1) := by decide +kernel
theorem dX0_widen_10 : decode cX0_widen 10 = .ok (.getfield 27, 3) := by decide +kernel
theorem dX0_widen_13 : decode cX0_widen 13 = .ok (.iload_n 2, 1) := by decide +kernel
theorem dX0_widen_14 : decode cX0_widen 14 = .ok (.invokevirtual 109, 3) := by decide +kernel
theorem dX0_widen_17 : decode cX0_widen 17 = .ok (.istore 4, 2) := by decide +kernel
theorem dX0_widen_19 : decode cX0_widen 19 = .ok (.iload_n 3, 1) := by decide +kernel
theorem dX0_widen_20 : decode cX0_widen 20 = .ok (.iload_n 1, 1) := by decide +kernel
theorem dX0_widen_21 : decode cX0_widen 21 = .ok (.if_icmp .eq 13, 3) := by decide +kernel
theorem dX0_widen_24 : decode cX0_widen 24 = .ok (.aload_n 0, 1) := by decide +kernel
theorem dX0_widen_25 : decode cX0_widen 25 = .ok (.getfield 24, 3) := by decide +kernel
theorem dX0_widen_28 : decode cX0_widen 28 = .ok (.iload_n 3, 1) := by decide +kernel
theorem dX0_widen_29 : decode cX0_widen 29 = .ok (.iaload, 1) := by decide +kernel
theorem dX0_widen_30 : decode cX0_widen 30 = .ok (.iconst (-1), 1) := by decide +kernel
theorem dX0_widen_31 : decode cX0_widen 31 = .ok (.if_icmp .eq 7, 3) := by decide +kernel
theorem dX0_widen_34 : decode cX0_widen 34 = .ok (.iconst 1, 1) := by decide +kernel
theorem dX0_widen_35 : decode cX0_widen 35 = .ok (.goto 4, 3) := by decide +kernel
theorem dX0_widen_38 : decode cX0_widen 38 = .ok (.iconst 0, 1) := by decide +kernel
theorem dX0_widen_39 : decode cX0_widen 39 = .ok (.istore 5, 2) := by decide +kernel
theorem dX0_widen_41 : decode cX0_widen 41 = .ok (.iload 5, 2) := by decide +kernel
theorem dX0_widen_43 : decode cX0_widen 43 = .ok (.ifCond .eq 28, 3) := by decide +kernel
theorem dX0_widen_46 : decode cX0_widen 46 = .ok (.iload 4, 2) := by decide +kernel
theorem dX0_widen_48 : decode cX0_widen 48 = .ok (.iload_n 1, 1) := by decide +kernel
theorem dX0_widen_49 : decode cX0_widen 49 = .ok (.if_icmp .eq 22, 3) := by decide +kernel
theorem dX0_widen_52 : decode cX0_widen 52 = .ok (.aload_n 0, 1) := by decide +kernel
theorem dX0_widen_53 : decode cX0_widen 53 = .ok (.getfield 24, 3) := by decide +kernel
theorem dX0_widen_56 : decode cX0_widen 56 = .ok (.iload 4, 2) := by decide +kernel
theorem dX0_widen_58 : decode cX0_widen 58 = .ok (.iaload, 1) := by decide +kernel
theorem dX0_widen_59 : decode cX0_widen 59 = .ok (.iconst (-1), 1) := by decide +kernel
theorem dX0_widen_60 : decode cX0_widen 60 = .ok (.if_icmp .ne 11, 3) := by decide +kernel
theorem dX0_widen_63 : decode cX0_widen 63 = .ok (.aload_n 0, 1) := by decide +kernel
theorem dX0_widen_64 : decode cX0_widen 64 = .ok (.iload_n 2, 1) := by decide +kernel
theorem dX0_widen_65 : decode cX0_widen 65 = .ok (.invokevirtual 96, 3) := by decide +kernel
theorem dX0_widen_68 : decode cX0_widen 68 = .ok (.ifCond .gt 5, 3) := by decide +kernel
theorem dX0_widen_71 : decode cX0_widen 71 = .ok (.iconst 0, 1) := by decide +kernel
theorem dX0_widen_72 : decode cX0_widen 72 = .ok (.ireturn, 1) := by decide +kernel
theorem dX0_widen_73 : decode cX0_widen 73 = .ok (.aload_n 0, 1) := by decide +kernel
theorem dX0_widen_74 : decode cX0_widen 74 = .ok (.getfield 24, 3) := by decide +kernel
theorem dX0_widen_77 : decode cX0_widen 77 = .ok (.iload 4, 2) := by decide +kernel
theorem dX0_widen_79 : decode cX0_widen 79 = .ok (.iload_n 2, 1) := by decide +kernel
theorem dX0_widen_80 : decode cX0_widen 80 = .ok (.iastore, 1) := by decide +kernel
theorem dX0_widen_81 : decode cX0_widen 81 = .ok (.iconst 1, 1) := by decide +kernel
theorem dX0_widen_82 : decode cX0_widen 82 = .ok (.ireturn, 1) := by decide +kernel
