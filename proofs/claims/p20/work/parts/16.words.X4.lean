set_option maxRecDepth 20000 in
theorem ggX4_init_X2_init : GoodIn wsX4_init wsX2_init := goodIn_r _ [32, 33, 2, 3, 34, 35, 36, 37, 38, 39, 40, 41, 78, 79, 80, 81, 82, 83, 84] (by decide +kernel) (by decide +kernel)
set_option maxRecDepth 20000 in
theorem gX4_init_X2_init : GoodIn wsX4_init (wsX2_init) := ggX4_init_X2_init
set_option maxRecDepth 20000 in
theorem ggX4_init_X0_init : GoodIn wsX4_init wsX0_init := goodIn_r _ [44, 45, 2, 3, 35, 46, 47, 48, 49, 50, 51, 85, 86, 87, 88, 89, 90] (by decide +kernel) (by decide +kernel)
set_option maxRecDepth 20000 in
theorem gX4_init_X0_init : GoodIn wsX4_init (wsX0_init) := ggX4_init_X0_init
set_option maxRecDepth 20000 in
theorem ggX4_init_X3_init : GoodIn wsX4_init wsX3_init := goodIn_r _ [54, 55, 2, 3, 56, 57, 35, 58, 59, 60, 91, 92, 93, 94] (by decide +kernel) (by decide +kernel)
set_option maxRecDepth 20000 in
theorem gX4_init_X3_init : GoodIn wsX4_init (wsX3_init) := ggX4_init_X3_init
set_option maxRecDepth 20000 in
theorem ggX4_init_X1_init : GoodIn wsX4_init wsX1_init := goodIn_r _ [63, 64, 2, 3, 35, 65, 66, 67, 68, 69, 70, 95, 96, 97, 98, 99, 100] (by decide +kernel) (by decide +kernel)
set_option maxRecDepth 20000 in
theorem gX4_init_X1_init : GoodIn wsX4_init (wsX1_init) := ggX4_init_X1_init
theorem dX4_init_0 : decode cX4_init 0 = .ok (.aload_n 0, 1) := by decide +kernel
theorem dX4_init_1 : decode cX4_init 1 = .ok (.invokespecial 3, 3) := by decide +kernel
theorem dX4_init_4 : decode cX4_init 4 = .ok (.aload_n 0, 1) := by decide +kernel
theorem dX4_init_5 : decode cX4_init 5 = .ok (.iconst 0, 1) := by decide +kernel
theorem dX4_init_6 : decode cX4_init 6 = .ok (.putfield 9, 3) := by decide +kernel
theorem dX4_init_9 : decode cX4_init 9 = .ok (.aload_n 0, 1) := by decide +kernel
theorem dX4_init_10 : decode cX4_init 10 = .ok (.iconst 1, 1) := by decide +kernel
theorem dX4_init_11 : decode cX4_init 11 = .ok (.putfield 13, 3) := by decide +kernel
theorem dX4_init_14 : decode cX4_init 14 = .ok (.aload_n 0, 1) := by decide +kernel
theorem dX4_init_15 : decode cX4_init 15 = .ok (.iconst 0, 1) := by decide +kernel
theorem dX4_init_16 : decode cX4_init 16 = .ok (.putfield 16, 3) := by decide +kernel
theorem dX4_init_19 : decode cX4_init 19 = .ok (.aload_n 0, 1) := by decide +kernel
theorem dX4_init_20 : decode cX4_init 20 = .ok (.new 19, 3) := by decide +kernel
theorem dX4_init_23 : decode cX4_init 23 = .ok (.dup, 1) := by decide +kernel
theorem dX4_init_24 : decode cX4_init 24 = .ok (.iconst 2, 1) := by decide +kernel
theorem dX4_init_25 : decode cX4_init 25 = .ok (.bipush 8, 2) := by decide +kernel
theorem dX4_init_27 : decode cX4_init 27 = .ok (.iload_n 1, 1) := by decide +kernel
theorem dX4_init_28 : decode cX4_init 28 = .ok (.invokestatic 21, 3) := by decide +kernel
theorem dX4_init_31 : decode cX4_init 31 = .ok (.invokestatic 27, 3) := by decide +kernel
theorem dX4_init_34 : decode cX4_init 34 = .ok (.invokespecial 30, 3) := by decide +kernel
theorem dX4_init_37 : decode cX4_init 37 = .ok (.putfield 33, 3) := by decide +kernel
theorem dX4_init_40 : decode cX4_init 40 = .ok (.aload_n 0, 1) := by decide +kernel
theorem dX4_init_41 : decode cX4_init 41 = .ok (.new 37, 3) := by decide +kernel
theorem dX4_init_44 : decode cX4_init 44 = .ok (.dup, 1) := by decide +kernel
theorem dX4_init_45 : decode cX4_init 45 = .ok (.aload_n 0, 1) := by decide +kernel
theorem dX4_init_46 : decode cX4_init 46 = .ok (.getfield 33, 3) := by decide +kernel
theorem dX4_init_49 : decode cX4_init 49 = .ok (.invokespecial 39, 3) := by decide +kernel
theorem dX4_init_52 : decode cX4_init 52 = .ok (.putfield 42, 3) := by decide +kernel
theorem dX4_init_55 : decode cX4_init 55 = .ok (.aload_n 0, 1) := by decide +kernel
theorem dX4_init_56 : decode cX4_init 56 = .ok (.new 46, 3) := by decide +kernel
theorem dX4_init_59 : decode cX4_init 59 = .ok (.dup, 1) := by decide +kernel
theorem dX4_init_60 : decode cX4_init 60 = .ok (.aload_n 0, 1) := by decide +kernel
theorem dX4_init_61 : decode cX4_init 61 = .ok (.getfield 33, 3) := by decide +kernel
theorem dX4_init_64 : decode cX4_init 64 = .ok (.invokespecial 48, 3) := by decide +kernel
theorem dX4_init_67 : decode cX4_init 67 = .ok (.putfield 49, 3) := by decide +kernel
theorem dX4_init_70 : decode cX4_init 70 = .ok (.aload_n 0, 1) := by decide +kernel
theorem dX4_init_71 : decode cX4_init 71 = .ok (.new 53, 3) := by decide +kernel
theorem dX4_init_74 : decode cX4_init 74 = .ok (.dup, 1) := by decide +kernel
theorem dX4_init_75 : decode cX4_init 75 = .ok (.aload_n 0, 1) := by decide +kernel
theorem dX4_init_76 : decode cX4_init 76 = .ok (.getfield 33, 3) := by decide +kernel
theorem dX4_init_79 : decode cX4_init 79 = .ok (.invokespecial 55, 3) := by decide +kernel
theorem dX4_init_82 : decode cX4_init 82 = .ok (.putfield 56, 3) := by decide +kernel
theorem dX4_init_85 : decode cX4_init 85 = .ok (.return_, 1) := by decide +kernel
set_option maxRecDepth 20000 in
theorem ggX4_arc_X4_refuseOtherThanNode : GoodIn wsX4_arc wsX4_refuseOtherThanNode := goodIn_ca (goodIn_r _ [11, 12, 13, 5, 14, 33, 34, 35, 36, 37, 38, 39, 40, 41, 42, 43, 44, 45, 46] (by decide +kernel) (by decide +kernel)) (goodIn_sub (fun _ h => List.mem_cons_of_mem _ (List.mem_append_right _ h)) (by decide +kernel))
set_option maxRecDepth 20000 in
theorem gX4_arc_X4_refuseOtherThanNode : GoodIn wsX4_arc (wsV RX4 60 RX4 yX4_refuseOtherThanNode wsX4_refuseOtherThanNode) := goodIn_app (goodIn_of _ (by decide +kernel)) ggX4_arc_X4_refuseOtherThanNode
set_option maxRecDepth 20000 in
theorem ggX4_arc_X4_isNoWidth : GoodIn wsX4_arc wsX4_isNoWidth := goodIn_r _ [17] (by decide +kernel) (by decide +kernel)
set_option maxRecDepth 20000 in
theorem gX4_arc_X4_isNoWidth : GoodIn wsX4_arc (va_wsS RX4 63 yX4_isNoWidth wsX4_isNoWidth) := goodIn_app (goodIn_of _ (by decide +kernel)) ggX4_arc_X4_isNoWidth
set_option maxRecDepth 20000 in
theorem ggX4_arc_X2_addArc : GoodIn wsX4_arc wsX2_addArc := goodIn_r _ [22, 23, 24, 25, 26, 27, 28, 21, 29, 30, 31, 32, 40, 41, 42, 43, 44, 45, 46] (by decide +kernel) (by decide +kernel)
set_option maxRecDepth 20000 in
theorem gX4_arc_X2_addArc : GoodIn wsX4_arc (wsV RX4 76 RX2 yX2_addArc wsX2_addArc) := goodIn_app (goodIn_of _ (by decide +kernel)) ggX4_arc_X2_addArc
theorem dX4_arc_0 : decode cX4_arc 0 = .ok (.aload_n 0, 1) := by decide +kernel
theorem dX4_arc_1 : decode cX4_arc 1 = .ok (.iload_n 1, 1) := by decide +kernel
theorem dX4_arc_2 : decode cX4_arc 2 = .ok (.invokevirtual 60, 3) := by decide +kernel
theorem dX4_arc_5 : decode cX4_arc 5 = .ok (.aload_n 0, 1) := by decide +kernel
theorem dX4_arc_6 : decode cX4_arc 6 = .ok (.iload_n 2, 1) := by decide +kernel
theorem dX4_arc_7 : decode cX4_arc 7 = .ok (.invokevirtual 60, 3) := by decide +kernel
theorem dX4_arc_10 : decode cX4_arc 10 = .ok (.iload_n 1, 1) := by decide +kernel
theorem dX4_arc_11 : decode cX4_arc 11 = .ok (.iload_n 2, 1) := by decide +kernel
theorem dX4_arc_12 : decode cX4_arc 12 = .ok (.if_icmp .eq 22, 3) := by decide +kernel
theorem dX4_arc_15 : decode cX4_arc 15 = .ok (.iload_n 3, 1) := by decide +kernel
theorem dX4_arc_16 : decode cX4_arc 16 = .ok (.invokestatic 63, 3) := by decide +kernel
theorem dX4_arc_19 : decode cX4_arc 19 = .ok (.ifCond .ne 15, 3) := by decide +kernel
theorem dX4_arc_22 : decode cX4_arc 22 = .ok (.iload 4, 2) := by decide +kernel
theorem dX4_arc_24 : decode cX4_arc 24 = .ok (.ifCond .lt 10, 3) := by decide +kernel
theorem dX4_arc_27 : decode cX4_arc 27 = .ok (.iload 4, 2) := by decide +kernel
theorem dX4_arc_29 : decode cX4_arc 29 = .ok (.bipush 99, 2) := by decide +kernel
theorem dX4_arc_31 : decode cX4_arc 31 = .ok (.if_icmp .le 11, 3) := by decide +kernel
theorem dX4_arc_34 : decode cX4_arc 34 = .ok (.new 67, 3) := by decide +kernel
theorem dX4_arc_37 : decode cX4_arc 37 = .ok (.dup, 1) := by decide +kernel
theorem dX4_arc_38 : decode cX4_arc 38 = .ok (.invokespecial 69, 3) := by decide +kernel
theorem dX4_arc_41 : decode cX4_arc 41 = .ok (.athrow, 1) := by decide +kernel
theorem dX4_arc_42 : decode cX4_arc 42 = .ok (.aload_n 0, 1) := by decide +kernel
theorem dX4_arc_43 : decode cX4_arc 43 = .ok (.getfield 33, 3) := by decide +kernel
theorem dX4_arc_46 : decode cX4_arc 46 = .ok (.getfield 70, 3) := by decide +kernel
theorem dX4_arc_49 : decode cX4_arc 49 = .ok (.bipush 12, 2) := by decide +kernel
theorem dX4_arc_51 : decode cX4_arc 51 = .ok (.if_icmp .lt 11, 3) := by decide +kernel
theorem dX4_arc_54 : decode cX4_arc 54 = .ok (.new 73, 3) := by decide +kernel
theorem dX4_arc_57 : decode cX4_arc 57 = .ok (.dup, 1) := by decide +kernel
theorem dX4_arc_58 : decode cX4_arc 58 = .ok (.invokespecial 75, 3) := by decide +kernel
theorem dX4_arc_61 : decode cX4_arc 61 = .ok (.athrow, 1) := by decide +kernel
theorem dX4_arc_62 : decode cX4_arc 62 = .ok (.aload_n 0, 1) := by decide +kernel
theorem dX4_arc_63 : decode cX4_arc 63 = .ok (.getfield 33, 3) := by decide +kernel
theorem dX4_arc_66 : decode cX4_arc 66 = .ok (.iload_n 1, 1) := by decide +kernel
theorem dX4_arc_67 : decode cX4_arc 67 = .ok (.iload_n 2, 1) := by decide +kernel
theorem dX4_arc_68 : decode cX4_arc 68 = .ok (.iload_n 3, 1) := by decide +kernel
theorem dX4_arc_69 : decode cX4_arc 69 = .ok (.iload 4, 2) := by decide +kernel
theorem dX4_arc_71 : decode cX4_arc 71 = .ok (.invokevirtual 76, 3) := by decide +kernel
theorem dX4_arc_74 : decode cX4_arc 74 = .ok (.ireturn, 1) := by decide +kernel
set_option maxRecDepth 20000 in
theorem ggX4_piece_X4_refuseOtherThanArc : GoodIn wsX4_piece wsX4_refuseOtherThanArc := goodIn_ca (goodIn_r _ [12, 13, 14, 5, 15, 36, 37, 38, 39, 40, 41, 42, 43, 44, 45, 46, 47, 48, 49] (by decide +kernel) (by decide +kernel)) (goodIn_sub (fun _ h => List.mem_cons_of_mem _ (List.mem_append_right _ h)) (by decide +kernel))
set_option maxRecDepth 20000 in
theorem gX4_piece_X4_refuseOtherThanArc : GoodIn wsX4_piece (wsV RX4 80 RX4 yX4_refuseOtherThanArc wsX4_refuseOtherThanArc) := goodIn_app (goodIn_of _ (by decide +kernel)) ggX4_piece_X4_refuseOtherThanArc
set_option maxRecDepth 20000 in
theorem ggX4_piece_X4_isNoWidth : GoodIn wsX4_piece wsX4_isNoWidth := goodIn_r _ [18] (by decide +kernel) (by decide +kernel)
set_option maxRecDepth 20000 in
theorem gX4_piece_X4_isNoWidth : GoodIn wsX4_piece (va_wsS RX4 63 yX4_isNoWidth wsX4_isNoWidth) := goodIn_app (goodIn_of _ (by decide +kernel)) ggX4_piece_X4_isNoWidth
set_option maxRecDepth 20000 in
theorem ggX4_piece_X2_lastPrice : GoodIn wsX4_piece wsX2_lastPrice := goodIn_r _ [23, 24, 25, 26, 27, 22, 28, 29, 30, 43, 44, 45, 46, 47, 48, 49] (by decide +kernel) (by decide +kernel)
set_option maxRecDepth 20000 in
theorem gX4_piece_X2_lastPrice : GoodIn wsX4_piece (wsV RX4 83 RX2 yX2_lastPrice wsX2_lastPrice) := goodIn_app (goodIn_of _ (by decide +kernel)) ggX4_piece_X2_lastPrice
set_option maxRecDepth 20000 in
theorem ggX4_piece_X2_addPiece : GoodIn wsX4_piece wsX2_addPiece := goodIn_r _ [34, 24, 30, 35, 43, 44, 45, 46, 47, 48, 49] (by decide +kernel) (by decide +kernel)
set_option maxRecDepth 20000 in
theorem gX4_piece_X2_addPiece : GoodIn wsX4_piece (wsV RX4 91 RX2 yX2_addPiece wsX2_addPiece) := goodIn_app (goodIn_of _ (by decide +kernel)) ggX4_piece_X2_addPiece
theorem dX4_piece_0 : decode cX4_piece 0 = .ok (.aload_n 0, 1) := by decide +kernel
theorem dX4_piece_1 : decode cX4_piece 1 = .ok (.iload_n 1, 1) := by decide +kernel
theorem dX4_piece_2 : decode cX4_piece 2 = .ok (.invokevirtual 80, 3) := by decide +kernel
theorem dX4_piece_5 : decode cX4_piece 5 = .ok (.iload_n 2, 1) := by decide +kernel
theorem dX4_piece_6 : decode cX4_piece 6 = .ok (.invokestatic 63, 3) := by decide +kernel
theorem dX4_piece_9 : decode cX4_piece 9 = .ok (.ifCond .ne 21, 3) := by decide +kernel
theorem dX4_piece_12 : decode cX4_piece 12 = .ok (.iload_n 3, 1) := by decide +kernel
theorem dX4_piece_13 : decode cX4_piece 13 = .ok (.aload_n 0, 1) := by decide +kernel
theorem dX4_piece_14 : decode cX4_piece 14 = .ok (.getfield 33, 3) := by decide +kernel
theorem dX4_piece_17 : decode cX4_piece 17 = .ok (.iload_n 1, 1) := by decide +kernel
theorem dX4_piece_18 : decode cX4_piece 18 = .ok (.invokevirtual 83, 3) := by decide +kernel
theorem dX4_piece_21 : decode cX4_piece 21 = .ok (.if_icmp .lt 9, 3) := by decide +kernel
theorem dX4_piece_24 : decode cX4_piece 24 = .ok (.iload_n 3, 1) := by decide +kernel
theorem dX4_piece_25 : decode cX4_piece 25 = .ok (.bipush 99, 2) := by decide +kernel
theorem dX4_piece_27 : decode cX4_piece 27 = .ok (.if_icmp .le 11, 3) := by decide +kernel
theorem dX4_piece_30 : decode cX4_piece 30 = .ok (.new 67, 3) := by decide +kernel
theorem dX4_piece_33 : decode cX4_piece 33 = .ok (.dup, 1) := by decide +kernel
theorem dX4_piece_34 : decode cX4_piece 34 = .ok (.invokespecial 69, 3) := by decide +kernel
theorem dX4_piece_37 : decode cX4_piece 37 = .ok (.athrow, 1) := by decide +kernel
theorem dX4_piece_38 : decode cX4_piece 38 = .ok (.aload_n 0, 1) := by decide +kernel
theorem dX4_piece_39 : decode cX4_piece 39 = .ok (.getfield 33, 3) := by decide +kernel
theorem dX4_piece_42 : decode cX4_piece 42 = .ok (.getfield 87, 3) := by decide +kernel
theorem dX4_piece_45 : decode cX4_piece 45 = .ok (.iload_n 1, 1) := by decide +kernel
theorem dX4_piece_46 : decode cX4_piece 46 = .ok (.iaload, 1) := by decide +kernel
theorem dX4_piece_47 : decode cX4_piece 47 = .ok (.iconst 3, 1) := by decide +kernel
theorem dX4_piece_48 : decode cX4_piece 48 = .ok (.if_icmp .lt 11, 3) := by decide +kernel
theorem dX4_piece_51 : decode cX4_piece 51 = .ok (.new 73, 3) := by decide +kernel
theorem dX4_piece_54 : decode cX4_piece 54 = .ok (.dup, 1) := by decide +kernel
theorem dX4_piece_55 : decode cX4_piece 55 = .ok (.invokespecial 75, 3) := by decide +kernel
theorem dX4_piece_58 : decode cX4_piece 58 = .ok (.athrow, 1) := by decide +kernel
theorem dX4_piece_59 : decode cX4_piece 59 = .ok (.aload_n 0, 1) := by decide +kernel
theorem dX4_piece_60 : decode cX4_piece 60 = .ok (.getfield 33, 3) := by decide +kernel
theorem dX4_piece_63 : decode cX4_piece 63 = .ok (.iload_n 1, 1) := by decide +kernel
theorem dX4_piece_64 : decode cX4_piece 64 = .ok (.iload_n 2, 1) := by decide +kernel
theorem dX4_piece_65 : decode cX4_piece 65 = .ok (.iload_n 3, 1) := by decide +kernel
theorem dX4_piece_66 : decode cX4_piece 66 = .ok (.invokevirtual 91, 3) := by decide +kernel
theorem dX4_piece_69 : decode cX4_piece 69 = .ok (.aload_n 0, 1) := by decide +kernel
theorem dX4_piece_70 : decode cX4_piece 70 = .ok (.getfield 33, 3) := by decide +kernel
theorem dX4_piece_73 : decode cX4_piece 73 = .ok (.getfield 95, 3) := by decide +kernel
theorem dX4_piece_76 : decode cX4_piece 76 = .ok (.iload_n 1, 1) := by decide +kernel
theorem dX4_piece_77 : decode cX4_piece 77 = .ok (.iaload, 1) := by decide +kernel
theorem dX4_piece_78 : decode cX4_piece 78 = .ok (.ireturn, 1) := by decide +kernel
set_option maxRecDepth 20000 in
theorem ggX4_demand_X4_refuseOtherThanNode : GoodIn wsX4_demand wsX4_refuseOtherThanNode := goodIn_ca (goodIn_r _ [10, 11, 12, 13, 14, 15, 16, 17, 18, 19, 20, 21, 22, 23, 24, 25, 26, 27, 28] (by decide +kernel) (by decide +kernel)) (goodIn_sub (fun _ h => List.mem_cons_of_mem _ (List.mem_append_right _ h)) (by decide +kernel))
set_option maxRecDepth 20000 in
theorem gX4_demand_X4_refuseOtherThanNode : GoodIn wsX4_demand (wsV RX4 60 RX4 yX4_refuseOtherThanNode wsX4_refuseOtherThanNode) := goodIn_app (goodIn_of _ (by decide +kernel)) ggX4_demand_X4_refuseOtherThanNode
theorem dX4_demand_0 : decode cX4_demand 0 = .ok (.aload_n 0, 1) := by decide +kernel
theorem dX4_demand_1 : decode cX4_demand 1 = .ok (.iload_n 1, 1) := by decide +kernel
theorem dX4_demand_2 : decode cX4_demand 2 = .ok (.invokevirtual 60, 3) := by decide +kernel
theorem dX4_demand_5 : decode cX4_demand 5 = .ok (.aload_n 0, 1) := by decide +kernel
theorem dX4_demand_6 : decode cX4_demand 6 = .ok (.iload_n 2, 1) := by decide +kernel
theorem dX4_demand_7 : decode cX4_demand 7 = .ok (.invokevirtual 60, 3) := by decide +kernel
theorem dX4_demand_10 : decode cX4_demand 10 = .ok (.iload_n 1, 1) := by decide +kernel
theorem dX4_demand_11 : decode cX4_demand 11 = .ok (.iload_n 2, 1) := by decide +kernel
theorem dX4_demand_12 : decode cX4_demand 12 = .ok (.if_icmp .eq 13, 3) := by decide +kernel
theorem dX4_demand_15 : decode cX4_demand 15 = .ok (.iload_n 3, 1) := by decide +kernel
theorem dX4_demand_16 : decode cX4_demand 16 = .ok (.ifCond .lt 9, 3) := by decide +kernel
theorem dX4_demand_19 : decode cX4_demand 19 = .ok (.iload_n 3, 1) := by decide +kernel
theorem dX4_demand_20 : decode cX4_demand 20 = .ok (.bipush 20, 2) := by decide +kernel
theorem dX4_demand_22 : decode cX4_demand 22 = .ok (.if_icmp .le 11, 3) := by decide +kernel
theorem dX4_demand_25 : decode cX4_demand 25 = .ok (.new 67, 3) := by decide +kernel
theorem dX4_demand_28 : decode cX4_demand 28 = .ok (.dup, 1) := by decide +kernel
theorem dX4_demand_29 : decode cX4_demand 29 = .ok (.invokespecial 69, 3) := by decide +kernel
theorem dX4_demand_32 : decode cX4_demand 32 = .ok (.athrow, 1) := by decide +kernel
theorem dX4_demand_33 : decode cX4_demand 33 = .ok (.aload_n 0, 1) := by decide +kernel
theorem dX4_demand_34 : decode cX4_demand 34 = .ok (.iload_n 1, 1) := by decide +kernel
theorem dX4_demand_35 : decode cX4_demand 35 = .ok (.putfield 9, 3) := by decide +kernel
theorem dX4_demand_38 : decode cX4_demand 38 = .ok (.aload_n 0, 1) := by decide +kernel
theorem dX4_demand_39 : decode cX4_demand 39 = .ok (.iload_n 2, 1) := by decide +kernel
theorem dX4_demand_40 : decode cX4_demand 40 = .ok (.putfield 13, 3) := by decide +kernel
theorem dX4_demand_43 : decode cX4_demand 43 = .ok (.aload_n 0, 1) := by decide +kernel
theorem dX4_demand_44 : decode cX4_demand 44 = .ok (.iload_n 3, 1) := by decide +kernel
theorem dX4_demand_45 : decode cX4_demand 45 = .ok (.putfield 16, 3) := by decide +kernel
theorem dX4_demand_48 : decode cX4_demand 48 = .ok (.return_, 1) := by decide +kernel
theorem dX4_nodes_0 : decode cX4_nodes 0 = .ok (.aload_n 0, 1) := by decide +kernel
theorem dX4_nodes_1 : decode cX4_nodes 1 = .ok (.getfield 33, 3) := by decide +kernel
theorem dX4_nodes_4 : decode cX4_nodes 4 = .ok (.getfield 98, 3) := by decide +kernel
theorem dX4_nodes_7 : decode cX4_nodes 7 = .ok (.ireturn, 1) := by decide +kernel
theorem dX4_arcs_0 : decode cX4_arcs 0 = .ok (.aload_n 0, 1) := by decide +kernel
theorem dX4_arcs_1 : decode cX4_arcs 1 = .ok (.getfield 33, 3) := by decide +kernel
theorem dX4_arcs_4 : decode cX4_arcs 4 = .ok (.getfield 70, 3) := by decide +kernel
theorem dX4_arcs_7 : decode cX4_arcs 7 = .ok (.ireturn, 1) := by decide +kernel
set_option maxRecDepth 20000 in
theorem ggX4_capacity_X4_refuseOtherThanArc : GoodIn wsX4_capacity wsX4_refuseOtherThanArc := goodIn_ca (goodIn_r _ [7, 8, 9, 1, 10, 11, 12, 13, 14, 15, 16, 17, 18, 19, 20, 21, 22, 23, 24] (by decide +kernel) (by decide +kernel)) (goodIn_sub (fun _ h => List.mem_cons_of_mem _ (List.mem_append_right _ h)) (by decide +kernel))
set_option maxRecDepth 20000 in
theorem gX4_capacity_X4_refuseOtherThanArc : GoodIn wsX4_capacity (wsV RX4 80 RX4 yX4_refuseOtherThanArc wsX4_refuseOtherThanArc) := goodIn_app (goodIn_of _ (by decide +kernel)) ggX4_capacity_X4_refuseOtherThanArc
theorem dX4_capacity_0 : decode cX4_capacity 0 = .ok (.aload_n 0, 1) := by decide +kernel
theorem dX4_capacity_1 : decode cX4_capacity 1 = .ok (.iload_n 1, 1) := by decide +kernel
theorem dX4_capacity_2 : decode cX4_capacity 2 = .ok (.invokevirtual 80, 3) := by decide +kernel
theorem dX4_capacity_5 : decode cX4_capacity 5 = .ok (.aload_n 0, 1) := by decide +kernel
theorem dX4_capacity_6 : decode cX4_capacity 6 = .ok (.getfield 33, 3) := by decide +kernel
theorem dX4_capacity_9 : decode cX4_capacity 9 = .ok (.getfield 95, 3) := by decide +kernel
theorem dX4_capacity_12 : decode cX4_capacity 12 = .ok (.iload_n 1, 1) := by decide +kernel
theorem dX4_capacity_13 : decode cX4_capacity 13 = .ok (.iaload, 1) := by decide +kernel
theorem dX4_capacity_14 : decode cX4_capacity 14 = .ok (.ireturn, 1) := by decide +kernel
set_option maxRecDepth 20000 in
theorem ggX4_price_X4_refuseOtherThanArc : GoodIn wsX4_price wsX4_refuseOtherThanArc := goodIn_ca (goodIn_r _ [9, 1, 2, 3, 10, 19, 20, 21, 22, 23, 24, 25, 26, 27, 28, 29, 30, 31, 32] (by decide +kernel) (by decide +kernel)) (goodIn_sub (fun _ h => List.mem_cons_of_mem _ (List.mem_append_right _ h)) (by decide +kernel))
set_option maxRecDepth 20000 in
theorem gX4_price_X4_refuseOtherThanArc : GoodIn wsX4_price (wsV RX4 80 RX4 yX4_refuseOtherThanArc wsX4_refuseOtherThanArc) := goodIn_app (goodIn_of _ (by decide +kernel)) ggX4_price_X4_refuseOtherThanArc
set_option maxRecDepth 20000 in
theorem ggX4_price_X2_unitPrice : GoodIn wsX4_price wsX2_unitPrice := goodIn_r _ [15, 16, 17, 18, 26, 27, 28, 29, 30, 31, 32] (by decide +kernel) (by decide +kernel)
set_option maxRecDepth 20000 in
theorem gX4_price_X2_unitPrice : GoodIn wsX4_price (wsV RX4 104 RX2 yX2_unitPrice wsX2_unitPrice) := goodIn_app (goodIn_of _ (by decide +kernel)) ggX4_price_X2_unitPrice
theorem dX4_price_0 : decode cX4_price 0 = .ok (.aload_n 0, 1) := by decide +kernel
theorem dX4_price_1 : decode cX4_price 1 = .ok (.iload_n 1, 1) := by decide +kernel
theorem dX4_price_2 : decode cX4_price 2 = .ok (.invokevirtual 80, 3) := by decide +kernel
theorem dX4_price_5 : decode cX4_price 5 = .ok (.iload_n 2, 1) := by decide +kernel
theorem dX4_price_6 : decode cX4_price 6 = .ok (.iconst 1, 1) := by decide +kernel
theorem dX4_price_7 : decode cX4_price 7 = .ok (.if_icmp .lt 16, 3) := by decide +kernel
theorem dX4_price_10 : decode cX4_price 10 = .ok (.iload_n 2, 1) := by decide +kernel
theorem dX4_price_11 : decode cX4_price 11 = .ok (.aload_n 0, 1) := by decide +kernel
theorem dX4_price_12 : decode cX4_price 12 = .ok (.getfield 33, 3) := by decide +kernel
theorem dX4_price_15 : decode cX4_price 15 = .ok (.getfield 95, 3) := by decide +kernel
theorem dX4_price_18 : decode cX4_price 18 = .ok (.iload_n 1, 1) := by decide +kernel
theorem dX4_price_19 : decode cX4_price 19 = .ok (.iaload, 1) := by decide +kernel
theorem dX4_price_20 : decode cX4_price 20 = .ok (.if_icmp .le 11, 3) := by decide +kernel
theorem dX4_price_23 : decode cX4_price 23 = .ok (.new 101, 3) := by decide +kernel
theorem dX4_price_26 : decode cX4_price 26 = .ok (.dup, 1) := by decide +kernel
theorem dX4_price_27 : decode cX4_price 27 = .ok (.invokespecial 103, 3) := by decide +kernel
theorem dX4_price_30 : decode cX4_price 30 = .ok (.athrow, 1) := by decide +kernel
theorem dX4_price_31 : decode cX4_price 31 = .ok (.aload_n 0, 1) := by decide +kernel
theorem dX4_price_32 : decode cX4_price 32 = .ok (.getfield 33, 3) := by decide +kernel
theorem dX4_price_35 : decode cX4_price 35 = .ok (.iload_n 1, 1) := by decide +kernel
theorem dX4_price_36 : decode cX4_price 36 = .ok (.iload_n 2, 1) := by decide +kernel
theorem dX4_price_37 : decode cX4_price 37 = .ok (.invokevirtual 104, 3) := by decide +kernel
theorem dX4_price_40 : decode cX4_price 40 = .ok (.ireturn, 1) := by decide +kernel
set_option maxRecDepth 20000 in
theorem ggX4_most_X0_greatestAmount : GoodIn wsX4_most wsX0_greatestAmount := goodIn_r _ [8, 9, 10, 11, 7, 12, 13, 14, 15, 16, 17, 18, 19, 20, 21, 22, 23, 24, 25, 26, 27, 28, 29, 30, 31, 32, 33, 34, 35, 36, 37, 38, 39, 40, 41, 42, 43, 44, 45, 46, 47, 48, 49, 50, 51, 52, 53, 54, 55, 56, 57, 58, 59, 60, 61, 62, 63, 64, 65, 66, 67, 68, 69, 70, 71, 72, 73, 81, 82, 83, 84, 85, 86, 87, 88, 89, 90, 91, 92, 93] (by decide +kernel) (by decide +kernel)
set_option maxRecDepth 20000 in
theorem gX4_most_X0_greatestAmount : GoodIn wsX4_most (wsV RX4 107 RX0 yX0_greatestAmount wsX0_greatestAmount) := goodIn_app (goodIn_of _ (by decide +kernel)) ggX4_most_X0_greatestAmount
theorem dX4_most_0 : decode cX4_most 0 = .ok (.aload_n 0, 1) := by decide +kernel
theorem dX4_most_1 : decode cX4_most 1 = .ok (.getfield 42, 3) := by decide +kernel
theorem dX4_most_4 : decode cX4_most 4 = .ok (.aload_n 0, 1) := by decide +kernel
theorem dX4_most_5 : decode cX4_most 5 = .ok (.getfield 9, 3) := by decide +kernel
theorem dX4_most_8 : decode cX4_most 8 = .ok (.aload_n 0, 1) := by decide +kernel
theorem dX4_most_9 : decode cX4_most 9 = .ok (.getfield 13, 3) := by decide +kernel
theorem dX4_most_12 : decode cX4_most 12 = .ok (.invokevirtual 107, 3) := by decide +kernel
theorem dX4_most_15 : decode cX4_most 15 = .ok (.ireturn, 1) := by decide +kernel
set_option maxRecDepth 20000 in
theorem ggX4_cost_X0_meet : GoodIn wsX4_cost wsX0_meet := goodIn_r _ [9, 10, 11, 12, 8, 13, 14, 15, 16, 17, 18, 19, 20, 21, 22, 23, 24, 25, 26, 27, 28, 29, 30, 31, 32, 33, 34, 35, 36, 37, 38, 39, 40, 41, 42, 43, 44, 45, 46, 47, 48, 49, 50, 51, 52, 53, 54, 55, 56, 57, 58, 59, 60, 61, 62, 63, 64, 65, 66, 67, 68, 69, 70, 71, 72, 73, 74, 75, 76, 77, 78, 79, 80, 81, 82, 83, 84, 85, 86, 98, 99, 100, 101, 102, 103, 104, 105, 106, 107, 108, 109, 110] (by decide +kernel) (by decide +kernel)
set_option maxRecDepth 20000 in
theorem gX4_cost_X0_meet : GoodIn wsX4_cost (wsV RX4 110 RX0 yX0_meet wsX0_meet) := goodIn_app (goodIn_of _ (by decide +kernel)) ggX4_cost_X0_meet
set_option maxRecDepth 20000 in
theorem ggX4_cost_X0_totalPrice : GoodIn wsX4_cost wsX0_totalPrice := goodIn_r _ [90, 14, 15, 16, 68, 69, 70, 35, 71, 72, 73, 74, 98, 99, 100, 101, 102, 103, 104, 105, 106, 107, 108, 109, 110] (by decide +kernel) (by decide +kernel)
set_option maxRecDepth 20000 in
theorem gX4_cost_X0_totalPrice : GoodIn wsX4_cost (wsV RX4 114 RX0 yX0_totalPrice wsX0_totalPrice) := goodIn_app (goodIn_of _ (by decide +kernel)) ggX4_cost_X0_totalPrice
theorem dX4_cost_0 : decode cX4_cost 0 = .ok (.aload_n 0, 1) := by decide +kernel
theorem dX4_cost_1 : decode cX4_cost 1 = .ok (.getfield 42, 3) := by decide +kernel
theorem dX4_cost_4 : decode cX4_cost 4 = .ok (.aload_n 0, 1) := by decide +kernel
theorem dX4_cost_5 : decode cX4_cost 5 = .ok (.getfield 9, 3) := by decide +kernel
theorem dX4_cost_8 : decode cX4_cost 8 = .ok (.aload_n 0, 1) := by decide +kernel
theorem dX4_cost_9 : decode cX4_cost 9 = .ok (.getfield 13, 3) := by decide +kernel
theorem dX4_cost_12 : decode cX4_cost 12 = .ok (.aload_n 0, 1) := by decide +kernel
theorem dX4_cost_13 : decode cX4_cost 13 = .ok (.getfield 16, 3) := by decide +kernel
theorem dX4_cost_16 : decode cX4_cost 16 = .ok (.invokevirtual 110, 3) := by decide +kernel
theorem dX4_cost_19 : decode cX4_cost 19 = .ok (.ifCond .ne 5, 3) := by decide +kernel
theorem dX4_cost_22 : decode cX4_cost 22 = .ok (.iconst (-1), 1) := by decide +kernel
theorem dX4_cost_23 : decode cX4_cost 23 = .ok (.ireturn, 1) := by decide +kernel
theorem dX4_cost_24 : decode cX4_cost 24 = .ok (.aload_n 0, 1) := by decide +kernel
theorem dX4_cost_25 : decode cX4_cost 25 = .ok (.getfield 42, 3) := by decide +kernel
theorem dX4_cost_28 : decode cX4_cost 28 = .ok (.invokevirtual 114, 3) := by decide +kernel
theorem dX4_cost_31 : decode cX4_cost 31 = .ok (.ireturn, 1) := by decide +kernel
set_option maxRecDepth 20000 in
theorem ggX4_costByCircles_X3_leastPrice : GoodIn wsX4_costByCircles wsX3_leastPrice := goodIn_r _ [9, 10, 11, 12, 13, 8, 14, 15, 16, 17, 18, 19, 20, 21, 22, 23, 24, 25, 26, 27, 28, 29, 30, 31, 32, 33, 34, 35, 36, 37, 38, 39, 40, 41, 42, 43, 44, 45, 46, 47, 48, 49, 50, 51, 52, 53, 54, 55, 63, 64, 65, 66, 67, 68, 69, 70, 71, 72, 73] (by decide +kernel) (by decide +kernel)
set_option maxRecDepth 20000 in
theorem gX4_costByCircles_X3_leastPrice : GoodIn wsX4_costByCircles (wsV RX4 118 RX3 yX3_leastPrice wsX3_leastPrice) := goodIn_app (goodIn_of _ (by decide +kernel)) ggX4_costByCircles_X3_leastPrice
theorem dX4_costByCircles_0 : decode cX4_costByCircles 0 = .ok (.aload_n 0, 1) := by decide +kernel
theorem dX4_costByCircles_1 : decode cX4_costByCircles 1 = .ok (.getfield 49, 3) := by decide +kernel
theorem dX4_costByCircles_4 : decode cX4_costByCircles 4 = .ok (.aload_n 0, 1) := by decide +kernel
theorem dX4_costByCircles_5 : decode cX4_costByCircles 5 = .ok (.getfield 9, 3) := by decide +kernel
theorem dX4_costByCircles_8 : decode cX4_costByCircles 8 = .ok (.aload_n 0, 1) := by decide +kernel
theorem dX4_costByCircles_9 : decode cX4_costByCircles 9 = .ok (.getfield 13, 3) := by decide +kernel
theorem dX4_costByCircles_12 : decode cX4_costByCircles 12 = .ok (.aload_n 0, 1) := by decide +kernel
theorem dX4_costByCircles_13 : decode cX4_costByCircles 13 = .ok (.getfield 16, 3) := by decide +kernel
theorem dX4_costByCircles_16 : decode cX4_costByCircles 16 = .ok (.invokevirtual 118, 3) := by decide +kernel
theorem dX4_costByCircles_19 : decode cX4_costByCircles 19 = .ok (.ireturn, 1) := by decide +kernel
set_option maxRecDepth 20000 in
theorem ggX4_more_X4_refuseOtherThanNode : GoodIn wsX4_more wsX4_refuseOtherThanNode := goodIn_ca (goodIn_r _ [9, 10, 11, 12, 13, 100, 101, 102, 103, 104, 105, 106, 107, 108, 109, 110, 111, 112, 113] (by decide +kernel) (by decide +kernel)) (goodIn_sub (fun _ h => List.mem_cons_of_mem _ (List.mem_append_right _ h)) (by decide +kernel))
set_option maxRecDepth 20000 in
theorem gX4_more_X4_refuseOtherThanNode : GoodIn wsX4_more (wsV RX4 60 RX4 yX4_refuseOtherThanNode wsX4_refuseOtherThanNode) := goodIn_app (goodIn_of _ (by decide +kernel)) ggX4_more_X4_refuseOtherThanNode
set_option maxRecDepth 20000 in
theorem ggX4_more_X0_meet : GoodIn wsX4_more wsX0_meet := goodIn_r _ [18, 19, 20, 21, 17, 22, 23, 24, 25, 26, 27, 28, 29, 30, 31, 32, 33, 34, 35, 36, 37, 38, 39, 40, 41, 42, 43, 44, 45, 46, 47, 48, 49, 50, 51, 52, 53, 54, 55, 56, 57, 58, 59, 60, 61, 62, 63, 64, 65, 66, 67, 68, 69, 70, 71, 72, 73, 74, 75, 76, 77, 78, 79, 80, 81, 82, 83, 84, 85, 86, 87, 88, 89, 90, 91, 92, 93, 94, 95, 114, 115, 116, 117, 118, 119, 107, 108, 109, 110, 111, 112, 113] (by decide +kernel) (by decide +kernel)
set_option maxRecDepth 20000 in
theorem gX4_more_X0_meet : GoodIn wsX4_more (wsV RX4 110 RX0 yX0_meet wsX0_meet) := goodIn_app (goodIn_of _ (by decide +kernel)) ggX4_more_X0_meet
set_option maxRecDepth 20000 in
theorem ggX4_more_X0_priceOfUnitMore : GoodIn wsX4_more wsX0_priceOfUnitMore := goodIn_r _ [99, 34, 35, 29, 30, 31, 17, 32, 23, 33, 36, 37, 38, 39, 40, 41, 42, 43, 44, 45, 46, 47, 48, 49, 50, 51, 52, 53, 54, 55, 56, 57, 58, 59, 60, 61, 62, 63, 64, 65, 66, 67, 68, 69, 70, 27, 25, 26, 71, 72, 73, 74, 75, 76, 77, 78, 79, 80, 81, 82, 83, 114, 115, 116, 117, 118, 119, 107, 108, 109, 110, 111, 112, 113] (by decide +kernel) (by decide +kernel)
set_option maxRecDepth 20000 in
theorem gX4_more_X0_priceOfUnitMore : GoodIn wsX4_more (wsV RX4 122 RX0 yX0_priceOfUnitMore wsX0_priceOfUnitMore) := goodIn_app (goodIn_of _ (by decide +kernel)) ggX4_more_X0_priceOfUnitMore
theorem dX4_more_0 : decode cX4_more 0 = .ok (.aload_n 0, 1) := by decide +kernel
theorem dX4_more_1 : decode cX4_more 1 = .ok (.iload_n 1, 1) := by decide +kernel
theorem dX4_more_2 : decode cX4_more 2 = .ok (.invokevirtual 60, 3) := by decide +kernel
theorem dX4_more_5 : decode cX4_more 5 = .ok (.aload_n 0, 1) := by decide +kernel
theorem dX4_more_6 : decode cX4_more 6 = .ok (.getfield 42, 3) := by decide +kernel
theorem dX4_more_9 : decode cX4_more 9 = .ok (.aload_n 0, 1) := by decide +kernel
theorem dX4_more_10 : decode cX4_more 10 = .ok (.getfield 9, 3) := by decide +kernel
theorem dX4_more_13 : decode cX4_more 13 = .ok (.aload_n 0, 1) := by decide +kernel
theorem dX4_more_14 : decode cX4_more 14 = .ok (.getfield 13, 3) := by decide +kernel
theorem dX4_more_17 : decode cX4_more 17 = .ok (.aload_n 0, 1) := by decide +kernel
theorem dX4_more_18 : decode cX4_more 18 = .ok (.getfield 16, 3) := by decide +kernel
theorem dX4_more_21 : decode cX4_more 21 = .ok (.invokevirtual 110, 3) := by decide +kernel
theorem dX4_more_24 : decode cX4_more 24 = .ok (.ifCond .ne 5, 3) := by decide +kernel
theorem dX4_more_27 : decode cX4_more 27 = .ok (.iconst (-1), 1) := by decide +kernel
theorem dX4_more_28 : decode cX4_more 28 = .ok (.ireturn, 1) := by decide +kernel
theorem dX4_more_29 : decode cX4_more 29 = .ok (.aload_n 0, 1) := by decide +kernel
theorem dX4_more_30 : decode cX4_more 30 = .ok (.getfield 42, 3) := by decide +kernel
theorem dX4_more_33 : decode cX4_more 33 = .ok (.aload_n 0, 1) := by decide +kernel
theorem dX4_more_34 : decode cX4_more 34 = .ok (.getfield 9, 3) := by decide +kernel
theorem dX4_more_37 : decode cX4_more 37 = .ok (.iload_n 1, 1) := by decide +kernel
theorem dX4_more_38 : decode cX4_more 38 = .ok (.invokevirtual 122, 3) := by decide +kernel
theorem dX4_more_41 : decode cX4_more 41 = .ok (.ireturn, 1) := by decide +kernel
set_option maxRecDepth 20000 in
theorem ggX4_flow_X4_refuseOtherThanArc : GoodIn wsX4_flow wsX4_refuseOtherThanArc := goodIn_ca (goodIn_r _ [9, 10, 11, 12, 13, 126, 127, 128, 129, 130, 131, 132, 133, 134, 135, 136, 137, 138, 139] (by decide +kernel) (by decide +kernel)) (goodIn_sub (fun _ h => List.mem_cons_of_mem _ (List.mem_append_right _ h)) (by decide +kernel))
set_option maxRecDepth 20000 in
theorem gX4_flow_X4_refuseOtherThanArc : GoodIn wsX4_flow (wsV RX4 80 RX4 yX4_refuseOtherThanArc wsX4_refuseOtherThanArc) := goodIn_app (goodIn_of _ (by decide +kernel)) ggX4_flow_X4_refuseOtherThanArc
set_option maxRecDepth 20000 in
theorem ggX4_flow_X0_meet : GoodIn wsX4_flow wsX0_meet := goodIn_r _ [18, 19, 20, 21, 17, 22, 23, 24, 25, 26, 27, 28, 29, 30, 31, 32, 33, 34, 35, 36, 37, 38, 39, 40, 41, 42, 43, 44, 45, 46, 47, 48, 49, 50, 51, 52, 53, 54, 55, 56, 57, 58, 59, 60, 61, 62, 63, 64, 65, 66, 67, 68, 69, 70, 71, 72, 73, 74, 75, 76, 77, 78, 79, 80, 81, 82, 83, 84, 85, 86, 87, 88, 89, 90, 91, 92, 93, 94, 95, 140, 141, 142, 143, 144, 145, 133, 134, 135, 136, 137, 138, 139] (by decide +kernel) (by decide +kernel)
set_option maxRecDepth 20000 in
theorem gX4_flow_X0_meet : GoodIn wsX4_flow (wsV RX4 110 RX0 yX0_meet wsX0_meet) := goodIn_app (goodIn_of _ (by decide +kernel)) ggX4_flow_X0_meet
set_option maxRecDepth 20000 in
theorem ggX4_flow_X0_keepToCheapest : GoodIn wsX4_flow wsX0_keepToCheapest := goodIn_r _ [99, 23, 24, 34, 100, 101, 26, 27, 28, 102, 103, 104, 17, 105, 33, 36, 37, 38, 39, 40, 41, 42, 43, 44, 45, 46, 47, 48, 49, 50, 35, 51, 52, 53, 54, 55, 56, 57, 58, 59, 60, 61, 62, 63, 64, 65, 66, 67, 68, 69, 70, 25, 71, 72, 73, 74, 75, 76, 77, 78, 79, 80, 81, 82, 83, 140, 141, 142, 143, 144, 145, 133, 134, 135, 136, 137, 138, 139] (by decide +kernel) (by decide +kernel)
set_option maxRecDepth 20000 in
theorem gX4_flow_X0_keepToCheapest : GoodIn wsX4_flow (wsV RX4 125 RX0 yX0_keepToCheapest wsX0_keepToCheapest) := goodIn_app (goodIn_of _ (by decide +kernel)) ggX4_flow_X0_keepToCheapest
set_option maxRecDepth 20000 in
theorem ggX4_flow_X0_lower : GoodIn wsX4_flow wsX0_lower := goodIn_r _ [109, 25, 26, 23, 101, 100, 110, 111, 112, 17, 113, 27, 114, 115, 116, 117, 118, 119, 120, 121, 33, 36, 41, 42, 43, 44, 45, 46, 122, 123, 124, 125, 51, 52, 53, 54, 55, 56, 57, 58, 59, 60, 61, 62, 63, 64, 65, 66, 67, 68, 69, 70, 71, 72, 84, 85, 86, 87, 88, 89, 90, 91, 92, 93, 94, 95, 35, 140, 141, 142, 143, 144, 145, 133, 134, 135, 136, 137, 138, 139] (by decide +kernel) (by decide +kernel)
set_option maxRecDepth 20000 in
theorem gX4_flow_X0_lower : GoodIn wsX4_flow (wsV RX4 128 RX0 yX0_lower wsX0_lower) := goodIn_app (goodIn_of _ (by decide +kernel)) ggX4_flow_X0_lower
theorem dX4_flow_0 : decode cX4_flow 0 = .ok (.aload_n 0, 1) := by decide +kernel
theorem dX4_flow_1 : decode cX4_flow 1 = .ok (.iload_n 1, 1) := by decide +kernel
theorem dX4_flow_2 : decode cX4_flow 2 = .ok (.invokevirtual 80, 3) := by decide +kernel
theorem dX4_flow_5 : decode cX4_flow 5 = .ok (.aload_n 0, 1) := by decide +kernel
theorem dX4_flow_6 : decode cX4_flow 6 = .ok (.getfield 42, 3) := by decide +kernel
theorem dX4_flow_9 : decode cX4_flow 9 = .ok (.aload_n 0, 1) := by decide +kernel
theorem dX4_flow_10 : decode cX4_flow 10 = .ok (.getfield 9, 3) := by decide +kernel
theorem dX4_flow_13 : decode cX4_flow 13 = .ok (.aload_n 0, 1) := by decide +kernel
theorem dX4_flow_14 : decode cX4_flow 14 = .ok (.getfield 13, 3) := by decide +kernel
theorem dX4_flow_17 : decode cX4_flow 17 = .ok (.aload_n 0, 1) := by decide +kernel
theorem dX4_flow_18 : decode cX4_flow 18 = .ok (.getfield 16, 3) := by decide +kernel
theorem dX4_flow_21 : decode cX4_flow 21 = .ok (.invokevirtual 110, 3) := by decide +kernel
theorem dX4_flow_24 : decode cX4_flow 24 = .ok (.ifCond .ne 5, 3) := by decide +kernel
theorem dX4_flow_27 : decode cX4_flow 27 = .ok (.iconst (-1), 1) := by decide +kernel
theorem dX4_flow_28 : decode cX4_flow 28 = .ok (.ireturn, 1) := by decide +kernel
theorem dX4_flow_29 : decode cX4_flow 29 = .ok (.aload_n 0, 1) := by decide +kernel
theorem dX4_flow_30 : decode cX4_flow 30 = .ok (.getfield 42, 3) := by decide +kernel
theorem dX4_flow_33 : decode cX4_flow 33 = .ok (.invokevirtual 125, 3) := by decide +kernel
theorem dX4_flow_36 : decode cX4_flow 36 = .ok (.iconst 0, 1) := by decide +kernel
theorem dX4_flow_37 : decode cX4_flow 37 = .ok (.istore_n 2, 1) := by decide +kernel
theorem dX4_flow_38 : decode cX4_flow 38 = .ok (.iload_n 2, 1) := by decide +kernel
theorem dX4_flow_39 : decode cX4_flow 39 = .ok (.iload_n 1, 1) := by decide +kernel
theorem dX4_flow_40 : decode cX4_flow 40 = .ok (.if_icmp .ge 18, 3) := by decide +kernel
theorem dX4_flow_43 : decode cX4_flow 43 = .ok (.aload_n 0, 1) := by decide +kernel
theorem dX4_flow_44 : decode cX4_flow 44 = .ok (.getfield 42, 3) := by decide +kernel
theorem dX4_flow_47 : decode cX4_flow 47 = .ok (.iload_n 2, 1) := by decide +kernel
theorem dX4_flow_48 : decode cX4_flow 48 = .ok (.invokevirtual 128, 3) := by decide +kernel
theorem dX4_flow_51 : decode cX4_flow 51 = .ok (.pop, 1) := by decide +kernel
theorem dX4_flow_52 : decode cX4_flow 52 = .ok (.iinc 2 1, 3) := by decide +kernel
theorem dX4_flow_55 : decode cX4_flow 55 = .ok (.goto (-17), 3) := by decide +kernel
theorem dX4_flow_58 : decode cX4_flow 58 = .ok (.aload_n 0, 1) := by decide +kernel
theorem dX4_flow_59 : decode cX4_flow 59 = .ok (.getfield 42, 3) := by decide +kernel
theorem dX4_flow_62 : decode cX4_flow 62 = .ok (.iload_n 1, 1) := by decide +kernel
theorem dX4_flow_63 : decode cX4_flow 63 = .ok (.invokevirtual 128, 3) := by decide +kernel
theorem dX4_flow_66 : decode cX4_flow 66 = .ok (.ireturn, 1) := by decide +kernel
set_option maxRecDepth 20000 in
theorem ggX4_leastOn_X4_refuseOtherThanArc : GoodIn wsX4_leastOn wsX4_refuseOtherThanArc := goodIn_ca (goodIn_r _ [9, 10, 11, 12, 13, 126, 127, 128, 129, 130, 131, 132, 133, 134, 135, 136, 137, 138, 139] (by decide +kernel) (by decide +kernel)) (goodIn_sub (fun _ h => List.mem_cons_of_mem _ (List.mem_append_right _ h)) (by decide +kernel))
set_option maxRecDepth 20000 in
theorem gX4_leastOn_X4_refuseOtherThanArc : GoodIn wsX4_leastOn (wsV RX4 80 RX4 yX4_refuseOtherThanArc wsX4_refuseOtherThanArc) := goodIn_app (goodIn_of _ (by decide +kernel)) ggX4_leastOn_X4_refuseOtherThanArc
set_option maxRecDepth 20000 in
theorem ggX4_leastOn_X0_meet : GoodIn wsX4_leastOn wsX0_meet := goodIn_r _ [18, 19, 20, 21, 17, 22, 23, 24, 25, 26, 27, 28, 29, 30, 31, 32, 33, 34, 35, 36, 37, 38, 39, 40, 41, 42, 43, 44, 45, 46, 47, 48, 49, 50, 51, 52, 53, 54, 55, 56, 57, 58, 59, 60, 61, 62, 63, 64, 65, 66, 67, 68, 69, 70, 71, 72, 73, 74, 75, 76, 77, 78, 79, 80, 81, 82, 83, 84, 85, 86, 87, 88, 89, 90, 91, 92, 93, 94, 95, 140, 141, 142, 143, 144, 145, 133, 134, 135, 136, 137, 138, 139] (by decide +kernel) (by decide +kernel)
set_option maxRecDepth 20000 in
theorem gX4_leastOn_X0_meet : GoodIn wsX4_leastOn (wsV RX4 110 RX0 yX0_meet wsX0_meet) := goodIn_app (goodIn_of _ (by decide +kernel)) ggX4_leastOn_X0_meet
set_option maxRecDepth 20000 in
theorem ggX4_leastOn_X0_keepToCheapest : GoodIn wsX4_leastOn wsX0_keepToCheapest := goodIn_r _ [99, 23, 24, 34, 100, 101, 26, 27, 28, 102, 103, 104, 17, 105, 33, 36, 37, 38, 39, 40, 41, 42, 43, 44, 45, 46, 47, 48, 49, 50, 35, 51, 52, 53, 54, 55, 56, 57, 58, 59, 60, 61, 62, 63, 64, 65, 66, 67, 68, 69, 70, 25, 71, 72, 73, 74, 75, 76, 77, 78, 79, 80, 81, 82, 83, 140, 141, 142, 143, 144, 145, 133, 134, 135, 136, 137, 138, 139] (by decide +kernel) (by decide +kernel)
set_option maxRecDepth 20000 in
theorem gX4_leastOn_X0_keepToCheapest : GoodIn wsX4_leastOn (wsV RX4 125 RX0 yX0_keepToCheapest wsX0_keepToCheapest) := goodIn_app (goodIn_of _ (by decide +kernel)) ggX4_leastOn_X0_keepToCheapest
set_option maxRecDepth 20000 in
theorem ggX4_leastOn_X0_lower : GoodIn wsX4_leastOn wsX0_lower := goodIn_r _ [109, 25, 26, 23, 101, 100, 110, 111, 112, 17, 113, 27, 114, 115, 116, 117, 118, 119, 120, 121, 33, 36, 41, 42, 43, 44, 45, 46, 122, 123, 124, 125, 51, 52, 53, 54, 55, 56, 57, 58, 59, 60, 61, 62, 63, 64, 65, 66, 67, 68, 69, 70, 71, 72, 84, 85, 86, 87, 88, 89, 90, 91, 92, 93, 94, 95, 35, 140, 141, 142, 143, 144, 145, 133, 134, 135, 136, 137, 138, 139] (by decide +kernel) (by decide +kernel)
set_option maxRecDepth 20000 in
theorem gX4_leastOn_X0_lower : GoodIn wsX4_leastOn (wsV RX4 128 RX0 yX0_lower wsX0_lower) := goodIn_app (goodIn_of _ (by decide +kernel)) ggX4_leastOn_X0_lower
theorem dX4_leastOn_0 : decode cX4_leastOn 0 = .ok (.aload_n 0, 1) := by decide +kernel
theorem dX4_leastOn_1 : decode cX4_leastOn 1 = .ok (.iload_n 1, 1) := by decide +kernel
theorem dX4_leastOn_2 : decode cX4_leastOn 2 = .ok (.invokevirtual 80, 3) := by decide +kernel
theorem dX4_leastOn_5 : decode cX4_leastOn 5 = .ok (.aload_n 0, 1) := by decide +kernel
theorem dX4_leastOn_6 : decode cX4_leastOn 6 = .ok (.getfield 42, 3) := by decide +kernel
theorem dX4_leastOn_9 : decode cX4_leastOn 9 = .ok (.aload_n 0, 1) := by decide +kernel
theorem dX4_leastOn_10 : decode cX4_leastOn 10 = .ok (.getfield 9, 3) := by decide +kernel
theorem dX4_leastOn_13 : decode cX4_leastOn 13 = .ok (.aload_n 0, 1) := by decide +kernel
theorem dX4_leastOn_14 : decode cX4_leastOn 14 = .ok (.getfield 13, 3) := by decide +kernel
theorem dX4_leastOn_17 : decode cX4_leastOn 17 = .ok (.aload_n 0, 1) := by decide +kernel
theorem dX4_leastOn_18 : decode cX4_leastOn 18 = .ok (.getfield 16, 3) := by decide +kernel
theorem dX4_leastOn_21 : decode cX4_leastOn 21 = .ok (.invokevirtual 110, 3) := by decide +kernel
theorem dX4_leastOn_24 : decode cX4_leastOn 24 = .ok (.ifCond .ne 5, 3) := by decide +kernel
theorem dX4_leastOn_27 : decode cX4_leastOn 27 = .ok (.iconst (-1), 1) := by decide +kernel
theorem dX4_leastOn_28 : decode cX4_leastOn 28 = .ok (.ireturn, 1) := by decide +kernel
theorem dX4_leastOn_29 : decode cX4_leastOn 29 = .ok (.aload_n 0, 1) := by decide +kernel
theorem dX4_leastOn_30 : decode cX4_leastOn 30 = .ok (.getfield 42, 3) := by decide +kernel
theorem dX4_leastOn_33 : decode cX4_leastOn 33 = .ok (.invokevirtual 125, 3) := by decide +kernel
theorem dX4_leastOn_36 : decode cX4_leastOn 36 = .ok (.aload_n 0, 1) := by decide +kernel
theorem dX4_leastOn_37 : decode cX4_leastOn 37 = .ok (.getfield 42, 3) := by decide +kernel
theorem dX4_leastOn_40 : decode cX4_leastOn 40 = .ok (.iload_n 1, 1) := by decide +kernel
theorem dX4_leastOn_41 : decode cX4_leastOn 41 = .ok (.invokevirtual 128, 3) := by decide +kernel
theorem dX4_leastOn_44 : decode cX4_leastOn 44 = .ok (.ireturn, 1) := by decide +kernel
set_option maxRecDepth 20000 in
theorem ggX4_mostOn_X4_refuseOtherThanArc : GoodIn wsX4_mostOn wsX4_refuseOtherThanArc := goodIn_ca (goodIn_r _ [9, 10, 11, 12, 13, 126, 127, 128, 129, 130, 131, 132, 133, 134, 135, 136, 137, 138, 139] (by decide +kernel) (by decide +kernel)) (goodIn_sub (fun _ h => List.mem_cons_of_mem _ (List.mem_append_right _ h)) (by decide +kernel))
set_option maxRecDepth 20000 in
theorem gX4_mostOn_X4_refuseOtherThanArc : GoodIn wsX4_mostOn (wsV RX4 80 RX4 yX4_refuseOtherThanArc wsX4_refuseOtherThanArc) := goodIn_app (goodIn_of _ (by decide +kernel)) ggX4_mostOn_X4_refuseOtherThanArc
set_option maxRecDepth 20000 in
theorem ggX4_mostOn_X0_meet : GoodIn wsX4_mostOn wsX0_meet := goodIn_r _ [18, 19, 20, 21, 17, 22, 23, 24, 25, 26, 27, 28, 29, 30, 31, 32, 33, 34, 35, 36, 37, 38, 39, 40, 41, 42, 43, 44, 45, 46, 47, 48, 49, 50, 51, 52, 53, 54, 55, 56, 57, 58, 59, 60, 61, 62, 63, 64, 65, 66, 67, 68, 69, 70, 71, 72, 73, 74, 75, 76, 77, 78, 79, 80, 81, 82, 83, 84, 85, 86, 87, 88, 89, 90, 91, 92, 93, 94, 95, 140, 141, 142, 143, 144, 145, 133, 134, 135, 136, 137, 138, 139] (by decide +kernel) (by decide +kernel)
set_option maxRecDepth 20000 in
theorem gX4_mostOn_X0_meet : GoodIn wsX4_mostOn (wsV RX4 110 RX0 yX0_meet wsX0_meet) := goodIn_app (goodIn_of _ (by decide +kernel)) ggX4_mostOn_X0_meet
set_option maxRecDepth 20000 in
theorem ggX4_mostOn_X0_keepToCheapest : GoodIn wsX4_mostOn wsX0_keepToCheapest := goodIn_r _ [99, 23, 24, 34, 100, 101, 26, 27, 28, 102, 103, 104, 17, 105, 33, 36, 37, 38, 39, 40, 41, 42, 43, 44, 45, 46, 47, 48, 49, 50, 35, 51, 52, 53, 54, 55, 56, 57, 58, 59, 60, 61, 62, 63, 64, 65, 66, 67, 68, 69, 70, 25, 71, 72, 73, 74, 75, 76, 77, 78, 79, 80, 81, 82, 83, 140, 141, 142, 143, 144, 145, 133, 134, 135, 136, 137, 138, 139] (by decide +kernel) (by decide +kernel)
set_option maxRecDepth 20000 in
theorem gX4_mostOn_X0_keepToCheapest : GoodIn wsX4_mostOn (wsV RX4 125 RX0 yX0_keepToCheapest wsX0_keepToCheapest) := goodIn_app (goodIn_of _ (by decide +kernel)) ggX4_mostOn_X0_keepToCheapest
set_option maxRecDepth 20000 in
theorem ggX4_mostOn_X0_raise : GoodIn wsX4_mostOn wsX0_raise := goodIn_r _ [109, 27, 25, 23, 100, 101, 110, 111, 112, 17, 113, 26, 114, 115, 116, 117, 118, 119, 120, 121, 33, 36, 41, 42, 43, 44, 45, 46, 122, 123, 124, 125, 51, 52, 53, 54, 55, 56, 57, 58, 59, 60, 61, 62, 63, 64, 65, 66, 67, 68, 69, 70, 71, 72, 84, 85, 86, 87, 88, 89, 90, 91, 92, 93, 94, 95, 35, 140, 141, 142, 143, 144, 145, 133, 134, 135, 136, 137, 138, 139] (by decide +kernel) (by decide +kernel)
set_option maxRecDepth 20000 in
theorem gX4_mostOn_X0_raise : GoodIn wsX4_mostOn (wsV RX4 131 RX0 yX0_raise wsX0_raise) := goodIn_app (goodIn_of _ (by decide +kernel)) ggX4_mostOn_X0_raise
theorem dX4_mostOn_0 : decode cX4_mostOn 0 = .ok (.aload_n 0, 1) := by decide +kernel
theorem dX4_mostOn_1 : decode cX4_mostOn 1 = .ok (.iload_n 1, 1) := by decide +kernel
theorem dX4_mostOn_2 : decode cX4_mostOn 2 = .ok (.invokevirtual 80, 3) := by decide +kernel
theorem dX4_mostOn_5 : decode cX4_mostOn 5 = .ok (.aload_n 0, 1) := by decide +kernel
theorem dX4_mostOn_6 : decode cX4_mostOn 6 = .ok (.getfield 42, 3) := by decide +kernel
theorem dX4_mostOn_9 : decode cX4_mostOn 9 = .ok (.aload_n 0, 1) := by decide +kernel
theorem dX4_mostOn_10 : decode cX4_mostOn 10 = .ok (.getfield 9, 3) := by decide +kernel
theorem dX4_mostOn_13 : decode cX4_mostOn 13 = .ok (.aload_n 0, 1) := by decide +kernel
theorem dX4_mostOn_14 : decode cX4_mostOn 14 = .ok (.getfield 13, 3) := by decide +kernel
theorem dX4_mostOn_17 : decode cX4_mostOn 17 = .ok (.aload_n 0, 1) := by decide +kernel
theorem dX4_mostOn_18 : decode cX4_mostOn 18 = .ok (.getfield 16, 3) := by decide +kernel
theorem dX4_mostOn_21 : decode cX4_mostOn 21 = .ok (.invokevirtual 110, 3) := by decide +kernel
theorem dX4_mostOn_24 : decode cX4_mostOn 24 = .ok (.ifCond .ne 5, 3) := by decide +kernel
theorem dX4_mostOn_27 : decode cX4_mostOn 27 = .ok (.iconst (-1), 1) := by decide +kernel
theorem dX4_mostOn_28 : decode cX4_mostOn 28 = .ok (.ireturn, 1) := by decide +kernel
theorem dX4_mostOn_29 : decode cX4_mostOn 29 = .ok (.aload_n 0, 1) := by decide +kernel
theorem dX4_mostOn_30 : decode cX4_mostOn 30 = .ok (.getfield 42, 3) := by decide +kernel
theorem dX4_mostOn_33 : decode cX4_mostOn 33 = .ok (.invokevirtual 125, 3) := by decide +kernel
theorem dX4_mostOn_36 : decode cX4_mostOn 36 = .ok (.aload_n 0, 1) := by decide +kernel
theorem dX4_mostOn_37 : decode cX4_mostOn 37 = .ok (.getfield 42, 3) := by decide +kernel
theorem dX4_mostOn_40 : decode cX4_mostOn 40 = .ok (.iload_n 1, 1) := by decide +kernel
theorem dX4_mostOn_41 : decode cX4_mostOn 41 = .ok (.invokevirtual 131, 3) := by decide +kernel
theorem dX4_mostOn_44 : decode cX4_mostOn 44 = .ok (.ireturn, 1) := by decide +kernel
set_option maxRecDepth 20000 in
theorem ggX4_driven_X1_comeOneByOne : GoodIn wsX4_driven wsX1_comeOneByOne := goodIn_r _ [11, 12, 13, 14, 15, 16, 17, 18, 19, 20, 21, 22, 10, 23, 24, 25, 26, 27, 28, 29, 30, 31, 32, 33, 34, 35, 36, 37, 38, 39, 40, 41, 42, 43, 44, 45, 46, 47, 48, 49, 50, 51, 59, 60, 61, 62, 63, 64, 65, 66, 67, 68, 69, 70, 71] (by decide +kernel) (by decide +kernel)
set_option maxRecDepth 20000 in
theorem gX4_driven_X1_comeOneByOne : GoodIn wsX4_driven (wsV RX4 134 RX1 yX1_comeOneByOne wsX1_comeOneByOne) := goodIn_app (goodIn_of _ (by decide +kernel)) ggX4_driven_X1_comeOneByOne
theorem dX4_driven_0 : decode cX4_driven 0 = .ok (.aload_n 0, 1) := by decide +kernel
theorem dX4_driven_1 : decode cX4_driven 1 = .ok (.getfield 56, 3) := by decide +kernel
theorem dX4_driven_4 : decode cX4_driven 4 = .ok (.aload_n 0, 1) := by decide +kernel
theorem dX4_driven_5 : decode cX4_driven 5 = .ok (.getfield 9, 3) := by decide +kernel
theorem dX4_driven_8 : decode cX4_driven 8 = .ok (.aload_n 0, 1) := by decide +kernel
theorem dX4_driven_9 : decode cX4_driven 9 = .ok (.getfield 13, 3) := by decide +kernel
theorem dX4_driven_12 : decode cX4_driven 12 = .ok (.aload_n 0, 1) := by decide +kernel
theorem dX4_driven_13 : decode cX4_driven 13 = .ok (.getfield 16, 3) := by decide +kernel
theorem dX4_driven_16 : decode cX4_driven 16 = .ok (.invokevirtual 134, 3) := by decide +kernel
theorem dX4_driven_19 : decode cX4_driven 19 = .ok (.aload_n 0, 1) := by decide +kernel
theorem dX4_driven_20 : decode cX4_driven 20 = .ok (.getfield 56, 3) := by decide +kernel
theorem dX4_driven_23 : decode cX4_driven 23 = .ok (.getfield 137, 3) := by decide +kernel
theorem dX4_driven_26 : decode cX4_driven 26 = .ok (.aload_n 0, 1) := by decide +kernel
theorem dX4_driven_27 : decode cX4_driven 27 = .ok (.getfield 16, 3) := by decide +kernel
theorem dX4_driven_30 : decode cX4_driven 30 = .ok (.if_icmp .ge 7, 3) := by decide +kernel
theorem dX4_driven_33 : decode cX4_driven 33 = .ok (.iconst (-1), 1) := by decide +kernel
theorem dX4_driven_34 : decode cX4_driven 34 = .ok (.goto 10, 3) := by decide +kernel
theorem dX4_driven_37 : decode cX4_driven 37 = .ok (.aload_n 0, 1) := by decide +kernel
theorem dX4_driven_38 : decode cX4_driven 38 = .ok (.getfield 56, 3) := by decide +kernel
theorem dX4_driven_41 : decode cX4_driven 41 = .ok (.getfield 140, 3) := by decide +kernel
theorem dX4_driven_44 : decode cX4_driven 44 = .ok (.ireturn, 1) := by decide +kernel
set_option maxRecDepth 20000 in
theorem ggX4_drivenOn_X4_refuseOtherThanArc : GoodIn wsX4_drivenOn wsX4_refuseOtherThanArc := goodIn_ca (goodIn_r _ [10, 11, 12, 13, 14, 60, 61, 62, 63, 64, 65, 66, 73, 74, 75, 76, 77, 78, 79] (by decide +kernel) (by decide +kernel)) (goodIn_sub (fun _ h => List.mem_cons_of_mem _ (List.mem_append_right _ h)) (by decide +kernel))
set_option maxRecDepth 20000 in
theorem gX4_drivenOn_X4_refuseOtherThanArc : GoodIn wsX4_drivenOn (wsV RX4 80 RX4 yX4_refuseOtherThanArc wsX4_refuseOtherThanArc) := goodIn_app (goodIn_of _ (by decide +kernel)) ggX4_drivenOn_X4_refuseOtherThanArc
set_option maxRecDepth 20000 in
theorem ggX4_drivenOn_X1_comeOneByOne : GoodIn wsX4_drivenOn wsX1_comeOneByOne := goodIn_r _ [19, 20, 21, 22, 23, 24, 25, 26, 27, 28, 29, 30, 18, 31, 32, 33, 34, 35, 36, 37, 38, 39, 40, 41, 42, 43, 44, 45, 46, 47, 48, 49, 50, 51, 52, 53, 54, 55, 56, 57, 58, 59, 67, 68, 69, 70, 71, 72, 73, 74, 75, 76, 77, 78, 79] (by decide +kernel) (by decide +kernel)
set_option maxRecDepth 20000 in
theorem gX4_drivenOn_X1_comeOneByOne : GoodIn wsX4_drivenOn (wsV RX4 134 RX1 yX1_comeOneByOne wsX1_comeOneByOne) := goodIn_app (goodIn_of _ (by decide +kernel)) ggX4_drivenOn_X1_comeOneByOne
theorem dX4_drivenOn_0 : decode cX4_drivenOn 0 = .ok (.aload_n 0, 1) := by decide +kernel
theorem dX4_drivenOn_1 : decode cX4_drivenOn 1 = .ok (.iload_n 1, 1) := by decide +kernel
theorem dX4_drivenOn_2 : decode cX4_drivenOn 2 = .ok (.invokevirtual 80, 3) := by decide +kernel
theorem dX4_drivenOn_5 : decode cX4_drivenOn 5 = .ok (.aload_n 0, 1) := by decide +kernel
theorem dX4_drivenOn_6 : decode cX4_drivenOn 6 = .ok (.getfield 56, 3) := by decide +kernel
theorem dX4_drivenOn_9 : decode cX4_drivenOn 9 = .ok (.aload_n 0, 1) := by decide +kernel
theorem dX4_drivenOn_10 : decode cX4_drivenOn 10 = .ok (.getfield 9, 3) := by decide +kernel
theorem dX4_drivenOn_13 : decode cX4_drivenOn 13 = .ok (.aload_n 0, 1) := by decide +kernel
theorem dX4_drivenOn_14 : decode cX4_drivenOn 14 = .ok (.getfield 13, 3) := by decide +kernel
theorem dX4_drivenOn_17 : decode cX4_drivenOn 17 = .ok (.aload_n 0, 1) := by decide +kernel
theorem dX4_drivenOn_18 : decode cX4_drivenOn 18 = .ok (.getfield 16, 3) := by decide +kernel
theorem dX4_drivenOn_21 : decode cX4_drivenOn 21 = .ok (.invokevirtual 134, 3) := by decide +kernel
theorem dX4_drivenOn_24 : decode cX4_drivenOn 24 = .ok (.aload_n 0, 1) := by decide +kernel
theorem dX4_drivenOn_25 : decode cX4_drivenOn 25 = .ok (.getfield 56, 3) := by decide +kernel
theorem dX4_drivenOn_28 : decode cX4_drivenOn 28 = .ok (.getfield 143, 3) := by decide +kernel
theorem dX4_drivenOn_31 : decode cX4_drivenOn 31 = .ok (.iload_n 1, 1) := by decide +kernel
theorem dX4_drivenOn_32 : decode cX4_drivenOn 32 = .ok (.iaload, 1) := by decide +kernel
theorem dX4_drivenOn_33 : decode cX4_drivenOn 33 = .ok (.ireturn, 1) := by decide +kernel
set_option maxRecDepth 20000 in
theorem ggX4_lastPaid_X1_comeOneByOne : GoodIn wsX4_lastPaid wsX1_comeOneByOne := goodIn_r _ [10, 11, 12, 13, 14, 15, 16, 17, 18, 19, 20, 21, 9, 22, 23, 24, 25, 26, 27, 28, 29, 30, 31, 32, 33, 34, 35, 36, 37, 38, 39, 40, 41, 42, 43, 44, 45, 46, 47, 48, 49, 50, 58, 59, 60, 61, 62, 63, 64, 65, 66, 67, 68, 69, 70] (by decide +kernel) (by decide +kernel)
set_option maxRecDepth 20000 in
theorem gX4_lastPaid_X1_comeOneByOne : GoodIn wsX4_lastPaid (wsV RX4 134 RX1 yX1_comeOneByOne wsX1_comeOneByOne) := goodIn_app (goodIn_of _ (by decide +kernel)) ggX4_lastPaid_X1_comeOneByOne
theorem dX4_lastPaid_0 : decode cX4_lastPaid 0 = .ok (.aload_n 0, 1) := by decide +kernel
theorem dX4_lastPaid_1 : decode cX4_lastPaid 1 = .ok (.getfield 56, 3) := by decide +kernel
theorem dX4_lastPaid_4 : decode cX4_lastPaid 4 = .ok (.aload_n 0, 1) := by decide +kernel
theorem dX4_lastPaid_5 : decode cX4_lastPaid 5 = .ok (.getfield 9, 3) := by decide +kernel
theorem dX4_lastPaid_8 : decode cX4_lastPaid 8 = .ok (.aload_n 0, 1) := by decide +kernel
theorem dX4_lastPaid_9 : decode cX4_lastPaid 9 = .ok (.getfield 13, 3) := by decide +kernel
theorem dX4_lastPaid_12 : decode cX4_lastPaid 12 = .ok (.aload_n 0, 1) := by decide +kernel
theorem dX4_lastPaid_13 : decode cX4_lastPaid 13 = .ok (.getfield 16, 3) := by decide +kernel
theorem dX4_lastPaid_16 : decode cX4_lastPaid 16 = .ok (.invokevirtual 134, 3) := by decide +kernel
theorem dX4_lastPaid_19 : decode cX4_lastPaid 19 = .ok (.aload_n 0, 1) := by decide +kernel
theorem dX4_lastPaid_20 : decode cX4_lastPaid 20 = .ok (.getfield 56, 3) := by decide +kernel
theorem dX4_lastPaid_23 : decode cX4_lastPaid 23 = .ok (.getfield 146, 3) := by decide +kernel
theorem dX4_lastPaid_26 : decode cX4_lastPaid 26 = .ok (.ireturn, 1) := by decide +kernel
theorem dX4_refuseOtherThanNode_0 : decode cX4_refuseOtherThanNode 0 = .ok (.iload_n 1, 1) := by decide +kernel
theorem dX4_refuseOtherThanNode_1 : decode cX4_refuseOtherThanNode 1 = .ok (.ifCond .lt 14, 3) := by decide +kernel
theorem dX4_refuseOtherThanNode_4 : decode cX4_refuseOtherThanNode 4 = .ok (.iload_n 1, 1) := by decide +kernel
theorem dX4_refuseOtherThanNode_5 : decode cX4_refuseOtherThanNode 5 = .ok (.aload_n 0, 1) := by decide +kernel
theorem dX4_refuseOtherThanNode_6 : decode cX4_refuseOtherThanNode 6 = .ok (.getfield 33, 3) := by decide +kernel
theorem dX4_refuseOtherThanNode_9 : decode cX4_refuseOtherThanNode 9 = .ok (.getfield 98, 3) := by decide +kernel
theorem dX4_refuseOtherThanNode_12 : decode cX4_refuseOtherThanNode 12 = .ok (.if_icmp .lt 11, 3) := by decide +kernel
theorem dX4_refuseOtherThanNode_15 : decode cX4_refuseOtherThanNode 15 = .ok (.new 101, 3) := by decide +kernel
theorem dX4_refuseOtherThanNode_18 : decode cX4_refuseOtherThanNode 18 = .ok (.dup, 1) := by decide +kernel
theorem dX4_refuseOtherThanNode_19 : decode cX4_refuseOtherThanNode 19 = .ok (.invokespecial 103, 3) := by decide +kernel
theorem dX4_refuseOtherThanNode_22 : decode cX4_refuseOtherThanNode 22 = .ok (.athrow, 1) := by decide +kernel
theorem dX4_refuseOtherThanNode_23 : decode cX4_refuseOtherThanNode 23 = .ok (.return_, 1) := by decide +kernel
theorem dX4_refuseOtherThanArc_0 : decode cX4_refuseOtherThanArc 0 = .ok (.iload_n 1, 1) := by decide +kernel
theorem dX4_refuseOtherThanArc_1 : decode cX4_refuseOtherThanArc 1 = .ok (.ifCond .lt 14, 3) := by decide +kernel
theorem dX4_refuseOtherThanArc_4 : decode cX4_refuseOtherThanArc 4 = .ok (.iload_n 1, 1) := by decide +kernel
theorem dX4_refuseOtherThanArc_5 : decode cX4_refuseOtherThanArc 5 = .ok (.aload_n 0, 1) := by decide +kernel
theorem dX4_refuseOtherThanArc_6 : decode cX4_refuseOtherThanArc 6 = .ok (.getfield 33, 3) := by decide +kernel
theorem dX4_refuseOtherThanArc_9 : decode cX4_refuseOtherThanArc 9 = .ok (.getfield 70, 3) := by decide +kernel
theorem dX4_refuseOtherThanArc_12 : decode cX4_refuseOtherThanArc 12 = .ok (.if_icmp .lt 11, 3) := by decide +kernel
theorem dX4_refuseOtherThanArc_15 : decode cX4_refuseOtherThanArc 15 = .ok (.new 101, 3) := by decide +kernel
theorem dX4_refuseOtherThanArc_18 : decode cX4_refuseOtherThanArc 18 = .ok (.dup, 1) := by decide +kernel
theorem dX4_refuseOtherThanArc_19 : decode cX4_refuseOtherThanArc 19 = .ok (.invokespecial 103, 3) := by decide +kernel
theorem dX4_refuseOtherThanArc_22 : decode cX4_refuseOtherThanArc 22 = .ok (.athrow, 1) := by decide +kernel
theorem dX4_refuseOtherThanArc_23 : decode cX4_refuseOtherThanArc 23 = .ok (.return_, 1) := by decide +kernel
theorem dX4_isNoWidth_0 : decode cX4_isNoWidth 0 = .ok (.iload_n 0, 1) := by decide +kernel
theorem dX4_isNoWidth_1 : decode cX4_isNoWidth 1 = .ok (.iconst 1, 1) := by decide +kernel
theorem dX4_isNoWidth_2 : decode cX4_isNoWidth 2 = .ok (.if_icmp .lt 8, 3) := by decide +kernel
theorem dX4_isNoWidth_5 : decode cX4_isNoWidth 5 = .ok (.iload_n 0, 1) := by decide +kernel
theorem dX4_isNoWidth_6 : decode cX4_isNoWidth 6 = .ok (.iconst 5, 1) := by decide +kernel
theorem dX4_isNoWidth_7 : decode cX4_isNoWidth 7 = .ok (.if_icmp .le 7, 3) := by decide +kernel
theorem dX4_isNoWidth_10 : decode cX4_isNoWidth 10 = .ok (.iconst 1, 1) := by decide +kernel
theorem dX4_isNoWidth_11 : decode cX4_isNoWidth 11 = .ok (.goto 4, 3) := by decide +kernel
theorem dX4_isNoWidth_14 : decode cX4_isNoWidth 14 = .ok (.iconst 0, 1) := by decide +kernel
theorem dX4_isNoWidth_15 : decode cX4_isNoWidth 15 = .ok (.ireturn, 1) := by decide +kernel
theorem dJ9_max_7cf53_0 : decode cJ9_max_7cf53 0 = .ok (.iload_n 0, 1) := by decide +kernel
theorem dJ9_max_7cf53_1 : decode cJ9_max_7cf53 1 = .ok (.iload_n 1, 1) := by decide +kernel
theorem dJ9_max_7cf53_2 : decode cJ9_max_7cf53 2 = .ok (.if_icmp .lt 7, 3) := by decide +kernel
theorem dJ9_max_7cf53_5 : decode cJ9_max_7cf53 5 = .ok (.iload_n 0, 1) := by decide +kernel
theorem dJ9_max_7cf53_6 : decode cJ9_max_7cf53 6 = .ok (.goto 4, 3) := by decide +kernel
theorem dJ9_max_7cf53_9 : decode cJ9_max_7cf53 9 = .ok (.iload_n 1, 1) := by decide +kernel
theorem dJ9_max_7cf53_10 : decode cJ9_max_7cf53 10 = .ok (.ireturn, 1) := by decide +kernel
theorem dJ9_min_7cf53_0 : decode cJ9_min_7cf53 0 = .ok (.iload_n 0, 1) := by decide +kernel
theorem dJ9_min_7cf53_1 : decode cJ9_min_7cf53 1 = .ok (.iload_n 1, 1) := by decide +kernel
theorem dJ9_min_7cf53_2 : decode cJ9_min_7cf53 2 = .ok (.if_icmp .gt 7, 3) := by decide +kernel
theorem dJ9_min_7cf53_5 : decode cJ9_min_7cf53 5 = .ok (.iload_n 0, 1) := by decide +kernel
theorem dJ9_min_7cf53_6 : decode cJ9_min_7cf53 6 = .ok (.goto 4, 3) := by decide +kernel
theorem dJ9_min_7cf53_9 : decode cJ9_min_7cf53 9 = .ok (.iload_n 1, 1) := by decide +kernel
theorem dJ9_min_7cf53_10 : decode cJ9_min_7cf53 10 = .ok (.ireturn, 1) := by decide +kernel
