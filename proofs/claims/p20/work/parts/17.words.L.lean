theorem dL_cell_0 : decode cL_cell 0 = .ok (.iload_n 1, 1) := by decide +kernel
theorem dL_cell_1 : decode cL_cell 1 = .ok (.aload_n 0, 1) := by decide +kernel
theorem dL_cell_2 : decode cL_cell 2 = .ok (.arraylength, 1) := by decide +kernel
theorem dL_cell_3 : decode cL_cell 3 = .ok (.if_icmp .ge 9, 3) := by decide +kernel
theorem dL_cell_6 : decode cL_cell 6 = .ok (.aload_n 0, 1) := by decide +kernel
theorem dL_cell_7 : decode cL_cell 7 = .ok (.iload_n 1, 1) := by decide +kernel
theorem dL_cell_8 : decode cL_cell 8 = .ok (.iaload, 1) := by decide +kernel
theorem dL_cell_9 : decode cL_cell 9 = .ok (.goto 18, 3) := by decide +kernel
theorem dL_cell_12 : decode cL_cell 12 = .ok (.sipush 7919, 3) := by decide +kernel
theorem dL_cell_15 : decode cL_cell 15 = .ok (.iload_n 1, 1) := by decide +kernel
theorem dL_cell_16 : decode cL_cell 16 = .ok (.sipush 337, 3) := by decide +kernel
theorem dL_cell_19 : decode cL_cell 19 = .ok (.iadd, 1) := by decide +kernel
theorem dL_cell_20 : decode cL_cell 20 = .ok (.imul, 1) := by decide +kernel
theorem dL_cell_21 : decode cL_cell 21 = .ok (.iload_n 1, 1) := by decide +kernel
theorem dL_cell_22 : decode cL_cell 22 = .ok (.sipush 1559, 3) := by decide +kernel
theorem dL_cell_25 : decode cL_cell 25 = .ok (.iadd, 1) := by decide +kernel
theorem dL_cell_26 : decode cL_cell 26 = .ok (.imul, 1) := by decide +kernel
theorem dL_cell_27 : decode cL_cell 27 = .ok (.ireturn, 1) := by decide +kernel
theorem dL_low_0 : decode cL_low 0 = .ok (.iload_n 0, 1) := by decide +kernel
theorem dL_low_1 : decode cL_low 1 = .ok (.ldc 7, 2) := by decide +kernel
theorem dL_low_3 : decode cL_low 3 = .ok (.iand, 1) := by decide +kernel
theorem dL_low_4 : decode cL_low 4 = .ok (.iload_n 1, 1) := by decide +kernel
theorem dL_low_5 : decode cL_low 5 = .ok (.irem, 1) := by decide +kernel
theorem dL_low_6 : decode cL_low 6 = .ok (.ireturn, 1) := by decide +kernel
set_option maxRecDepth 20000 in
theorem ggL_arc_X4_arc : GoodIn wsL_arc wsX4_arc := goodIn_ca (goodIn_ca (goodIn_ca (goodIn_r _ [9, 10, 11, 12, 13, 14, 15, 16, 17, 18, 8, 19, 20, 21, 22, 23, 24, 25, 26, 27, 28, 29, 30, 31, 32, 33, 34, 35, 36, 37, 38, 39, 40, 41, 42, 43, 44, 45, 46, 47, 48, 49, 50, 51, 52, 53, 54] (by decide +kernel) (by decide +kernel)) (goodIn_sub (fun _ h => List.mem_cons_of_mem _ (List.mem_append_left _ (List.mem_append_left _ (List.mem_append_right _ h)))) (by decide +kernel))) (goodIn_sub (fun _ h => List.mem_cons_of_mem _ (List.mem_append_left _ (List.mem_append_right _ h))) (by decide +kernel))) (goodIn_sub (fun _ h => List.mem_cons_of_mem _ (List.mem_append_right _ h)) (by decide +kernel))
set_option maxRecDepth 20000 in
theorem gL_arc_X4_arc : GoodIn wsL_arc (wsV RL 8 RX4 yX4_arc wsX4_arc) := goodIn_app (goodIn_of _ (by decide +kernel)) ggL_arc_X4_arc
theorem dL_arc_0 : decode cL_arc 0 = .ok (.aload_n 0, 1) := by decide +kernel
theorem dL_arc_1 : decode cL_arc 1 = .ok (.iload_n 1, 1) := by decide +kernel
theorem dL_arc_2 : decode cL_arc 2 = .ok (.iload_n 2, 1) := by decide +kernel
theorem dL_arc_3 : decode cL_arc 3 = .ok (.iload_n 3, 1) := by decide +kernel
theorem dL_arc_4 : decode cL_arc 4 = .ok (.iload 4, 2) := by decide +kernel
theorem dL_arc_6 : decode cL_arc 6 = .ok (.invokevirtual 8, 3) := by decide +kernel
theorem dL_arc_9 : decode cL_arc 9 = .ok (.ireturn, 1) := by decide +kernel
theorem dL_arc_10 : decode cL_arc 10 = .ok (.astore 5, 2) := by decide +kernel
theorem dL_arc_12 : decode cL_arc 12 = .ok (.ldc 16, 2) := by decide +kernel
theorem dL_arc_14 : decode cL_arc 14 = .ok (.ireturn, 1) := by decide +kernel
theorem dL_arc_15 : decode cL_arc 15 = .ok (.astore 5, 2) := by decide +kernel
theorem dL_arc_17 : decode cL_arc 17 = .ok (.ldc 16, 2) := by decide +kernel
theorem dL_arc_19 : decode cL_arc 19 = .ok (.ireturn, 1) := by decide +kernel
theorem dL_arc_20 : decode cL_arc 20 = .ok (.astore 5, 2) := by decide +kernel
theorem dL_arc_22 : decode cL_arc 22 = .ok (.ldc 16, 2) := by decide +kernel
theorem dL_arc_24 : decode cL_arc 24 = .ok (.ireturn, 1) := by decide +kernel
set_option maxRecDepth 20000 in
theorem ggL_piece_X4_piece : GoodIn wsL_piece wsX4_piece := goodIn_ca (goodIn_ca (goodIn_ca (goodIn_r _ [9, 10, 11, 12, 13, 14, 15, 16, 17, 18, 19, 8, 20, 21, 22, 23, 24, 25, 26, 27, 28, 29, 30, 31, 32, 33, 34, 35, 36, 37, 38, 39, 40, 41, 42, 43, 44, 45, 46, 47, 48, 49, 50, 51, 52, 53, 54, 55, 56, 57] (by decide +kernel) (by decide +kernel)) (goodIn_sub (fun _ h => List.mem_cons_of_mem _ (List.mem_append_left _ (List.mem_append_left _ (List.mem_append_right _ h)))) (by decide +kernel))) (goodIn_sub (fun _ h => List.mem_cons_of_mem _ (List.mem_append_left _ (List.mem_append_right _ h))) (by decide +kernel))) (goodIn_sub (fun _ h => List.mem_cons_of_mem _ (List.mem_append_right _ h)) (by decide +kernel))
set_option maxRecDepth 20000 in
theorem gL_piece_X4_piece : GoodIn wsL_piece (wsV RL 21 RX4 yX4_piece wsX4_piece) := goodIn_app (goodIn_of _ (by decide +kernel)) ggL_piece_X4_piece
theorem dL_piece_0 : decode cL_piece 0 = .ok (.aload_n 0, 1) := by decide +kernel
theorem dL_piece_1 : decode cL_piece 1 = .ok (.iload_n 1, 1) := by decide +kernel
theorem dL_piece_2 : decode cL_piece 2 = .ok (.iload_n 2, 1) := by decide +kernel
theorem dL_piece_3 : decode cL_piece 3 = .ok (.iload_n 3, 1) := by decide +kernel
theorem dL_piece_4 : decode cL_piece 4 = .ok (.invokevirtual 21, 3) := by decide +kernel
theorem dL_piece_7 : decode cL_piece 7 = .ok (.ireturn, 1) := by decide +kernel
theorem dL_piece_8 : decode cL_piece 8 = .ok (.astore 4, 2) := by decide +kernel
theorem dL_piece_10 : decode cL_piece 10 = .ok (.ldc 16, 2) := by decide +kernel
theorem dL_piece_12 : decode cL_piece 12 = .ok (.ireturn, 1) := by decide +kernel
theorem dL_piece_13 : decode cL_piece 13 = .ok (.astore 4, 2) := by decide +kernel
theorem dL_piece_15 : decode cL_piece 15 = .ok (.ldc 16, 2) := by decide +kernel
theorem dL_piece_17 : decode cL_piece 17 = .ok (.ireturn, 1) := by decide +kernel
theorem dL_piece_18 : decode cL_piece 18 = .ok (.astore 4, 2) := by decide +kernel
theorem dL_piece_20 : decode cL_piece 20 = .ok (.ldc 16, 2) := by decide +kernel
theorem dL_piece_22 : decode cL_piece 22 = .ok (.ireturn, 1) := by decide +kernel
set_option maxRecDepth 20000 in
theorem ggL_demand_X4_demand : GoodIn wsL_demand wsX4_demand := goodIn_ca (goodIn_ca (goodIn_r _ [8, 9, 10, 11, 12, 13, 14, 15, 16, 7, 17, 18, 19, 20, 21, 22, 23, 24, 25, 26, 27, 28, 29, 30, 31, 32, 33, 34, 35] (by decide +kernel) (by decide +kernel)) (goodIn_sub (fun _ h => List.mem_cons_of_mem _ (List.mem_append_left _ (List.mem_append_right _ h))) (by decide +kernel))) (goodIn_sub (fun _ h => List.mem_cons_of_mem _ (List.mem_append_right _ h)) (by decide +kernel))
set_option maxRecDepth 20000 in
theorem gL_demand_X4_demand : GoodIn wsL_demand (wsV RL 25 RX4 yX4_demand wsX4_demand) := goodIn_app (goodIn_of _ (by decide +kernel)) ggL_demand_X4_demand
theorem dL_demand_0 : decode cL_demand 0 = .ok (.aload_n 0, 1) := by decide +kernel
theorem dL_demand_1 : decode cL_demand 1 = .ok (.iload_n 1, 1) := by decide +kernel
theorem dL_demand_2 : decode cL_demand 2 = .ok (.iload_n 2, 1) := by decide +kernel
theorem dL_demand_3 : decode cL_demand 3 = .ok (.iload_n 3, 1) := by decide +kernel
theorem dL_demand_4 : decode cL_demand 4 = .ok (.invokevirtual 25, 3) := by decide +kernel
theorem dL_demand_7 : decode cL_demand 7 = .ok (.iconst 0, 1) := by decide +kernel
theorem dL_demand_8 : decode cL_demand 8 = .ok (.ireturn, 1) := by decide +kernel
theorem dL_demand_9 : decode cL_demand 9 = .ok (.astore 4, 2) := by decide +kernel
theorem dL_demand_11 : decode cL_demand 11 = .ok (.ldc 16, 2) := by decide +kernel
theorem dL_demand_13 : decode cL_demand 13 = .ok (.ireturn, 1) := by decide +kernel
theorem dL_demand_14 : decode cL_demand 14 = .ok (.astore 4, 2) := by decide +kernel
theorem dL_demand_16 : decode cL_demand 16 = .ok (.ldc 16, 2) := by decide +kernel
theorem dL_demand_18 : decode cL_demand 18 = .ok (.ireturn, 1) := by decide +kernel
set_option maxRecDepth 20000 in
theorem ggL_price_X4_price : GoodIn wsL_price wsX4_price := goodIn_ca (goodIn_r _ [7, 8, 9, 10, 11, 12, 13, 14, 6, 15, 16, 17, 18, 19, 20, 21, 22, 23, 24, 25, 26, 27, 28, 29, 30, 31, 32, 33, 34, 35, 36, 37, 38] (by decide +kernel) (by decide +kernel)) (goodIn_sub (fun _ h => List.mem_cons_of_mem _ (List.mem_append_right _ h)) (by decide +kernel))
set_option maxRecDepth 20000 in
theorem gL_price_X4_price : GoodIn wsL_price (wsV RL 29 RX4 yX4_price wsX4_price) := goodIn_app (goodIn_of _ (by decide +kernel)) ggL_price_X4_price
theorem dL_price_0 : decode cL_price 0 = .ok (.aload_n 0, 1) := by decide +kernel
theorem dL_price_1 : decode cL_price 1 = .ok (.iload_n 1, 1) := by decide +kernel
theorem dL_price_2 : decode cL_price 2 = .ok (.iload_n 2, 1) := by decide +kernel
theorem dL_price_3 : decode cL_price 3 = .ok (.invokevirtual 29, 3) := by decide +kernel
theorem dL_price_6 : decode cL_price 6 = .ok (.ireturn, 1) := by decide +kernel
theorem dL_price_7 : decode cL_price 7 = .ok (.astore_n 3, 1) := by decide +kernel
theorem dL_price_8 : decode cL_price 8 = .ok (.ldc 16, 2) := by decide +kernel
theorem dL_price_10 : decode cL_price 10 = .ok (.ireturn, 1) := by decide +kernel
set_option maxRecDepth 20000 in
theorem ggL_act_L_low : GoodIn wsL_act wsL_low := goodIn_r _ [4, 5] (by decide +kernel) (by decide +kernel)
set_option maxRecDepth 20000 in
theorem gL_act_L_low : GoodIn wsL_act (va_wsS RL 33 yL_low wsL_low) := goodIn_app (goodIn_of _ (by decide +kernel)) ggL_act_L_low
set_option maxRecDepth 20000 in
theorem ggL_act_X4_nodes : GoodIn wsL_act wsX4_nodes := goodIn_r _ [10, 11, 12, 90, 91, 92, 93, 94, 95, 96, 97, 98, 99, 100, 101, 102, 103] (by decide +kernel) (by decide +kernel)
set_option maxRecDepth 20000 in
theorem gL_act_X4_nodes : GoodIn wsL_act (wsV RL 38 RX4 yX4_nodes wsX4_nodes) := goodIn_app (goodIn_of _ (by decide +kernel)) ggL_act_X4_nodes
set_option maxRecDepth 20000 in
theorem ggL_act_L_demand : GoodIn wsL_act wsL_demand := goodIn_ca (goodIn_ca (goodIn_r _ [15, 16, 17, 18, 19, 20, 21, 9, 22, 23, 24, 25, 26, 27, 28, 29, 30, 31, 32, 33, 11, 12, 90, 91, 92, 93, 94, 95, 96, 97, 98, 99, 100, 101, 102, 103] (by decide +kernel) (by decide +kernel)) (goodIn_sub (fun _ h => List.mem_cons_of_mem _ (List.mem_append_left _ (List.mem_append_left _ (List.mem_append_right _ h)))) (by decide +kernel))) (goodIn_sub (fun _ h => List.mem_cons_of_mem _ (List.mem_append_left _ (List.mem_append_right _ h))) (by decide +kernel))
set_option maxRecDepth 20000 in
theorem gL_act_L_demand : GoodIn wsL_act (va_wsS RL 42 yL_demand wsL_demand) := goodIn_app (goodIn_of _ (by decide +kernel)) ggL_act_L_demand
set_option maxRecDepth 20000 in
theorem ggL_act_X4_arcs : GoodIn wsL_act wsX4_arcs := goodIn_r _ [37, 11, 38, 90, 91, 92, 93, 94, 95, 96, 97, 98, 99, 100, 101, 102, 103] (by decide +kernel) (by decide +kernel)
set_option maxRecDepth 20000 in
theorem gL_act_X4_arcs : GoodIn wsL_act (wsV RL 45 RX4 yX4_arcs wsX4_arcs) := goodIn_app (goodIn_of _ (by decide +kernel)) ggL_act_X4_arcs
set_option maxRecDepth 20000 in
theorem ggL_act_L_piece : GoodIn wsL_act wsL_piece := goodIn_ca (goodIn_ca (goodIn_ca (goodIn_r _ [41, 16, 17, 42, 18, 43, 44, 45, 9, 46, 23, 24, 47, 48, 11, 49, 50, 51, 52, 53, 54, 32, 33, 38, 55, 56, 57, 58, 59, 60, 61, 62, 63, 64, 65, 66, 67, 68, 69, 70, 71, 72, 73, 74, 90, 91, 92, 93, 94, 95, 96, 97, 98, 99, 100, 101, 102, 103] (by decide +kernel) (by decide +kernel)) (goodIn_sub (fun _ h => List.mem_cons_of_mem _ (List.mem_append_left _ (List.mem_append_left _ (List.mem_append_right _ h)))) (by decide +kernel))) (goodIn_sub (fun _ h => List.mem_cons_of_mem _ (List.mem_append_right _ h)) (by decide +kernel))) (goodIn_sub (fun _ h => List.mem_cons_of_mem _ (List.mem_append_left _ (List.mem_append_right _ h))) (by decide +kernel))
set_option maxRecDepth 20000 in
theorem gL_act_L_piece : GoodIn wsL_act (va_wsS RL 48 yL_piece wsL_piece) := goodIn_app (goodIn_of _ (by decide +kernel)) ggL_act_L_piece
set_option maxRecDepth 20000 in
theorem ggL_act_L_arc : GoodIn wsL_act wsL_arc := goodIn_ca (goodIn_ca (goodIn_ca (goodIn_r _ [77, 16, 17, 42, 18, 78, 79, 80, 9, 81, 23, 24, 47, 48, 11, 38, 28, 29, 30, 31, 32, 33, 12, 55, 56, 57, 82, 83, 84, 61, 85, 86, 87, 88, 89, 71, 72, 73, 63, 69, 74, 90, 91, 92, 93, 94, 95, 96, 97, 98, 99, 100, 101, 102, 103] (by decide +kernel) (by decide +kernel)) (goodIn_sub (fun _ h => List.mem_cons_of_mem _ (List.mem_append_left _ (List.mem_append_left _ (List.mem_append_right _ h)))) (by decide +kernel))) (goodIn_sub (fun _ h => List.mem_cons_of_mem _ (List.mem_append_right _ h)) (by decide +kernel))) (goodIn_sub (fun _ h => List.mem_cons_of_mem _ (List.mem_append_left _ (List.mem_append_right _ h))) (by decide +kernel))
set_option maxRecDepth 20000 in
theorem gL_act_L_arc : GoodIn wsL_act (va_wsS RL 50 yL_arc wsL_arc) := goodIn_app (goodIn_of _ (by decide +kernel)) ggL_act_L_arc
theorem dL_act_0 : decode cL_act 0 = .ok (.iload_n 1, 1) := by decide +kernel
theorem dL_act_1 : decode cL_act 1 = .ok (.bipush 24, 2) := by decide +kernel
theorem dL_act_3 : decode cL_act 3 = .ok (.ishr, 1) := by decide +kernel
theorem dL_act_4 : decode cL_act 4 = .ok (.bipush 9, 2) := by decide +kernel
theorem dL_act_6 : decode cL_act 6 = .ok (.invokestatic 33, 3) := by decide +kernel
theorem dL_act_9 : decode cL_act 9 = .ok (.ifCond .ne 7, 3) := by decide +kernel
theorem dL_act_12 : decode cL_act 12 = .ok (.iconst 1, 1) := by decide +kernel
theorem dL_act_13 : decode cL_act 13 = .ok (.goto 4, 3) := by decide +kernel
theorem dL_act_16 : decode cL_act 16 = .ok (.iconst 0, 1) := by decide +kernel
theorem dL_act_17 : decode cL_act 17 = .ok (.istore_n 2, 1) := by decide +kernel
theorem dL_act_18 : decode cL_act 18 = .ok (.aload_n 0, 1) := by decide +kernel
theorem dL_act_19 : decode cL_act 19 = .ok (.invokevirtual 38, 3) := by decide +kernel
theorem dL_act_22 : decode cL_act 22 = .ok (.iload_n 2, 1) := by decide +kernel
theorem dL_act_23 : decode cL_act 23 = .ok (.ifCond .eq 7, 3) := by decide +kernel
theorem dL_act_26 : decode cL_act 26 = .ok (.iconst 1, 1) := by decide +kernel
theorem dL_act_27 : decode cL_act 27 = .ok (.goto 4, 3) := by decide +kernel
theorem dL_act_30 : decode cL_act 30 = .ok (.iconst 0, 1) := by decide +kernel
theorem dL_act_31 : decode cL_act 31 = .ok (.iadd, 1) := by decide +kernel
theorem dL_act_32 : decode cL_act 32 = .ok (.istore_n 3, 1) := by decide +kernel
theorem dL_act_33 : decode cL_act 33 = .ok (.iload_n 1, 1) := by decide +kernel
theorem dL_act_34 : decode cL_act 34 = .ok (.iconst 4, 1) := by decide +kernel
theorem dL_act_35 : decode cL_act 35 = .ok (.ishr, 1) := by decide +kernel
theorem dL_act_36 : decode cL_act 36 = .ok (.iload_n 3, 1) := by decide +kernel
theorem dL_act_37 : decode cL_act 37 = .ok (.invokestatic 33, 3) := by decide +kernel
theorem dL_act_40 : decode cL_act 40 = .ok (.istore 4, 2) := by decide +kernel
theorem dL_act_42 : decode cL_act 42 = .ok (.iload_n 2, 1) := by decide +kernel
theorem dL_act_43 : decode cL_act 43 = .ok (.ifCond .eq 14, 3) := by decide +kernel
theorem dL_act_46 : decode cL_act 46 = .ok (.iload_n 1, 1) := by decide +kernel
theorem dL_act_47 : decode cL_act 47 = .ok (.bipush 8, 2) := by decide +kernel
theorem dL_act_49 : decode cL_act 49 = .ok (.ishr, 1) := by decide +kernel
theorem dL_act_50 : decode cL_act 50 = .ok (.iload_n 3, 1) := by decide +kernel
theorem dL_act_51 : decode cL_act 51 = .ok (.invokestatic 33, 3) := by decide +kernel
theorem dL_act_54 : decode cL_act 54 = .ok (.goto 20, 3) := by decide +kernel
theorem dL_act_57 : decode cL_act 57 = .ok (.iload 4, 2) := by decide +kernel
theorem dL_act_59 : decode cL_act 59 = .ok (.iconst 1, 1) := by decide +kernel
theorem dL_act_60 : decode cL_act 60 = .ok (.iadd, 1) := by decide +kernel
theorem dL_act_61 : decode cL_act 61 = .ok (.iload_n 1, 1) := by decide +kernel
theorem dL_act_62 : decode cL_act 62 = .ok (.bipush 8, 2) := by decide +kernel
theorem dL_act_64 : decode cL_act 64 = .ok (.ishr, 1) := by decide +kernel
theorem dL_act_65 : decode cL_act 65 = .ok (.iload_n 3, 1) := by decide +kernel
theorem dL_act_66 : decode cL_act 66 = .ok (.iconst 1, 1) := by decide +kernel
theorem dL_act_67 : decode cL_act 67 = .ok (.isub, 1) := by decide +kernel
theorem dL_act_68 : decode cL_act 68 = .ok (.invokestatic 33, 3) := by decide +kernel
theorem dL_act_71 : decode cL_act 71 = .ok (.iadd, 1) := by decide +kernel
theorem dL_act_72 : decode cL_act 72 = .ok (.iload_n 3, 1) := by decide +kernel
theorem dL_act_73 : decode cL_act 73 = .ok (.irem, 1) := by decide +kernel
theorem dL_act_74 : decode cL_act 74 = .ok (.istore 5, 2) := by decide +kernel
theorem dL_act_76 : decode cL_act 76 = .ok (.iload_n 1, 1) := by decide +kernel
theorem dL_act_77 : decode cL_act 77 = .ok (.bipush 7, 2) := by decide +kernel
theorem dL_act_79 : decode cL_act 79 = .ok (.invokestatic 33, 3) := by decide +kernel
theorem dL_act_82 : decode cL_act 82 = .ok (.tableswitch 123 0 2 #[26, 26, 62], 26) := by decide +kernel
theorem dL_act_108 : decode cL_act 108 = .ok (.aload_n 0, 1) := by decide +kernel
theorem dL_act_109 : decode cL_act 109 = .ok (.iload 4, 2) := by decide +kernel
theorem dL_act_111 : decode cL_act 111 = .ok (.iload 5, 2) := by decide +kernel
theorem dL_act_113 : decode cL_act 113 = .ok (.iload_n 2, 1) := by decide +kernel
theorem dL_act_114 : decode cL_act 114 = .ok (.ifCond .eq 17, 3) := by decide +kernel
theorem dL_act_117 : decode cL_act 117 = .ok (.iload_n 1, 1) := by decide +kernel
theorem dL_act_118 : decode cL_act 118 = .ok (.bipush 12, 2) := by decide +kernel
theorem dL_act_120 : decode cL_act 120 = .ok (.ishr, 1) := by decide +kernel
theorem dL_act_121 : decode cL_act 121 = .ok (.bipush 24, 2) := by decide +kernel
theorem dL_act_123 : decode cL_act 123 = .ok (.invokestatic 33, 3) := by decide +kernel
theorem dL_act_126 : decode cL_act 126 = .ok (.iconst 1, 1) := by decide +kernel
theorem dL_act_127 : decode cL_act 127 = .ok (.isub, 1) := by decide +kernel
theorem dL_act_128 : decode cL_act 128 = .ok (.goto 12, 3) := by decide +kernel
theorem dL_act_131 : decode cL_act 131 = .ok (.iload_n 1, 1) := by decide +kernel
theorem dL_act_132 : decode cL_act 132 = .ok (.bipush 12, 2) := by decide +kernel
theorem dL_act_134 : decode cL_act 134 = .ok (.ishr, 1) := by decide +kernel
theorem dL_act_135 : decode cL_act 135 = .ok (.bipush 9, 2) := by decide +kernel
theorem dL_act_137 : decode cL_act 137 = .ok (.invokestatic 33, 3) := by decide +kernel
theorem dL_act_140 : decode cL_act 140 = .ok (.invokestatic 42, 3) := by decide +kernel
theorem dL_act_143 : decode cL_act 143 = .ok (.ireturn, 1) := by decide +kernel
theorem dL_act_144 : decode cL_act 144 = .ok (.aload_n 0, 1) := by decide +kernel
theorem dL_act_145 : decode cL_act 145 = .ok (.iload_n 1, 1) := by decide +kernel
theorem dL_act_146 : decode cL_act 146 = .ok (.iconst 4, 1) := by decide +kernel
theorem dL_act_147 : decode cL_act 147 = .ok (.ishr, 1) := by decide +kernel
theorem dL_act_148 : decode cL_act 148 = .ok (.aload_n 0, 1) := by decide +kernel
theorem dL_act_149 : decode cL_act 149 = .ok (.invokevirtual 45, 3) := by decide +kernel
theorem dL_act_152 : decode cL_act 152 = .ok (.iconst 1, 1) := by decide +kernel
theorem dL_act_153 : decode cL_act 153 = .ok (.iadd, 1) := by decide +kernel
theorem dL_act_154 : decode cL_act 154 = .ok (.invokestatic 33, 3) := by decide +kernel
theorem dL_act_157 : decode cL_act 157 = .ok (.iload_n 2, 1) := by decide +kernel
theorem dL_act_158 : decode cL_act 158 = .ok (.ifCond .eq 15, 3) := by decide +kernel
theorem dL_act_161 : decode cL_act 161 = .ok (.iload_n 1, 1) := by decide +kernel
theorem dL_act_162 : decode cL_act 162 = .ok (.bipush 12, 2) := by decide +kernel
theorem dL_act_164 : decode cL_act 164 = .ok (.ishr, 1) := by decide +kernel
theorem dL_act_165 : decode cL_act 165 = .ok (.bipush 8, 2) := by decide +kernel
theorem dL_act_167 : decode cL_act 167 = .ok (.invokestatic 33, 3) := by decide +kernel
theorem dL_act_170 : decode cL_act 170 = .ok (.goto 13, 3) := by decide +kernel
theorem dL_act_173 : decode cL_act 173 = .ok (.iconst 1, 1) := by decide +kernel
theorem dL_act_174 : decode cL_act 174 = .ok (.iload_n 1, 1) := by decide +kernel
theorem dL_act_175 : decode cL_act 175 = .ok (.bipush 12, 2) := by decide +kernel
theorem dL_act_177 : decode cL_act 177 = .ok (.ishr, 1) := by decide +kernel
theorem dL_act_178 : decode cL_act 178 = .ok (.iconst 5, 1) := by decide +kernel
theorem dL_act_179 : decode cL_act 179 = .ok (.invokestatic 33, 3) := by decide +kernel
theorem dL_act_182 : decode cL_act 182 = .ok (.iadd, 1) := by decide +kernel
theorem dL_act_183 : decode cL_act 183 = .ok (.iload_n 1, 1) := by decide +kernel
theorem dL_act_184 : decode cL_act 184 = .ok (.bipush 15, 2) := by decide +kernel
theorem dL_act_186 : decode cL_act 186 = .ok (.ishr, 1) := by decide +kernel
theorem dL_act_187 : decode cL_act 187 = .ok (.iload_n 2, 1) := by decide +kernel
theorem dL_act_188 : decode cL_act 188 = .ok (.ifCond .eq 8, 3) := by decide +kernel
theorem dL_act_191 : decode cL_act 191 = .ok (.bipush 110, 2) := by decide +kernel
theorem dL_act_193 : decode cL_act 193 = .ok (.goto 5, 3) := by decide +kernel
theorem dL_act_196 : decode cL_act 196 = .ok (.bipush 60, 2) := by decide +kernel
theorem dL_act_198 : decode cL_act 198 = .ok (.invokestatic 33, 3) := by decide +kernel
theorem dL_act_201 : decode cL_act 201 = .ok (.invokestatic 48, 3) := by decide +kernel
theorem dL_act_204 : decode cL_act 204 = .ok (.ireturn, 1) := by decide +kernel
theorem dL_act_205 : decode cL_act 205 = .ok (.aload_n 0, 1) := by decide +kernel
theorem dL_act_206 : decode cL_act 206 = .ok (.iload 4, 2) := by decide +kernel
theorem dL_act_208 : decode cL_act 208 = .ok (.iload 5, 2) := by decide +kernel
theorem dL_act_210 : decode cL_act 210 = .ok (.iload_n 2, 1) := by decide +kernel
theorem dL_act_211 : decode cL_act 211 = .ok (.ifCond .eq 15, 3) := by decide +kernel
theorem dL_act_214 : decode cL_act 214 = .ok (.iload_n 1, 1) := by decide +kernel
theorem dL_act_215 : decode cL_act 215 = .ok (.bipush 12, 2) := by decide +kernel
theorem dL_act_217 : decode cL_act 217 = .ok (.ishr, 1) := by decide +kernel
theorem dL_act_218 : decode cL_act 218 = .ok (.bipush 8, 2) := by decide +kernel
theorem dL_act_220 : decode cL_act 220 = .ok (.invokestatic 33, 3) := by decide +kernel
theorem dL_act_223 : decode cL_act 223 = .ok (.goto 13, 3) := by decide +kernel
theorem dL_act_226 : decode cL_act 226 = .ok (.iconst 1, 1) := by decide +kernel
theorem dL_act_227 : decode cL_act 227 = .ok (.iload_n 1, 1) := by decide +kernel
theorem dL_act_228 : decode cL_act 228 = .ok (.bipush 12, 2) := by decide +kernel
theorem dL_act_230 : decode cL_act 230 = .ok (.ishr, 1) := by decide +kernel
theorem dL_act_231 : decode cL_act 231 = .ok (.iconst 5, 1) := by decide +kernel
theorem dL_act_232 : decode cL_act 232 = .ok (.invokestatic 33, 3) := by decide +kernel
theorem dL_act_235 : decode cL_act 235 = .ok (.iadd, 1) := by decide +kernel
theorem dL_act_236 : decode cL_act 236 = .ok (.iload_n 2, 1) := by decide +kernel
theorem dL_act_237 : decode cL_act 237 = .ok (.ifCond .eq 17, 3) := by decide +kernel
theorem dL_act_240 : decode cL_act 240 = .ok (.iload_n 1, 1) := by decide +kernel
theorem dL_act_241 : decode cL_act 241 = .ok (.bipush 15, 2) := by decide +kernel
theorem dL_act_243 : decode cL_act 243 = .ok (.ishr, 1) := by decide +kernel
theorem dL_act_244 : decode cL_act 244 = .ok (.bipush 110, 2) := by decide +kernel
theorem dL_act_246 : decode cL_act 246 = .ok (.invokestatic 33, 3) := by decide +kernel
theorem dL_act_249 : decode cL_act 249 = .ok (.iconst 5, 1) := by decide +kernel
theorem dL_act_250 : decode cL_act 250 = .ok (.isub, 1) := by decide +kernel
theorem dL_act_251 : decode cL_act 251 = .ok (.goto 12, 3) := by decide +kernel
theorem dL_act_254 : decode cL_act 254 = .ok (.iload_n 1, 1) := by decide +kernel
theorem dL_act_255 : decode cL_act 255 = .ok (.bipush 15, 2) := by decide +kernel
theorem dL_act_257 : decode cL_act 257 = .ok (.ishr, 1) := by decide +kernel
theorem dL_act_258 : decode cL_act 258 = .ok (.bipush 12, 2) := by decide +kernel
theorem dL_act_260 : decode cL_act 260 = .ok (.invokestatic 33, 3) := by decide +kernel
theorem dL_act_263 : decode cL_act 263 = .ok (.invokestatic 50, 3) := by decide +kernel
theorem dL_act_266 : decode cL_act 266 = .ok (.ireturn, 1) := by decide +kernel
set_option maxRecDepth 20000 in
theorem ggL_areAlike_X4_arcs : GoodIn wsL_areAlike wsX4_arcs := goodIn_r _ [5, 6, 7, 183, 184, 185, 186, 187, 188, 189, 190, 191, 192, 193, 194, 195, 196] (by decide +kernel) (by decide +kernel)
set_option maxRecDepth 20000 in
theorem gL_areAlike_X4_arcs : GoodIn wsL_areAlike (wsV RL 45 RX4 yX4_arcs wsX4_arcs) := goodIn_app (goodIn_of _ (by decide +kernel)) ggL_areAlike_X4_arcs
set_option maxRecDepth 20000 in
theorem ggL_areAlike_X4_cost : GoodIn wsL_areAlike wsX4_cost := goodIn_r _ [11, 12, 13, 14, 15, 16, 17, 18, 19, 20, 21, 22, 23, 24, 25, 26, 27, 28, 29, 30, 31, 32, 33, 34, 35, 36, 37, 38, 39, 40, 41, 42, 43, 44, 45, 46, 47, 48, 49, 50, 51, 52, 53, 54, 55, 56, 57, 58, 59, 60, 61, 62, 63, 64, 65, 66, 67, 68, 69, 70, 71, 72, 73, 74, 75, 76, 77, 78, 79, 80, 81, 82, 83, 84, 85, 86, 87, 88, 89, 90, 91, 92, 93, 94, 95, 96, 97, 98, 99, 100, 101, 183, 184, 185, 186, 187, 188, 189, 197, 198, 199, 200, 201, 202, 190, 191, 192, 193, 194, 195, 196] (by decide +kernel) (by decide +kernel)
set_option maxRecDepth 20000 in
theorem gL_areAlike_X4_cost : GoodIn wsL_areAlike (wsV RL 53 RX4 yX4_cost wsX4_cost) := goodIn_app (goodIn_of _ (by decide +kernel)) ggL_areAlike_X4_cost
set_option maxRecDepth 20000 in
theorem ggL_areAlike_X4_driven : GoodIn wsL_areAlike wsX4_driven := goodIn_r _ [105, 106, 13, 14, 15, 107, 108, 109, 110, 111, 112, 113, 114, 115, 116, 117, 118, 119, 120, 121, 122, 123, 124, 125, 126, 127, 128, 129, 130, 131, 132, 133, 134, 135, 136, 137, 138, 80, 81, 46, 82, 83, 84, 85, 139, 140, 141, 142, 143, 144, 145, 146, 183, 184, 185, 186, 187, 188, 189, 203, 204, 205, 206, 207, 208, 190, 191, 192, 193, 194, 195, 196] (by decide +kernel) (by decide +kernel)
set_option maxRecDepth 20000 in
theorem gL_areAlike_X4_driven : GoodIn wsL_areAlike (wsV RL 56 RX4 yX4_driven wsX4_driven) := goodIn_app (goodIn_of _ (by decide +kernel)) ggL_areAlike_X4_driven
set_option maxRecDepth 20000 in
theorem ggL_areAlike_X4_most : GoodIn wsL_areAlike wsX4_most := goodIn_r _ [150, 12, 13, 14, 151, 152, 153, 19, 154, 21, 22, 23, 24, 25, 26, 27, 28, 29, 30, 155, 156, 157, 158, 159, 160, 161, 162, 35, 38, 43, 44, 45, 46, 47, 48, 163, 164, 165, 166, 53, 54, 55, 56, 57, 58, 59, 60, 61, 62, 63, 64, 65, 66, 67, 68, 69, 70, 71, 72, 73, 74, 86, 87, 88, 89, 90, 91, 92, 93, 94, 95, 96, 97, 37, 183, 184, 185, 186, 187, 188, 189, 197, 198, 199, 200, 201, 202, 190, 191, 192, 193, 194, 195, 196] (by decide +kernel) (by decide +kernel)
set_option maxRecDepth 20000 in
theorem gL_areAlike_X4_most : GoodIn wsL_areAlike (wsV RL 59 RX4 yX4_most wsX4_most) := goodIn_app (goodIn_of _ (by decide +kernel)) ggL_areAlike_X4_most
set_option maxRecDepth 20000 in
theorem ggL_areAlike_X4_capacity : GoodIn wsL_areAlike wsX4_capacity := goodIn_ca (goodIn_r _ [170, 6, 171, 172, 173, 174, 4, 175, 176, 177, 7, 183, 184, 185, 186, 187, 188, 189, 190, 191, 192, 193, 194, 195, 196] (by decide +kernel) (by decide +kernel)) (goodIn_sub (fun _ h => List.mem_cons_of_mem _ (List.mem_append_right _ h)) (by decide +kernel))
set_option maxRecDepth 20000 in
theorem gL_areAlike_X4_capacity : GoodIn wsL_areAlike (wsV RL 62 RX4 yX4_capacity wsX4_capacity) := goodIn_app (goodIn_of _ (by decide +kernel)) ggL_areAlike_X4_capacity
set_option maxRecDepth 20000 in
theorem ggL_areAlike_X4_drivenOn : GoodIn wsL_areAlike wsX4_drivenOn := goodIn_ca (goodIn_r _ [181, 106, 13, 14, 15, 182, 172, 173, 174, 4, 175, 176, 177, 6, 7, 109, 110, 111, 112, 113, 114, 115, 116, 117, 118, 119, 120, 121, 122, 123, 124, 125, 126, 127, 128, 129, 130, 131, 132, 133, 134, 135, 136, 137, 138, 80, 81, 46, 82, 83, 84, 85, 139, 140, 141, 142, 143, 144, 145, 146, 183, 184, 185, 186, 187, 188, 189, 203, 204, 205, 206, 207, 208, 190, 191, 192, 193, 194, 195, 196] (by decide +kernel) (by decide +kernel)) (goodIn_sub (fun _ h => List.mem_cons_of_mem _ (List.mem_append_right _ h)) (by decide +kernel))
set_option maxRecDepth 20000 in
theorem gL_areAlike_X4_drivenOn : GoodIn wsL_areAlike (wsV RL 66 RX4 yX4_drivenOn wsX4_drivenOn) := goodIn_app (goodIn_of _ (by decide +kernel)) ggL_areAlike_X4_drivenOn
theorem dL_areAlike_0 : decode cL_areAlike 0 = .ok (.aload_n 0, 1) := by decide +kernel
theorem dL_areAlike_1 : decode cL_areAlike 1 = .ok (.invokevirtual 45, 3) := by decide +kernel
theorem dL_areAlike_4 : decode cL_areAlike 4 = .ok (.aload_n 1, 1) := by decide +kernel
theorem dL_areAlike_5 : decode cL_areAlike 5 = .ok (.invokevirtual 45, 3) := by decide +kernel
theorem dL_areAlike_8 : decode cL_areAlike 8 = .ok (.if_icmp .ne 40, 3) := by decide +kernel
theorem dL_areAlike_11 : decode cL_areAlike 11 = .ok (.aload_n 0, 1) := by decide +kernel
theorem dL_areAlike_12 : decode cL_areAlike 12 = .ok (.invokevirtual 53, 3) := by decide +kernel
theorem dL_areAlike_15 : decode cL_areAlike 15 = .ok (.aload_n 1, 1) := by decide +kernel
theorem dL_areAlike_16 : decode cL_areAlike 16 = .ok (.invokevirtual 53, 3) := by decide +kernel
theorem dL_areAlike_19 : decode cL_areAlike 19 = .ok (.if_icmp .ne 29, 3) := by decide +kernel
theorem dL_areAlike_22 : decode cL_areAlike 22 = .ok (.aload_n 0, 1) := by decide +kernel
theorem dL_areAlike_23 : decode cL_areAlike 23 = .ok (.invokevirtual 56, 3) := by decide +kernel
theorem dL_areAlike_26 : decode cL_areAlike 26 = .ok (.aload_n 1, 1) := by decide +kernel
theorem dL_areAlike_27 : decode cL_areAlike 27 = .ok (.invokevirtual 56, 3) := by decide +kernel
theorem dL_areAlike_30 : decode cL_areAlike 30 = .ok (.if_icmp .ne 18, 3) := by decide +kernel
theorem dL_areAlike_33 : decode cL_areAlike 33 = .ok (.aload_n 0, 1) := by decide +kernel
theorem dL_areAlike_34 : decode cL_areAlike 34 = .ok (.invokevirtual 59, 3) := by decide +kernel
theorem dL_areAlike_37 : decode cL_areAlike 37 = .ok (.aload_n 1, 1) := by decide +kernel
theorem dL_areAlike_38 : decode cL_areAlike 38 = .ok (.invokevirtual 59, 3) := by decide +kernel
theorem dL_areAlike_41 : decode cL_areAlike 41 = .ok (.if_icmp .ne 7, 3) := by decide +kernel
theorem dL_areAlike_44 : decode cL_areAlike 44 = .ok (.iconst 1, 1) := by decide +kernel
theorem dL_areAlike_45 : decode cL_areAlike 45 = .ok (.goto 4, 3) := by decide +kernel
theorem dL_areAlike_48 : decode cL_areAlike 48 = .ok (.iconst 0, 1) := by decide +kernel
theorem dL_areAlike_49 : decode cL_areAlike 49 = .ok (.istore_n 2, 1) := by decide +kernel
theorem dL_areAlike_50 : decode cL_areAlike 50 = .ok (.iconst 0, 1) := by decide +kernel
theorem dL_areAlike_51 : decode cL_areAlike 51 = .ok (.istore_n 3, 1) := by decide +kernel
theorem dL_areAlike_52 : decode cL_areAlike 52 = .ok (.iload_n 3, 1) := by decide +kernel
theorem dL_areAlike_53 : decode cL_areAlike 53 = .ok (.aload_n 0, 1) := by decide +kernel
theorem dL_areAlike_54 : decode cL_areAlike 54 = .ok (.invokevirtual 45, 3) := by decide +kernel
theorem dL_areAlike_57 : decode cL_areAlike 57 = .ok (.if_icmp .ge 45, 3) := by decide +kernel
theorem dL_areAlike_60 : decode cL_areAlike 60 = .ok (.iload_n 2, 1) := by decide +kernel
theorem dL_areAlike_61 : decode cL_areAlike 61 = .ok (.ifCond .eq 41, 3) := by decide +kernel
theorem dL_areAlike_64 : decode cL_areAlike 64 = .ok (.aload_n 0, 1) := by decide +kernel
theorem dL_areAlike_65 : decode cL_areAlike 65 = .ok (.iload_n 3, 1) := by decide +kernel
theorem dL_areAlike_66 : decode cL_areAlike 66 = .ok (.invokevirtual 62, 3) := by decide +kernel
theorem dL_areAlike_69 : decode cL_areAlike 69 = .ok (.aload_n 1, 1) := by decide +kernel
theorem dL_areAlike_70 : decode cL_areAlike 70 = .ok (.iload_n 3, 1) := by decide +kernel
theorem dL_areAlike_71 : decode cL_areAlike 71 = .ok (.invokevirtual 62, 3) := by decide +kernel
theorem dL_areAlike_74 : decode cL_areAlike 74 = .ok (.if_icmp .ne 20, 3) := by decide +kernel
theorem dL_areAlike_77 : decode cL_areAlike 77 = .ok (.aload_n 0, 1) := by decide +kernel
theorem dL_areAlike_78 : decode cL_areAlike 78 = .ok (.iload_n 3, 1) := by decide +kernel
theorem dL_areAlike_79 : decode cL_areAlike 79 = .ok (.invokevirtual 66, 3) := by decide +kernel
theorem dL_areAlike_82 : decode cL_areAlike 82 = .ok (.aload_n 1, 1) := by decide +kernel
theorem dL_areAlike_83 : decode cL_areAlike 83 = .ok (.iload_n 3, 1) := by decide +kernel
theorem dL_areAlike_84 : decode cL_areAlike 84 = .ok (.invokevirtual 66, 3) := by decide +kernel
theorem dL_areAlike_87 : decode cL_areAlike 87 = .ok (.if_icmp .ne 7, 3) := by decide +kernel
theorem dL_areAlike_90 : decode cL_areAlike 90 = .ok (.iconst 1, 1) := by decide +kernel
theorem dL_areAlike_91 : decode cL_areAlike 91 = .ok (.goto 4, 3) := by decide +kernel
theorem dL_areAlike_94 : decode cL_areAlike 94 = .ok (.iconst 0, 1) := by decide +kernel
theorem dL_areAlike_95 : decode cL_areAlike 95 = .ok (.istore_n 2, 1) := by decide +kernel
theorem dL_areAlike_96 : decode cL_areAlike 96 = .ok (.iinc 3 1, 3) := by decide +kernel
theorem dL_areAlike_99 : decode cL_areAlike 99 = .ok (.goto (-47), 3) := by decide +kernel
theorem dL_areAlike_102 : decode cL_areAlike 102 = .ok (.iload_n 2, 1) := by decide +kernel
theorem dL_areAlike_103 : decode cL_areAlike 103 = .ok (.ireturn, 1) := by decide +kernel
set_option maxRecDepth 20000 in
theorem ggL_isArcSo_X4_capacity : GoodIn wsL_isArcSo wsX4_capacity := goodIn_ca (goodIn_r _ [6, 7, 8, 9, 10, 11, 5, 12, 13, 14, 15, 33, 34, 35, 36, 37, 38, 39, 40, 41, 42, 43, 44, 45, 46] (by decide +kernel) (by decide +kernel)) (goodIn_sub (fun _ h => List.mem_cons_of_mem _ (List.mem_append_right _ h)) (by decide +kernel))
set_option maxRecDepth 20000 in
theorem gL_isArcSo_X4_capacity : GoodIn wsL_isArcSo (wsV RL 62 RX4 yX4_capacity wsX4_capacity) := goodIn_app (goodIn_of _ (by decide +kernel)) ggL_isArcSo_X4_capacity
set_option maxRecDepth 20000 in
theorem ggL_isArcSo_X4_price : GoodIn wsL_isArcSo wsX4_price := goodIn_ca (goodIn_r _ [19, 13, 14, 7, 8, 9, 10, 11, 5, 12, 15, 20, 21, 22, 23, 24, 25, 26, 27, 33, 34, 35, 36, 37, 38, 39, 40, 41, 42, 43, 44, 45, 46] (by decide +kernel) (by decide +kernel)) (goodIn_sub (fun _ h => List.mem_cons_of_mem _ (List.mem_append_right _ h)) (by decide +kernel))
set_option maxRecDepth 20000 in
theorem gL_isArcSo_X4_price : GoodIn wsL_isArcSo (wsV RL 29 RX4 yX4_price wsX4_price) := goodIn_app (goodIn_of _ (by decide +kernel)) ggL_isArcSo_X4_price
set_option maxRecDepth 20000 in
theorem ggL_isArcSo_L_price : GoodIn wsL_isArcSo wsL_price := goodIn_ca (goodIn_r _ [31, 32, 1, 16, 17, 18, 5, 19, 13, 14, 7, 8, 9, 10, 11, 12, 15, 20, 21, 22, 23, 24, 25, 26, 27, 33, 34, 35, 36, 37, 38, 39, 40, 41, 42, 43, 44, 45, 46] (by decide +kernel) (by decide +kernel)) (goodIn_sub (fun _ h => List.mem_cons_of_mem _ (List.mem_append_right _ h)) (by decide +kernel))
set_option maxRecDepth 20000 in
theorem gL_isArcSo_L_price : GoodIn wsL_isArcSo (va_wsS RL 69 yL_price wsL_price) := goodIn_app (goodIn_of _ (by decide +kernel)) ggL_isArcSo_L_price
theorem dL_isArcSo_0 : decode cL_isArcSo 0 = .ok (.aload_n 0, 1) := by decide +kernel
theorem dL_isArcSo_1 : decode cL_isArcSo 1 = .ok (.iload_n 1, 1) := by decide +kernel
theorem dL_isArcSo_2 : decode cL_isArcSo 2 = .ok (.invokevirtual 62, 3) := by decide +kernel
theorem dL_isArcSo_5 : decode cL_isArcSo 5 = .ok (.istore_n 2, 1) := by decide +kernel
theorem dL_isArcSo_6 : decode cL_isArcSo 6 = .ok (.iconst 0, 1) := by decide +kernel
theorem dL_isArcSo_7 : decode cL_isArcSo 7 = .ok (.istore_n 3, 1) := by decide +kernel
theorem dL_isArcSo_8 : decode cL_isArcSo 8 = .ok (.iconst 1, 1) := by decide +kernel
theorem dL_isArcSo_9 : decode cL_isArcSo 9 = .ok (.istore 4, 2) := by decide +kernel
theorem dL_isArcSo_11 : decode cL_isArcSo 11 = .ok (.iload 4, 2) := by decide +kernel
theorem dL_isArcSo_13 : decode cL_isArcSo 13 = .ok (.iload_n 2, 1) := by decide +kernel
theorem dL_isArcSo_14 : decode cL_isArcSo 14 = .ok (.if_icmp .gt 36, 3) := by decide +kernel
theorem dL_isArcSo_17 : decode cL_isArcSo 17 = .ok (.aload_n 0, 1) := by decide +kernel
theorem dL_isArcSo_18 : decode cL_isArcSo 18 = .ok (.iload_n 1, 1) := by decide +kernel
theorem dL_isArcSo_19 : decode cL_isArcSo 19 = .ok (.iload 4, 2) := by decide +kernel
theorem dL_isArcSo_21 : decode cL_isArcSo 21 = .ok (.invokevirtual 29, 3) := by decide +kernel
theorem dL_isArcSo_24 : decode cL_isArcSo 24 = .ok (.istore 5, 2) := by decide +kernel
theorem dL_isArcSo_26 : decode cL_isArcSo 26 = .ok (.iload 5, 2) := by decide +kernel
theorem dL_isArcSo_28 : decode cL_isArcSo 28 = .ok (.iload_n 3, 1) := by decide +kernel
theorem dL_isArcSo_29 : decode cL_isArcSo 29 = .ok (.if_icmp .lt 10, 3) := by decide +kernel
theorem dL_isArcSo_32 : decode cL_isArcSo 32 = .ok (.iload 5, 2) := by decide +kernel
theorem dL_isArcSo_34 : decode cL_isArcSo 34 = .ok (.bipush 99, 2) := by decide +kernel
theorem dL_isArcSo_36 : decode cL_isArcSo 36 = .ok (.if_icmp .le 5, 3) := by decide +kernel
theorem dL_isArcSo_39 : decode cL_isArcSo 39 = .ok (.iconst 0, 1) := by decide +kernel
theorem dL_isArcSo_40 : decode cL_isArcSo 40 = .ok (.ireturn, 1) := by decide +kernel
theorem dL_isArcSo_41 : decode cL_isArcSo 41 = .ok (.iload 5, 2) := by decide +kernel
theorem dL_isArcSo_43 : decode cL_isArcSo 43 = .ok (.istore_n 3, 1) := by decide +kernel
theorem dL_isArcSo_44 : decode cL_isArcSo 44 = .ok (.iinc 4 1, 3) := by decide +kernel
theorem dL_isArcSo_47 : decode cL_isArcSo 47 = .ok (.goto (-36), 3) := by decide +kernel
theorem dL_isArcSo_50 : decode cL_isArcSo 50 = .ok (.iload_n 2, 1) := by decide +kernel
theorem dL_isArcSo_51 : decode cL_isArcSo 51 = .ok (.iconst 1, 1) := by decide +kernel
theorem dL_isArcSo_52 : decode cL_isArcSo 52 = .ok (.if_icmp .lt 37, 3) := by decide +kernel
theorem dL_isArcSo_55 : decode cL_isArcSo 55 = .ok (.iload_n 2, 1) := by decide +kernel
theorem dL_isArcSo_56 : decode cL_isArcSo 56 = .ok (.bipush 15, 2) := by decide +kernel
theorem dL_isArcSo_58 : decode cL_isArcSo 58 = .ok (.if_icmp .gt 31, 3) := by decide +kernel
theorem dL_isArcSo_61 : decode cL_isArcSo 61 = .ok (.aload_n 0, 1) := by decide +kernel
theorem dL_isArcSo_62 : decode cL_isArcSo 62 = .ok (.iload_n 1, 1) := by decide +kernel
theorem dL_isArcSo_63 : decode cL_isArcSo 63 = .ok (.iconst 0, 1) := by decide +kernel
theorem dL_isArcSo_64 : decode cL_isArcSo 64 = .ok (.invokestatic 69, 3) := by decide +kernel
theorem dL_isArcSo_67 : decode cL_isArcSo 67 = .ok (.ldc 16, 2) := by decide +kernel
theorem dL_isArcSo_69 : decode cL_isArcSo 69 = .ok (.if_icmp .ne 20, 3) := by decide +kernel
theorem dL_isArcSo_72 : decode cL_isArcSo 72 = .ok (.aload_n 0, 1) := by decide +kernel
theorem dL_isArcSo_73 : decode cL_isArcSo 73 = .ok (.iload_n 1, 1) := by decide +kernel
theorem dL_isArcSo_74 : decode cL_isArcSo 74 = .ok (.iload_n 2, 1) := by decide +kernel
theorem dL_isArcSo_75 : decode cL_isArcSo 75 = .ok (.iconst 1, 1) := by decide +kernel
theorem dL_isArcSo_76 : decode cL_isArcSo 76 = .ok (.iadd, 1) := by decide +kernel
theorem dL_isArcSo_77 : decode cL_isArcSo 77 = .ok (.invokestatic 69, 3) := by decide +kernel
theorem dL_isArcSo_80 : decode cL_isArcSo 80 = .ok (.ldc 16, 2) := by decide +kernel
theorem dL_isArcSo_82 : decode cL_isArcSo 82 = .ok (.if_icmp .ne 7, 3) := by decide +kernel
theorem dL_isArcSo_85 : decode cL_isArcSo 85 = .ok (.iconst 1, 1) := by decide +kernel
theorem dL_isArcSo_86 : decode cL_isArcSo 86 = .ok (.goto 4, 3) := by decide +kernel
theorem dL_isArcSo_89 : decode cL_isArcSo 89 = .ok (.iconst 0, 1) := by decide +kernel
theorem dL_isArcSo_90 : decode cL_isArcSo 90 = .ok (.ireturn, 1) := by decide +kernel
set_option maxRecDepth 20000 in
theorem ggL_sumOf_X4_price : GoodIn wsL_sumOf wsX4_price := goodIn_ca (goodIn_r _ [5, 6, 7, 8, 9, 10, 11, 12, 4, 13, 14, 15, 16, 17, 18, 19, 20, 21, 22, 23, 24, 25, 26, 27, 28, 29, 30, 31, 32, 33, 34, 35, 36] (by decide +kernel) (by decide +kernel)) (goodIn_sub (fun _ h => List.mem_cons_of_mem _ (List.mem_append_right _ h)) (by decide +kernel))
set_option maxRecDepth 20000 in
theorem gL_sumOf_X4_price : GoodIn wsL_sumOf (wsV RL 29 RX4 yX4_price wsX4_price) := goodIn_app (goodIn_of _ (by decide +kernel)) ggL_sumOf_X4_price
theorem dL_sumOf_0 : decode cL_sumOf 0 = .ok (.iconst 0, 1) := by decide +kernel
theorem dL_sumOf_1 : decode cL_sumOf 1 = .ok (.istore_n 3, 1) := by decide +kernel
theorem dL_sumOf_2 : decode cL_sumOf 2 = .ok (.iconst 1, 1) := by decide +kernel
theorem dL_sumOf_3 : decode cL_sumOf 3 = .ok (.istore 4, 2) := by decide +kernel
theorem dL_sumOf_5 : decode cL_sumOf 5 = .ok (.iload 4, 2) := by decide +kernel
theorem dL_sumOf_7 : decode cL_sumOf 7 = .ok (.iload_n 2, 1) := by decide +kernel
theorem dL_sumOf_8 : decode cL_sumOf 8 = .ok (.if_icmp .gt 19, 3) := by decide +kernel
theorem dL_sumOf_11 : decode cL_sumOf 11 = .ok (.iload_n 3, 1) := by decide +kernel
theorem dL_sumOf_12 : decode cL_sumOf 12 = .ok (.aload_n 0, 1) := by decide +kernel
theorem dL_sumOf_13 : decode cL_sumOf 13 = .ok (.iload_n 1, 1) := by decide +kernel
theorem dL_sumOf_14 : decode cL_sumOf 14 = .ok (.iload 4, 2) := by decide +kernel
theorem dL_sumOf_16 : decode cL_sumOf 16 = .ok (.invokevirtual 29, 3) := by decide +kernel
theorem dL_sumOf_19 : decode cL_sumOf 19 = .ok (.iadd, 1) := by decide +kernel
theorem dL_sumOf_20 : decode cL_sumOf 20 = .ok (.istore_n 3, 1) := by decide +kernel
theorem dL_sumOf_21 : decode cL_sumOf 21 = .ok (.iinc 4 1, 3) := by decide +kernel
theorem dL_sumOf_24 : decode cL_sumOf 24 = .ok (.goto (-19), 3) := by decide +kernel
theorem dL_sumOf_27 : decode cL_sumOf 27 = .ok (.iload_n 3, 1) := by decide +kernel
theorem dL_sumOf_28 : decode cL_sumOf 28 = .ok (.ireturn, 1) := by decide +kernel
set_option maxRecDepth 20000 in
theorem ggL_areFlowsSo_X4_cost : GoodIn wsL_areFlowsSo wsX4_cost := goodIn_r _ [5, 6, 7, 8, 9, 10, 11, 12, 13, 14, 15, 16, 17, 18, 19, 20, 21, 22, 23, 24, 25, 26, 27, 28, 29, 30, 31, 32, 33, 34, 35, 36, 37, 38, 39, 40, 41, 42, 43, 44, 45, 46, 47, 48, 49, 50, 51, 52, 53, 54, 55, 56, 57, 58, 59, 60, 61, 62, 63, 64, 65, 66, 67, 68, 69, 70, 71, 72, 73, 74, 75, 76, 77, 78, 79, 80, 81, 82, 83, 84, 85, 86, 87, 88, 89, 90, 91, 92, 93, 94, 95, 280, 281, 282, 283, 284, 285, 286, 287, 288, 289, 290, 291, 292, 293, 294, 295, 296, 297, 298, 299] (by decide +kernel) (by decide +kernel)
set_option maxRecDepth 20000 in
theorem gL_areFlowsSo_X4_cost : GoodIn wsL_areFlowsSo (wsV RL 53 RX4 yX4_cost wsX4_cost) := goodIn_app (goodIn_of _ (by decide +kernel)) ggL_areFlowsSo_X4_cost
set_option maxRecDepth 20000 in
theorem ggL_areFlowsSo_X4_driven : GoodIn wsL_areFlowsSo wsX4_driven := goodIn_r _ [99, 100, 7, 8, 9, 101, 102, 103, 104, 105, 106, 107, 108, 109, 110, 111, 112, 113, 114, 115, 116, 117, 118, 119, 120, 121, 122, 123, 124, 125, 126, 127, 128, 129, 130, 131, 132, 74, 75, 40, 76, 77, 78, 79, 133, 134, 135, 136, 137, 138, 139, 140, 280, 281, 282, 283, 284, 285, 286, 300, 301, 302, 303, 304, 305, 293, 294, 295, 296, 297, 298, 299] (by decide +kernel) (by decide +kernel)
set_option maxRecDepth 20000 in
theorem gL_areFlowsSo_X4_driven : GoodIn wsL_areFlowsSo (wsV RL 56 RX4 yX4_driven wsX4_driven) := goodIn_app (goodIn_of _ (by decide +kernel)) ggL_areFlowsSo_X4_driven
set_option maxRecDepth 20000 in
theorem ggL_areFlowsSo_X4_arcs : GoodIn wsL_areFlowsSo wsX4_arcs := goodIn_r _ [144, 145, 146, 280, 281, 282, 283, 284, 285, 286, 293, 294, 295, 296, 297, 298, 299] (by decide +kernel) (by decide +kernel)
set_option maxRecDepth 20000 in
theorem gL_areFlowsSo_X4_arcs : GoodIn wsL_areFlowsSo (wsV RL 45 RX4 yX4_arcs wsX4_arcs) := goodIn_app (goodIn_of _ (by decide +kernel)) ggL_areFlowsSo_X4_arcs
set_option maxRecDepth 20000 in
theorem ggL_areFlowsSo_X4_flow : GoodIn wsL_areFlowsSo wsX4_flow := goodIn_ca (goodIn_r _ [150, 6, 7, 8, 9, 151, 152, 153, 4, 154, 155, 156, 145, 146, 10, 11, 12, 13, 14, 15, 16, 17, 18, 19, 20, 21, 22, 23, 24, 25, 26, 27, 28, 29, 30, 31, 32, 33, 34, 35, 36, 37, 38, 39, 40, 41, 42, 43, 44, 45, 46, 47, 48, 49, 50, 51, 52, 53, 54, 55, 56, 57, 58, 59, 60, 61, 62, 63, 64, 65, 66, 67, 68, 69, 70, 71, 72, 73, 74, 75, 76, 77, 78, 79, 80, 81, 82, 83, 84, 85, 86, 87, 88, 89, 90, 91, 157, 158, 159, 160, 161, 162, 163, 164, 165, 166, 167, 168, 169, 170, 171, 172, 173, 174, 175, 176, 177, 178, 179, 180, 181, 182, 183, 184, 185, 186, 280, 281, 282, 283, 284, 285, 286, 293, 294, 295, 296, 297, 298, 299, 287, 288, 289, 290, 291, 292] (by decide +kernel) (by decide +kernel)) (goodIn_sub (fun _ h => List.mem_cons_of_mem _ (List.mem_append_right _ h)) (by decide +kernel))
set_option maxRecDepth 20000 in
theorem gL_areFlowsSo_X4_flow : GoodIn wsL_areFlowsSo (wsV RL 72 RX4 yX4_flow wsX4_flow) := goodIn_app (goodIn_of _ (by decide +kernel)) ggL_areFlowsSo_X4_flow
set_option maxRecDepth 20000 in
theorem ggL_areFlowsSo_X4_leastOn : GoodIn wsL_areFlowsSo wsX4_leastOn := goodIn_ca (goodIn_r _ [190, 6, 7, 8, 9, 151, 152, 153, 4, 154, 155, 156, 145, 146, 10, 11, 12, 13, 14, 15, 16, 17, 18, 19, 20, 21, 22, 23, 24, 25, 26, 27, 28, 29, 30, 31, 32, 33, 34, 35, 36, 37, 38, 39, 40, 41, 42, 43, 44, 45, 46, 47, 48, 49, 50, 51, 52, 53, 54, 55, 56, 57, 58, 59, 60, 61, 62, 63, 64, 65, 66, 67, 68, 69, 70, 71, 72, 73, 74, 75, 76, 77, 78, 79, 80, 81, 82, 83, 84, 85, 86, 87, 88, 89, 90, 91, 157, 158, 159, 160, 161, 162, 163, 164, 165, 166, 167, 168, 169, 170, 171, 172, 173, 174, 175, 176, 177, 178, 179, 180, 181, 182, 183, 184, 185, 186, 280, 281, 282, 283, 284, 285, 286, 293, 294, 295, 296, 297, 298, 299, 287, 288, 289, 290, 291, 292] (by decide +kernel) (by decide +kernel)) (goodIn_sub (fun _ h => List.mem_cons_of_mem _ (List.mem_append_right _ h)) (by decide +kernel))
set_option maxRecDepth 20000 in
theorem gL_areFlowsSo_X4_leastOn : GoodIn wsL_areFlowsSo (wsV RL 75 RX4 yX4_leastOn wsX4_leastOn) := goodIn_app (goodIn_of _ (by decide +kernel)) ggL_areFlowsSo_X4_leastOn
set_option maxRecDepth 20000 in
theorem ggL_areFlowsSo_X4_mostOn : GoodIn wsL_areFlowsSo wsX4_mostOn := goodIn_ca (goodIn_r _ [194, 6, 7, 8, 9, 151, 152, 153, 4, 154, 155, 156, 145, 146, 10, 11, 12, 13, 14, 15, 16, 17, 18, 19, 20, 21, 22, 23, 24, 25, 26, 27, 28, 29, 30, 31, 32, 33, 34, 35, 36, 37, 38, 39, 40, 41, 42, 43, 44, 45, 46, 47, 48, 49, 50, 51, 52, 53, 54, 55, 56, 57, 58, 59, 60, 61, 62, 63, 64, 65, 66, 67, 68, 69, 70, 71, 72, 73, 74, 75, 76, 77, 78, 79, 80, 81, 82, 83, 84, 85, 86, 87, 88, 89, 90, 91, 157, 158, 159, 160, 161, 162, 163, 164, 165, 166, 195, 196, 197, 198, 171, 172, 173, 174, 175, 176, 177, 178, 179, 180, 181, 182, 183, 184, 185, 186, 280, 281, 282, 283, 284, 285, 286, 293, 294, 295, 296, 297, 298, 299, 287, 288, 289, 290, 291, 292] (by decide +kernel) (by decide +kernel)) (goodIn_sub (fun _ h => List.mem_cons_of_mem _ (List.mem_append_right _ h)) (by decide +kernel))
set_option maxRecDepth 20000 in
theorem gL_areFlowsSo_X4_mostOn : GoodIn wsL_areFlowsSo (wsV RL 78 RX4 yX4_mostOn wsX4_mostOn) := goodIn_app (goodIn_of _ (by decide +kernel)) ggL_areFlowsSo_X4_mostOn
set_option maxRecDepth 20000 in
theorem ggL_areFlowsSo_X4_capacity : GoodIn wsL_areFlowsSo wsX4_capacity := goodIn_ca (goodIn_r _ [202, 145, 203, 151, 152, 153, 4, 154, 155, 156, 146, 280, 281, 282, 283, 284, 285, 286, 293, 294, 295, 296, 297, 298, 299] (by decide +kernel) (by decide +kernel)) (goodIn_sub (fun _ h => List.mem_cons_of_mem _ (List.mem_append_right _ h)) (by decide +kernel))
set_option maxRecDepth 20000 in
theorem gL_areFlowsSo_X4_capacity : GoodIn wsL_areFlowsSo (wsV RL 62 RX4 yX4_capacity wsX4_capacity) := goodIn_app (goodIn_of _ (by decide +kernel)) ggL_areFlowsSo_X4_capacity
set_option maxRecDepth 20000 in
theorem ggL_areFlowsSo_L_isArcSo : GoodIn wsL_areFlowsSo wsL_isArcSo := goodIn_ca (goodIn_r _ [207, 208, 199, 200, 201, 4, 202, 145, 203, 151, 152, 153, 154, 155, 156, 146, 209, 210, 211, 212, 213, 74, 75, 40, 76, 77, 78, 79, 214, 215, 206, 216, 217, 280, 281, 282, 283, 284, 285, 286, 293, 294, 295, 296, 297, 298, 299] (by decide +kernel) (by decide +kernel)) (goodIn_sub (fun _ h => List.mem_cons_of_mem _ (List.mem_append_right _ h)) (by decide +kernel))
set_option maxRecDepth 20000 in
theorem gL_areFlowsSo_L_isArcSo : GoodIn wsL_areFlowsSo (va_wsS RL 81 yL_isArcSo wsL_isArcSo) := goodIn_app (goodIn_of _ (by decide +kernel)) ggL_areFlowsSo_L_isArcSo
set_option maxRecDepth 20000 in
theorem ggL_areFlowsSo_X4_drivenOn : GoodIn wsL_areFlowsSo wsX4_drivenOn := goodIn_ca (goodIn_r _ [221, 100, 7, 8, 9, 222, 151, 152, 153, 4, 154, 155, 156, 145, 146, 103, 104, 105, 106, 107, 108, 109, 110, 111, 112, 113, 114, 115, 116, 117, 118, 119, 120, 121, 122, 123, 124, 125, 126, 127, 128, 129, 130, 131, 132, 74, 75, 40, 76, 77, 78, 79, 133, 134, 135, 136, 137, 138, 139, 140, 280, 281, 282, 283, 284, 285, 286, 300, 301, 302, 303, 304, 305, 293, 294, 295, 296, 297, 298, 299] (by decide +kernel) (by decide +kernel)) (goodIn_sub (fun _ h => List.mem_cons_of_mem _ (List.mem_append_right _ h)) (by decide +kernel))
set_option maxRecDepth 20000 in
theorem gL_areFlowsSo_X4_drivenOn : GoodIn wsL_areFlowsSo (wsV RL 66 RX4 yX4_drivenOn wsX4_drivenOn) := goodIn_app (goodIn_of _ (by decide +kernel)) ggL_areFlowsSo_X4_drivenOn
set_option maxRecDepth 20000 in
theorem ggL_areFlowsSo_L_sumOf : GoodIn wsL_areFlowsSo wsL_sumOf := goodIn_ca (goodIn_r _ [225, 209, 210, 211, 4, 212, 155, 156, 145, 203, 151, 152, 153, 154, 146, 213, 74, 75, 40, 76, 77, 78, 79, 280, 281, 282, 283, 284, 285, 286, 293, 294, 295, 296, 297, 298, 299] (by decide +kernel) (by decide +kernel)) (goodIn_sub (fun _ h => List.mem_cons_of_mem _ (List.mem_append_right _ h)) (by decide +kernel))
set_option maxRecDepth 20000 in
theorem gL_areFlowsSo_L_sumOf : GoodIn wsL_areFlowsSo (va_wsS RL 85 yL_sumOf wsL_sumOf) := goodIn_app (goodIn_of _ (by decide +kernel)) ggL_areFlowsSo_L_sumOf
set_option maxRecDepth 20000 in
theorem ggL_areFlowsSo_X4_lastPaid : GoodIn wsL_areFlowsSo wsX4_lastPaid := goodIn_r _ [229, 100, 7, 8, 9, 230, 103, 104, 105, 106, 107, 108, 109, 110, 111, 112, 113, 114, 115, 116, 117, 118, 119, 120, 121, 122, 123, 124, 125, 126, 127, 128, 129, 130, 131, 132, 74, 75, 40, 76, 77, 78, 79, 133, 134, 135, 136, 137, 138, 139, 140, 280, 281, 282, 283, 284, 285, 286, 300, 301, 302, 303, 304, 305, 293, 294, 295, 296, 297, 298, 299] (by decide +kernel) (by decide +kernel)
set_option maxRecDepth 20000 in
theorem gL_areFlowsSo_X4_lastPaid : GoodIn wsL_areFlowsSo (wsV RL 88 RX4 yX4_lastPaid wsX4_lastPaid) := goodIn_app (goodIn_of _ (by decide +kernel)) ggL_areFlowsSo_X4_lastPaid
set_option maxRecDepth 20000 in
theorem ggL_areFlowsSo_X4_costByCircles : GoodIn wsL_areFlowsSo wsX4_costByCircles := goodIn_r _ [234, 235, 7, 8, 9, 236, 237, 238, 239, 240, 241, 242, 243, 244, 245, 246, 247, 248, 249, 250, 251, 252, 253, 254, 255, 256, 257, 258, 259, 74, 75, 40, 76, 77, 78, 79, 260, 261, 262, 263, 264, 265, 266, 267, 268, 269, 270, 271, 272, 273, 274, 275, 276, 277, 278, 279, 280, 281, 282, 283, 284, 285, 286, 306, 307, 308, 309, 293, 294, 295, 296, 297, 298, 299] (by decide +kernel) (by decide +kernel)
set_option maxRecDepth 20000 in
theorem gL_areFlowsSo_X4_costByCircles : GoodIn wsL_areFlowsSo (wsV RL 91 RX4 yX4_costByCircles wsX4_costByCircles) := goodIn_app (goodIn_of _ (by decide +kernel)) ggL_areFlowsSo_X4_costByCircles
theorem dL_areFlowsSo_0 : decode cL_areFlowsSo 0 = .ok (.aload_n 0, 1) := by decide +kernel
theorem dL_areFlowsSo_1 : decode cL_areFlowsSo 1 = .ok (.invokevirtual 53, 3) := by decide +kernel
theorem dL_areFlowsSo_4 : decode cL_areFlowsSo 4 = .ok (.istore_n 1, 1) := by decide +kernel
theorem dL_areFlowsSo_5 : decode cL_areFlowsSo 5 = .ok (.aload_n 0, 1) := by decide +kernel
theorem dL_areFlowsSo_6 : decode cL_areFlowsSo 6 = .ok (.invokevirtual 56, 3) := by decide +kernel
theorem dL_areFlowsSo_9 : decode cL_areFlowsSo 9 = .ok (.istore_n 2, 1) := by decide +kernel
theorem dL_areFlowsSo_10 : decode cL_areFlowsSo 10 = .ok (.iconst 0, 1) := by decide +kernel
theorem dL_areFlowsSo_11 : decode cL_areFlowsSo 11 = .ok (.istore_n 3, 1) := by decide +kernel
theorem dL_areFlowsSo_12 : decode cL_areFlowsSo 12 = .ok (.iconst 0, 1) := by decide +kernel
theorem dL_areFlowsSo_13 : decode cL_areFlowsSo 13 = .ok (.istore 4, 2) := by decide +kernel
theorem dL_areFlowsSo_15 : decode cL_areFlowsSo 15 = .ok (.iload 4, 2) := by decide +kernel
theorem dL_areFlowsSo_17 : decode cL_areFlowsSo 17 = .ok (.aload_n 0, 1) := by decide +kernel
theorem dL_areFlowsSo_18 : decode cL_areFlowsSo 18 = .ok (.invokevirtual 45, 3) := by decide +kernel
theorem dL_areFlowsSo_21 : decode cL_areFlowsSo 21 = .ok (.if_icmp .ge 175, 3) := by decide +kernel
theorem dL_areFlowsSo_24 : decode cL_areFlowsSo 24 = .ok (.aload_n 0, 1) := by decide +kernel
theorem dL_areFlowsSo_25 : decode cL_areFlowsSo 25 = .ok (.iload 4, 2) := by decide +kernel
theorem dL_areFlowsSo_27 : decode cL_areFlowsSo 27 = .ok (.invokevirtual 72, 3) := by decide +kernel
theorem dL_areFlowsSo_30 : decode cL_areFlowsSo 30 = .ok (.istore 5, 2) := by decide +kernel
theorem dL_areFlowsSo_32 : decode cL_areFlowsSo 32 = .ok (.aload_n 0, 1) := by decide +kernel
theorem dL_areFlowsSo_33 : decode cL_areFlowsSo 33 = .ok (.iload 4, 2) := by decide +kernel
theorem dL_areFlowsSo_35 : decode cL_areFlowsSo 35 = .ok (.invokevirtual 75, 3) := by decide +kernel
theorem dL_areFlowsSo_38 : decode cL_areFlowsSo 38 = .ok (.istore 6, 2) := by decide +kernel
theorem dL_areFlowsSo_40 : decode cL_areFlowsSo 40 = .ok (.aload_n 0, 1) := by decide +kernel
theorem dL_areFlowsSo_41 : decode cL_areFlowsSo 41 = .ok (.iload 4, 2) := by decide +kernel
theorem dL_areFlowsSo_43 : decode cL_areFlowsSo 43 = .ok (.invokevirtual 78, 3) := by decide +kernel
theorem dL_areFlowsSo_46 : decode cL_areFlowsSo 46 = .ok (.istore 7, 2) := by decide +kernel
theorem dL_areFlowsSo_48 : decode cL_areFlowsSo 48 = .ok (.iload_n 1, 1) := by decide +kernel
theorem dL_areFlowsSo_49 : decode cL_areFlowsSo 49 = .ok (.ifCond .ge 29, 3) := by decide +kernel
theorem dL_areFlowsSo_52 : decode cL_areFlowsSo 52 = .ok (.iload 5, 2) := by decide +kernel
theorem dL_areFlowsSo_54 : decode cL_areFlowsSo 54 = .ok (.iconst (-1), 1) := by decide +kernel
theorem dL_areFlowsSo_55 : decode cL_areFlowsSo 55 = .ok (.if_icmp .ne 19, 3) := by decide +kernel
theorem dL_areFlowsSo_58 : decode cL_areFlowsSo 58 = .ok (.iload 6, 2) := by decide +kernel
theorem dL_areFlowsSo_60 : decode cL_areFlowsSo 60 = .ok (.iconst (-1), 1) := by decide +kernel
theorem dL_areFlowsSo_61 : decode cL_areFlowsSo 61 = .ok (.if_icmp .ne 13, 3) := by decide +kernel
theorem dL_areFlowsSo_64 : decode cL_areFlowsSo 64 = .ok (.iload 7, 2) := by decide +kernel
theorem dL_areFlowsSo_66 : decode cL_areFlowsSo 66 = .ok (.iconst (-1), 1) := by decide +kernel
theorem dL_areFlowsSo_67 : decode cL_areFlowsSo 67 = .ok (.if_icmp .ne 7, 3) := by decide +kernel
theorem dL_areFlowsSo_70 : decode cL_areFlowsSo 70 = .ok (.iconst 1, 1) := by decide +kernel
theorem dL_areFlowsSo_71 : decode cL_areFlowsSo 71 = .ok (.goto 42, 3) := by decide +kernel
theorem dL_areFlowsSo_74 : decode cL_areFlowsSo 74 = .ok (.iconst 0, 1) := by decide +kernel
theorem dL_areFlowsSo_75 : decode cL_areFlowsSo 75 = .ok (.goto 38, 3) := by decide +kernel
theorem dL_areFlowsSo_78 : decode cL_areFlowsSo 78 = .ok (.iload 6, 2) := by decide +kernel
theorem dL_areFlowsSo_80 : decode cL_areFlowsSo 80 = .ok (.ifCond .lt 32, 3) := by decide +kernel
theorem dL_areFlowsSo_83 : decode cL_areFlowsSo 83 = .ok (.iload 6, 2) := by decide +kernel
theorem dL_areFlowsSo_85 : decode cL_areFlowsSo 85 = .ok (.iload 5, 2) := by decide +kernel
theorem dL_areFlowsSo_87 : decode cL_areFlowsSo 87 = .ok (.if_icmp .gt 25, 3) := by decide +kernel
theorem dL_areFlowsSo_90 : decode cL_areFlowsSo 90 = .ok (.iload 5, 2) := by decide +kernel
theorem dL_areFlowsSo_92 : decode cL_areFlowsSo 92 = .ok (.iload 7, 2) := by decide +kernel
theorem dL_areFlowsSo_94 : decode cL_areFlowsSo 94 = .ok (.if_icmp .gt 18, 3) := by decide +kernel
theorem dL_areFlowsSo_97 : decode cL_areFlowsSo 97 = .ok (.iload 7, 2) := by decide +kernel
theorem dL_areFlowsSo_99 : decode cL_areFlowsSo 99 = .ok (.aload_n 0, 1) := by decide +kernel
theorem dL_areFlowsSo_100 : decode cL_areFlowsSo 100 = .ok (.iload 4, 2) := by decide +kernel
theorem dL_areFlowsSo_102 : decode cL_areFlowsSo 102 = .ok (.invokevirtual 62, 3) := by decide +kernel
theorem dL_areFlowsSo_105 : decode cL_areFlowsSo 105 = .ok (.if_icmp .gt 7, 3) := by decide +kernel
theorem dL_areFlowsSo_108 : decode cL_areFlowsSo 108 = .ok (.iconst 1, 1) := by decide +kernel
theorem dL_areFlowsSo_109 : decode cL_areFlowsSo 109 = .ok (.goto 4, 3) := by decide +kernel
theorem dL_areFlowsSo_112 : decode cL_areFlowsSo 112 = .ok (.iconst 0, 1) := by decide +kernel
theorem dL_areFlowsSo_113 : decode cL_areFlowsSo 113 = .ok (.istore 8, 2) := by decide +kernel
theorem dL_areFlowsSo_115 : decode cL_areFlowsSo 115 = .ok (.iload 8, 2) := by decide +kernel
theorem dL_areFlowsSo_117 : decode cL_areFlowsSo 117 = .ok (.ifCond .eq 52, 3) := by decide +kernel
theorem dL_areFlowsSo_120 : decode cL_areFlowsSo 120 = .ok (.aload_n 0, 1) := by decide +kernel
theorem dL_areFlowsSo_121 : decode cL_areFlowsSo 121 = .ok (.iload 4, 2) := by decide +kernel
theorem dL_areFlowsSo_123 : decode cL_areFlowsSo 123 = .ok (.invokestatic 81, 3) := by decide +kernel
theorem dL_areFlowsSo_126 : decode cL_areFlowsSo 126 = .ok (.ifCond .eq 43, 3) := by decide +kernel
theorem dL_areFlowsSo_129 : decode cL_areFlowsSo 129 = .ok (.aload_n 0, 1) := by decide +kernel
theorem dL_areFlowsSo_130 : decode cL_areFlowsSo 130 = .ok (.iload 4, 2) := by decide +kernel
theorem dL_areFlowsSo_132 : decode cL_areFlowsSo 132 = .ok (.invokevirtual 66, 3) := by decide +kernel
theorem dL_areFlowsSo_135 : decode cL_areFlowsSo 135 = .ok (.ifCond .lt 34, 3) := by decide +kernel
theorem dL_areFlowsSo_138 : decode cL_areFlowsSo 138 = .ok (.aload_n 0, 1) := by decide +kernel
theorem dL_areFlowsSo_139 : decode cL_areFlowsSo 139 = .ok (.iload 4, 2) := by decide +kernel
theorem dL_areFlowsSo_141 : decode cL_areFlowsSo 141 = .ok (.invokevirtual 66, 3) := by decide +kernel
theorem dL_areFlowsSo_144 : decode cL_areFlowsSo 144 = .ok (.aload_n 0, 1) := by decide +kernel
theorem dL_areFlowsSo_145 : decode cL_areFlowsSo 145 = .ok (.iload 4, 2) := by decide +kernel
theorem dL_areFlowsSo_147 : decode cL_areFlowsSo 147 = .ok (.invokevirtual 62, 3) := by decide +kernel
theorem dL_areFlowsSo_150 : decode cL_areFlowsSo 150 = .ok (.if_icmp .gt 19, 3) := by decide +kernel
theorem dL_areFlowsSo_153 : decode cL_areFlowsSo 153 = .ok (.iload_n 1, 1) := by decide +kernel
theorem dL_areFlowsSo_154 : decode cL_areFlowsSo 154 = .ok (.ifCond .lt 17, 3) := by decide +kernel
theorem dL_areFlowsSo_157 : decode cL_areFlowsSo 157 = .ok (.iload 4, 2) := by decide +kernel
theorem dL_areFlowsSo_159 : decode cL_areFlowsSo 159 = .ok (.ifCond .ne 12, 3) := by decide +kernel
theorem dL_areFlowsSo_162 : decode cL_areFlowsSo 162 = .ok (.iload 5, 2) := by decide +kernel
theorem dL_areFlowsSo_164 : decode cL_areFlowsSo 164 = .ok (.iload 6, 2) := by decide +kernel
theorem dL_areFlowsSo_166 : decode cL_areFlowsSo 166 = .ok (.if_icmp .eq 5, 3) := by decide +kernel
theorem dL_areFlowsSo_169 : decode cL_areFlowsSo 169 = .ok (.iconst 0, 1) := by decide +kernel
theorem dL_areFlowsSo_170 : decode cL_areFlowsSo 170 = .ok (.ireturn, 1) := by decide +kernel
theorem dL_areFlowsSo_171 : decode cL_areFlowsSo 171 = .ok (.iload_n 3, 1) := by decide +kernel
theorem dL_areFlowsSo_172 : decode cL_areFlowsSo 172 = .ok (.iload_n 1, 1) := by decide +kernel
theorem dL_areFlowsSo_173 : decode cL_areFlowsSo 173 = .ok (.ifCond .ge 7, 3) := by decide +kernel
theorem dL_areFlowsSo_176 : decode cL_areFlowsSo 176 = .ok (.iconst 0, 1) := by decide +kernel
theorem dL_areFlowsSo_177 : decode cL_areFlowsSo 177 = .ok (.goto 11, 3) := by decide +kernel
theorem dL_areFlowsSo_180 : decode cL_areFlowsSo 180 = .ok (.aload_n 0, 1) := by decide +kernel
theorem dL_areFlowsSo_181 : decode cL_areFlowsSo 181 = .ok (.iload 4, 2) := by decide +kernel
theorem dL_areFlowsSo_183 : decode cL_areFlowsSo 183 = .ok (.iload 5, 2) := by decide +kernel
theorem dL_areFlowsSo_185 : decode cL_areFlowsSo 185 = .ok (.invokestatic 85, 3) := by decide +kernel
theorem dL_areFlowsSo_188 : decode cL_areFlowsSo 188 = .ok (.iadd, 1) := by decide +kernel
theorem dL_areFlowsSo_189 : decode cL_areFlowsSo 189 = .ok (.istore_n 3, 1) := by decide +kernel
theorem dL_areFlowsSo_190 : decode cL_areFlowsSo 190 = .ok (.iinc 4 1, 3) := by decide +kernel
theorem dL_areFlowsSo_193 : decode cL_areFlowsSo 193 = .ok (.goto (-178), 3) := by decide +kernel
theorem dL_areFlowsSo_196 : decode cL_areFlowsSo 196 = .ok (.aload_n 0, 1) := by decide +kernel
theorem dL_areFlowsSo_197 : decode cL_areFlowsSo 197 = .ok (.invokevirtual 88, 3) := by decide +kernel
theorem dL_areFlowsSo_200 : decode cL_areFlowsSo 200 = .ok (.istore 4, 2) := by decide +kernel
theorem dL_areFlowsSo_202 : decode cL_areFlowsSo 202 = .ok (.aload_n 0, 1) := by decide +kernel
theorem dL_areFlowsSo_203 : decode cL_areFlowsSo 203 = .ok (.invokevirtual 91, 3) := by decide +kernel
theorem dL_areFlowsSo_206 : decode cL_areFlowsSo 206 = .ok (.iload_n 1, 1) := by decide +kernel
theorem dL_areFlowsSo_207 : decode cL_areFlowsSo 207 = .ok (.if_icmp .ne 50, 3) := by decide +kernel
theorem dL_areFlowsSo_210 : decode cL_areFlowsSo 210 = .ok (.iload_n 1, 1) := by decide +kernel
theorem dL_areFlowsSo_211 : decode cL_areFlowsSo 211 = .ok (.ifCond .lt 8, 3) := by decide +kernel
theorem dL_areFlowsSo_214 : decode cL_areFlowsSo 214 = .ok (.iload_n 3, 1) := by decide +kernel
theorem dL_areFlowsSo_215 : decode cL_areFlowsSo 215 = .ok (.iload_n 1, 1) := by decide +kernel
theorem dL_areFlowsSo_216 : decode cL_areFlowsSo 216 = .ok (.if_icmp .ne 41, 3) := by decide +kernel
theorem dL_areFlowsSo_219 : decode cL_areFlowsSo 219 = .ok (.iload_n 2, 1) := by decide +kernel
theorem dL_areFlowsSo_220 : decode cL_areFlowsSo 220 = .ok (.ifCond .lt 12, 3) := by decide +kernel
theorem dL_areFlowsSo_223 : decode cL_areFlowsSo 223 = .ok (.iload_n 1, 1) := by decide +kernel
theorem dL_areFlowsSo_224 : decode cL_areFlowsSo 224 = .ok (.ifCond .lt 33, 3) := by decide +kernel
theorem dL_areFlowsSo_227 : decode cL_areFlowsSo 227 = .ok (.iload_n 2, 1) := by decide +kernel
theorem dL_areFlowsSo_228 : decode cL_areFlowsSo 228 = .ok (.iload_n 1, 1) := by decide +kernel
theorem dL_areFlowsSo_229 : decode cL_areFlowsSo 229 = .ok (.if_icmp .lt 28, 3) := by decide +kernel
theorem dL_areFlowsSo_232 : decode cL_areFlowsSo 232 = .ok (.iload 4, 2) := by decide +kernel
theorem dL_areFlowsSo_234 : decode cL_areFlowsSo 234 = .ok (.iconst (-1), 1) := by decide +kernel
theorem dL_areFlowsSo_235 : decode cL_areFlowsSo 235 = .ok (.if_icmp .lt 22, 3) := by decide +kernel
theorem dL_areFlowsSo_238 : decode cL_areFlowsSo 238 = .ok (.iload 4, 2) := by decide +kernel
theorem dL_areFlowsSo_240 : decode cL_areFlowsSo 240 = .ok (.ifCond .lt 13, 3) := by decide +kernel
theorem dL_areFlowsSo_243 : decode cL_areFlowsSo 243 = .ok (.iload_n 2, 1) := by decide +kernel
theorem dL_areFlowsSo_244 : decode cL_areFlowsSo 244 = .ok (.ifCond .lt 9, 3) := by decide +kernel
theorem dL_areFlowsSo_247 : decode cL_areFlowsSo 247 = .ok (.iload_n 2, 1) := by decide +kernel
theorem dL_areFlowsSo_248 : decode cL_areFlowsSo 248 = .ok (.iload 4, 2) := by decide +kernel
theorem dL_areFlowsSo_250 : decode cL_areFlowsSo 250 = .ok (.if_icmp .lt 7, 3) := by decide +kernel
theorem dL_areFlowsSo_253 : decode cL_areFlowsSo 253 = .ok (.iconst 1, 1) := by decide +kernel
theorem dL_areFlowsSo_254 : decode cL_areFlowsSo 254 = .ok (.goto 4, 3) := by decide +kernel
theorem dL_areFlowsSo_257 : decode cL_areFlowsSo 257 = .ok (.iconst 0, 1) := by decide +kernel
theorem dL_areFlowsSo_258 : decode cL_areFlowsSo 258 = .ok (.ireturn, 1) := by decide +kernel
set_option maxRecDepth 20000 in
theorem ggL_isMoreSo_X4_more : GoodIn wsL_isMoreSo wsX4_more := goodIn_ca (goodIn_r _ [5, 6, 7, 8, 9, 10, 11, 12, 4, 13, 14, 15, 16, 17, 18, 19, 20, 21, 22, 23, 24, 25, 26, 27, 28, 29, 30, 31, 32, 33, 34, 35, 36, 37, 38, 39, 40, 41, 42, 43, 44, 45, 46, 47, 48, 49, 50, 51, 52, 53, 54, 55, 56, 57, 58, 59, 60, 61, 62, 63, 64, 65, 66, 67, 68, 69, 70, 71, 72, 73, 74, 75, 76, 77, 78, 79, 80, 81, 82, 83, 84, 85, 86, 87, 88, 89, 90, 91, 92, 93, 94, 95, 96, 97, 98, 99, 100, 101, 102, 103, 112, 113, 114, 115, 116, 117, 118, 119, 120, 121, 122, 123, 124, 125, 126, 127, 128, 129, 130, 131] (by decide +kernel) (by decide +kernel)) (goodIn_sub (fun _ h => List.mem_cons_of_mem _ (List.mem_append_right _ h)) (by decide +kernel))
set_option maxRecDepth 20000 in
theorem gL_isMoreSo_X4_more : GoodIn wsL_isMoreSo (wsV RL 94 RX4 yX4_more wsX4_more) := goodIn_app (goodIn_of _ (by decide +kernel)) ggL_isMoreSo_X4_more
set_option maxRecDepth 20000 in
theorem ggL_isMoreSo_X4_cost : GoodIn wsL_isMoreSo wsX4_cost := goodIn_r _ [107, 6, 7, 8, 9, 18, 19, 20, 21, 22, 23, 24, 25, 26, 27, 28, 29, 30, 31, 32, 33, 34, 35, 36, 37, 38, 39, 40, 41, 42, 43, 44, 45, 46, 47, 48, 49, 50, 51, 52, 53, 54, 55, 56, 57, 58, 59, 60, 61, 62, 63, 64, 65, 66, 67, 68, 69, 70, 71, 72, 73, 74, 75, 76, 77, 78, 79, 80, 81, 82, 83, 84, 85, 86, 87, 88, 89, 90, 91, 92, 93, 94, 95, 96, 97, 98, 99, 108, 109, 110, 111, 112, 113, 114, 115, 116, 117, 118, 126, 127, 128, 129, 130, 131, 119, 120, 121, 122, 123, 124, 125] (by decide +kernel) (by decide +kernel)
set_option maxRecDepth 20000 in
theorem gL_isMoreSo_X4_cost : GoodIn wsL_isMoreSo (wsV RL 53 RX4 yX4_cost wsX4_cost) := goodIn_app (goodIn_of _ (by decide +kernel)) ggL_isMoreSo_X4_cost
theorem dL_isMoreSo_0 : decode cL_isMoreSo 0 = .ok (.aload_n 0, 1) := by decide +kernel
theorem dL_isMoreSo_1 : decode cL_isMoreSo 1 = .ok (.iload_n 1, 1) := by decide +kernel
theorem dL_isMoreSo_2 : decode cL_isMoreSo 2 = .ok (.invokevirtual 94, 3) := by decide +kernel
theorem dL_isMoreSo_5 : decode cL_isMoreSo 5 = .ok (.istore_n 2, 1) := by decide +kernel
theorem dL_isMoreSo_6 : decode cL_isMoreSo 6 = .ok (.aload_n 0, 1) := by decide +kernel
theorem dL_isMoreSo_7 : decode cL_isMoreSo 7 = .ok (.invokevirtual 53, 3) := by decide +kernel
theorem dL_isMoreSo_10 : decode cL_isMoreSo 10 = .ok (.ifCond .ge 16, 3) := by decide +kernel
theorem dL_isMoreSo_13 : decode cL_isMoreSo 13 = .ok (.iload_n 2, 1) := by decide +kernel
theorem dL_isMoreSo_14 : decode cL_isMoreSo 14 = .ok (.iconst (-1), 1) := by decide +kernel
theorem dL_isMoreSo_15 : decode cL_isMoreSo 15 = .ok (.if_icmp .ne 7, 3) := by decide +kernel
theorem dL_isMoreSo_18 : decode cL_isMoreSo 18 = .ok (.iconst 1, 1) := by decide +kernel
theorem dL_isMoreSo_19 : decode cL_isMoreSo 19 = .ok (.goto 17, 3) := by decide +kernel
theorem dL_isMoreSo_22 : decode cL_isMoreSo 22 = .ok (.iconst 0, 1) := by decide +kernel
theorem dL_isMoreSo_23 : decode cL_isMoreSo 23 = .ok (.goto 13, 3) := by decide +kernel
theorem dL_isMoreSo_26 : decode cL_isMoreSo 26 = .ok (.iload_n 2, 1) := by decide +kernel
theorem dL_isMoreSo_27 : decode cL_isMoreSo 27 = .ok (.iconst (-1), 1) := by decide +kernel
theorem dL_isMoreSo_28 : decode cL_isMoreSo 28 = .ok (.if_icmp .lt 7, 3) := by decide +kernel
theorem dL_isMoreSo_31 : decode cL_isMoreSo 31 = .ok (.iconst 1, 1) := by decide +kernel
theorem dL_isMoreSo_32 : decode cL_isMoreSo 32 = .ok (.goto 4, 3) := by decide +kernel
theorem dL_isMoreSo_35 : decode cL_isMoreSo 35 = .ok (.iconst 0, 1) := by decide +kernel
theorem dL_isMoreSo_36 : decode cL_isMoreSo 36 = .ok (.ireturn, 1) := by decide +kernel
