theorem gi_app {big a b : List Cond} (ha : GoodIn big a) (hb : GoodIn big b) : GoodIn big (a ++ b) := fun w h => (List.mem_append.mp h).elim (ha w) (hb w)
theorem gi_cons {big a : List Cond} {c : Cond} (hc : GoodIn big [c]) (ha : GoodIn big a) : GoodIn big (c :: a) := fun w h => (List.mem_cons.mp h).elim (fun e => hc w (by rw [e]; exact List.mem_cons_self)) (ha w)
theorem inlX0 : ∀ w ∈ wsX00, w ∈ wsL_law := fun _ h => List.mem_append_left _ (List.mem_append_left _ (List.mem_append_left _ (List.mem_append_left _ (List.mem_append_left _ (List.mem_append_left _ (List.mem_append_right _ h))))))
theorem inlX1 : ∀ w ∈ wsX10, w ∈ wsL_law := fun _ h => List.mem_append_left _ (List.mem_append_left _ (List.mem_append_left _ (List.mem_append_left _ (List.mem_append_right _ h))))
theorem inlX2 : ∀ w ∈ wsX20, w ∈ wsL_law := fun _ h => List.mem_append_left _ (List.mem_append_left _ (List.mem_append_left _ (List.mem_append_left _ (List.mem_append_left _ (List.mem_append_left _ (List.mem_append_left _ (List.mem_append_right _ h)))))))
theorem inlX3 : ∀ w ∈ wsX30, w ∈ wsL_law := fun _ h => List.mem_append_left _ (List.mem_append_left _ (List.mem_append_left _ (List.mem_append_left _ (List.mem_append_left _ (List.mem_append_right _ h)))))
theorem inlX4 : ∀ w ∈ wsX40, w ∈ wsL_law := fun _ h => List.mem_append_left _ (List.mem_append_left _ (List.mem_append_left _ (List.mem_append_left _ (List.mem_append_left _ (List.mem_append_left _ (List.mem_append_left _ (List.mem_append_left _ (List.mem_append_right _ h))))))))
set_option maxRecDepth 20000 in
theorem gf_1 : GoodIn wsL_law wsL_areFlowsSo_r1 := goodIn_r _ [162, 163, 164, 2, 165, 35, 18, 19, 20, 166, 167, 168, 34, 169, 170, 171, 172, 173, 65, 174, 60, 61, 62, 175] (by decide +kernel) (by decide +kernel)
set_option maxRecDepth 20000 in
theorem gf_2 : GoodIn wsL_law wsL_areFlowsSo_r2 := goodIn_r _ [176, 177, 178, 179, 180, 63, 181, 64, 182, 183, 184, 185, 186, 187, 188, 23, 189, 48, 190, 191, 192, 193, 194, 195] (by decide +kernel) (by decide +kernel)
set_option maxRecDepth 20000 in
theorem gf_3 : GoodIn wsL_law wsL_areFlowsSo_r3 := goodIn_r _ [196, 197, 50, 51, 198, 199, 200, 201, 202, 203, 204, 205, 206, 207, 208, 209, 210, 211, 212, 213, 214, 215, 216, 217] (by decide +kernel) (by decide +kernel)
set_option maxRecDepth 20000 in
theorem gf_4 : GoodIn wsL_law wsL_areFlowsSo_r4 := goodIn_r _ [218, 139, 140, 141, 53, 142, 54, 219, 220, 221, 222, 223, 25, 26, 27, 224, 225, 226, 227, 228, 229, 230, 231, 232] (by decide +kernel) (by decide +kernel)
set_option maxRecDepth 20000 in
theorem gf_5 : GoodIn wsL_law wsL_areFlowsSo_r5 := goodIn_r _ [233, 234, 235, 43, 236, 237, 238, 239, 240, 42, 241, 84, 242, 79, 81, 82, 83, 80, 243, 244, 245, 246, 247, 248] (by decide +kernel) (by decide +kernel)
set_option maxRecDepth 20000 in
theorem gf_6 : GoodIn wsL_law wsL_areFlowsSo_r6 := goodIn_r _ [249, 250, 251, 252, 253, 254, 255, 256, 257, 258, 259, 260, 261, 262, 263, 264, 265, 266, 267, 268, 110, 111, 112, 113] (by decide +kernel) (by decide +kernel)
set_option maxRecDepth 20000 in
theorem gf_7 : GoodIn wsL_law wsL_areFlowsSo_r7 := goodIn_r _ [31, 114, 312, 313, 314, 315, 127, 128, 129, 130, 108, 109, 316, 317, 318, 319, 320, 321, 322, 323, 324, 325, 326, 327] (by decide +kernel) (by decide +kernel)
set_option maxRecDepth 20000 in
theorem gf_8 : GoodIn wsL_law wsL_areFlowsSo_r8 := goodIn_r _ [328, 329, 330, 331, 332, 333, 277, 278, 279, 280, 281, 282, 283, 284, 285, 286, 287, 288, 334, 335, 336, 337, 338, 339] (by decide +kernel) (by decide +kernel)
set_option maxRecDepth 20000 in
theorem gf_9 : GoodIn wsL_law wsL_areFlowsSo_r9 := goodIn_r _ [340, 341, 342, 343, 344, 345, 289, 290, 291, 292, 126, 346, 347, 6, 348, 3, 349, 350, 351, 352, 353, 354, 355, 356] (by decide +kernel) (by decide +kernel)
set_option maxRecDepth 20000 in
theorem gf_10 : GoodIn wsL_law wsL_areFlowsSo_r10 := goodIn_r _ [96, 293, 294, 295, 296, 297, 357, 358, 359, 360, 361, 362, 363, 364, 365, 366, 367, 368, 39, 369, 370, 371, 38, 372] (by decide +kernel) (by decide +kernel)
set_option maxRecDepth 20000 in
theorem gf_11 : GoodIn wsL_law wsL_areFlowsSo_r11 := goodIn_r _ [71, 373, 374, 375, 376, 74, 377, 72, 378, 73, 379, 380, 381, 382, 383, 384, 385, 386, 387, 388, 389, 390, 391, 392] (by decide +kernel) (by decide +kernel)
set_option maxRecDepth 20000 in
theorem gf_12 : GoodIn wsL_law wsL_areFlowsSo_r12 := goodIn_r _ [393, 394, 395, 396, 397, 398, 399, 400, 401, 402, 403, 404, 405, 406, 407] (by decide +kernel) (by decide +kernel)
theorem gf_X4 : GoodIn wsL_law wsX40 := goodIn_sub inlX4 (by decide +kernel)
theorem gf_X0 : GoodIn wsL_law wsX00 := goodIn_sub inlX0 (by decide +kernel)
theorem gf_X2 : GoodIn wsL_law wsX20 := goodIn_sub inlX2 (by decide +kernel)
theorem gf_X1 : GoodIn wsL_law wsX10 := goodIn_sub inlX1 (by decide +kernel)
theorem gf_X3 : GoodIn wsL_law wsX30 := goodIn_sub inlX3 (by decide +kernel)
set_option maxRecDepth 20000 in
theorem gf_e : GoodIn wsL_law ((vx_at0 RX4 103 "java/lang/IndexOutOfBoundsException" ["java/lang/RuntimeException", "java/lang/Exception"]).filter goodWord) := goodIn_sub (fun _ h => List.mem_append_left _ (List.mem_append_right _ h)) (by decide +kernel)
set_option maxRecDepth 20000 in
theorem gf_c : GoodIn wsL_law [.code yL_areFlowsSo cL_areFlowsSo 9 (some .boolean)] := goodIn_r _ [311] (by decide +kernel) (by decide +kernel)
theorem ggL_law_L_areFlowsSo : GoodIn wsL_law wsL_areFlowsSo := gi_cons gf_c (gi_app (gi_app (gi_app (gi_app (gi_app (gi_app (gi_app gf_1 (gi_app gf_2 (gi_app gf_3 (gi_app gf_4 (gi_app gf_5 (gi_app gf_6 (gi_app gf_7 (gi_app gf_8 (gi_app gf_9 (gi_app gf_10 (gi_app gf_11 gf_12))))))))))) gf_X4) gf_X0) gf_X2) gf_X1) gf_X3) gf_e)
set_option maxRecDepth 20000 in
theorem gL_law_L_areFlowsSo : GoodIn wsL_law (va_wsS RL 115 yL_areFlowsSo wsL_areFlowsSo) := goodIn_app (goodIn_of _ (by decide +kernel)) ggL_law_L_areFlowsSo
theorem dL_law_0 : decode cL_law 0 = .ok (.iconst 1, 1) := by decide +kernel
theorem dL_law_1 : decode cL_law 1 = .ok (.aload_n 0, 1) := by decide +kernel
theorem dL_law_2 : decode cL_law 2 = .ok (.iconst 0, 1) := by decide +kernel
theorem dL_law_3 : decode cL_law 3 = .ok (.invokestatic 97, 3) := by decide +kernel
theorem dL_law_6 : decode cL_law 6 = .ok (.bipush 6, 2) := by decide +kernel
theorem dL_law_8 : decode cL_law 8 = .ok (.invokestatic 33, 3) := by decide +kernel
theorem dL_law_11 : decode cL_law 11 = .ok (.iadd, 1) := by decide +kernel
theorem dL_law_12 : decode cL_law 12 = .ok (.istore_n 1, 1) := by decide +kernel
theorem dL_law_13 : decode cL_law 13 = .ok (.new 9, 3) := by decide +kernel
theorem dL_law_16 : decode cL_law 16 = .ok (.dup, 1) := by decide +kernel
theorem dL_law_17 : decode cL_law 17 = .ok (.iload_n 1, 1) := by decide +kernel
theorem dL_law_18 : decode cL_law 18 = .ok (.invokespecial 101, 3) := by decide +kernel
theorem dL_law_21 : decode cL_law 21 = .ok (.astore_n 2, 1) := by decide +kernel
theorem dL_law_22 : decode cL_law 22 = .ok (.new 9, 3) := by decide +kernel
theorem dL_law_25 : decode cL_law 25 = .ok (.dup, 1) := by decide +kernel
theorem dL_law_26 : decode cL_law 26 = .ok (.iload_n 1, 1) := by decide +kernel
theorem dL_law_27 : decode cL_law 27 = .ok (.invokespecial 101, 3) := by decide +kernel
theorem dL_law_30 : decode cL_law 30 = .ok (.astore_n 3, 1) := by decide +kernel
theorem dL_law_31 : decode cL_law 31 = .ok (.iconst 1, 1) := by decide +kernel
theorem dL_law_32 : decode cL_law 32 = .ok (.istore 4, 2) := by decide +kernel
theorem dL_law_34 : decode cL_law 34 = .ok (.iload 4, 2) := by decide +kernel
theorem dL_law_36 : decode cL_law 36 = .ok (.bipush 40, 2) := by decide +kernel
theorem dL_law_38 : decode cL_law 38 = .ok (.if_icmp .ge 107, 3) := by decide +kernel
theorem dL_law_41 : decode cL_law 41 = .ok (.aload_n 0, 1) := by decide +kernel
theorem dL_law_42 : decode cL_law 42 = .ok (.iload 4, 2) := by decide +kernel
theorem dL_law_44 : decode cL_law 44 = .ok (.invokestatic 97, 3) := by decide +kernel
theorem dL_law_47 : decode cL_law 47 = .ok (.istore 5, 2) := by decide +kernel
theorem dL_law_49 : decode cL_law 49 = .ok (.aload_n 2, 1) := by decide +kernel
theorem dL_law_50 : decode cL_law 50 = .ok (.iload 5, 2) := by decide +kernel
theorem dL_law_52 : decode cL_law 52 = .ok (.invokestatic 104, 3) := by decide +kernel
theorem dL_law_55 : decode cL_law 55 = .ok (.istore 6, 2) := by decide +kernel
theorem dL_law_57 : decode cL_law 57 = .ok (.iload 6, 2) := by decide +kernel
theorem dL_law_59 : decode cL_law 59 = .ok (.ldc 16, 2) := by decide +kernel
theorem dL_law_61 : decode cL_law 61 = .ok (.if_icmp .eq 14, 3) := by decide +kernel
theorem dL_law_64 : decode cL_law 64 = .ok (.aload_n 3, 1) := by decide +kernel
theorem dL_law_65 : decode cL_law 65 = .ok (.iload 5, 2) := by decide +kernel
theorem dL_law_67 : decode cL_law 67 = .ok (.invokestatic 104, 3) := by decide +kernel
theorem dL_law_70 : decode cL_law 70 = .ok (.iload 6, 2) := by decide +kernel
theorem dL_law_72 : decode cL_law 72 = .ok (.if_icmp .ne 28, 3) := by decide +kernel
theorem dL_law_75 : decode cL_law 75 = .ok (.aload_n 2, 1) := by decide +kernel
theorem dL_law_76 : decode cL_law 76 = .ok (.aload_n 3, 1) := by decide +kernel
theorem dL_law_77 : decode cL_law 77 = .ok (.invokestatic 108, 3) := by decide +kernel
theorem dL_law_80 : decode cL_law 80 = .ok (.ifCond .eq 20, 3) := by decide +kernel
theorem dL_law_83 : decode cL_law 83 = .ok (.aload_n 2, 1) := by decide +kernel
theorem dL_law_84 : decode cL_law 84 = .ok (.invokevirtual 38, 3) := by decide +kernel
theorem dL_law_87 : decode cL_law 87 = .ok (.iload_n 1, 1) := by decide +kernel
theorem dL_law_88 : decode cL_law 88 = .ok (.iconst 2, 1) := by decide +kernel
theorem dL_law_89 : decode cL_law 89 = .ok (.if_icmp .ge 7, 3) := by decide +kernel
theorem dL_law_92 : decode cL_law 92 = .ok (.iconst 2, 1) := by decide +kernel
theorem dL_law_93 : decode cL_law 93 = .ok (.goto 4, 3) := by decide +kernel
theorem dL_law_96 : decode cL_law 96 = .ok (.iload_n 1, 1) := by decide +kernel
theorem dL_law_97 : decode cL_law 97 = .ok (.if_icmp .eq 5, 3) := by decide +kernel
theorem dL_law_100 : decode cL_law 100 = .ok (.iconst 0, 1) := by decide +kernel
theorem dL_law_101 : decode cL_law 101 = .ok (.ireturn, 1) := by decide +kernel
theorem dL_law_102 : decode cL_law 102 = .ok (.aload_n 2, 1) := by decide +kernel
theorem dL_law_103 : decode cL_law 103 = .ok (.iload 5, 2) := by decide +kernel
theorem dL_law_105 : decode cL_law 105 = .ok (.bipush 6, 2) := by decide +kernel
theorem dL_law_107 : decode cL_law 107 = .ok (.ishr, 1) := by decide +kernel
theorem dL_law_108 : decode cL_law 108 = .ok (.aload_n 2, 1) := by decide +kernel
theorem dL_law_109 : decode cL_law 109 = .ok (.invokevirtual 38, 3) := by decide +kernel
theorem dL_law_112 : decode cL_law 112 = .ok (.invokestatic 33, 3) := by decide +kernel
theorem dL_law_115 : decode cL_law 115 = .ok (.invokestatic 112, 3) := by decide +kernel
theorem dL_law_118 : decode cL_law 118 = .ok (.ifCond .eq 19, 3) := by decide +kernel
theorem dL_law_121 : decode cL_law 121 = .ok (.iload 4, 2) := by decide +kernel
theorem dL_law_123 : decode cL_law 123 = .ok (.bipush 6, 2) := by decide +kernel
theorem dL_law_125 : decode cL_law 125 = .ok (.irem, 1) := by decide +kernel
theorem dL_law_126 : decode cL_law 126 = .ok (.iconst 5, 1) := by decide +kernel
theorem dL_law_127 : decode cL_law 127 = .ok (.if_icmp .ne 12, 3) := by decide +kernel
theorem dL_law_130 : decode cL_law 130 = .ok (.aload_n 2, 1) := by decide +kernel
theorem dL_law_131 : decode cL_law 131 = .ok (.invokestatic 115, 3) := by decide +kernel
theorem dL_law_134 : decode cL_law 134 = .ok (.ifCond .ne 5, 3) := by decide +kernel
theorem dL_law_137 : decode cL_law 137 = .ok (.iconst 0, 1) := by decide +kernel
theorem dL_law_138 : decode cL_law 138 = .ok (.ireturn, 1) := by decide +kernel
theorem dL_law_139 : decode cL_law 139 = .ok (.iinc 4 1, 3) := by decide +kernel
theorem dL_law_142 : decode cL_law 142 = .ok (.goto (-108), 3) := by decide +kernel
theorem dL_law_145 : decode cL_law 145 = .ok (.iconst 1, 1) := by decide +kernel
theorem dL_law_146 : decode cL_law 146 = .ok (.ireturn, 1) := by decide +kernel

