set_option maxRecDepth 20000 in
theorem ggL_build_X4_init : GoodIn wsL_build wsX4_init := goodIn_r _ [7, 8, 9, 10, 11, 12, 13, 14, 222, 223, 224] (by decide +kernel) (by decide +kernel)
set_option maxRecDepth 20000 in
theorem gL_build_X4_init_n101 : GoodIn wsL_build (wsX4_init) := ggL_build_X4_init
set_option maxRecDepth 20000 in
theorem ggL_build_L_cell : GoodIn wsL_build wsL_cell := goodIn_r _ [18, 19] (by decide +kernel) (by decide +kernel)
set_option maxRecDepth 20000 in
theorem gL_build_L_cell : GoodIn wsL_build (va_wsS RL 102 yL_cell wsL_cell) := goodIn_app (goodIn_of _ (by decide +kernel)) ggL_build_L_cell
set_option maxRecDepth 20000 in
theorem ggL_build_L_below : GoodIn wsL_build wsL_below := goodIn_r _ [22, 23] (by decide +kernel) (by decide +kernel)
set_option maxRecDepth 20000 in
theorem gL_build_L_below : GoodIn wsL_build (va_wsS RL 45 yL_below wsL_below) := goodIn_app (goodIn_of _ (by decide +kernel)) ggL_build_L_below
set_option maxRecDepth 20000 in
theorem ggL_build_L_set : GoodIn wsL_build wsL_set := goodIn_r _ [26] (by decide +kernel) (by decide +kernel)
set_option maxRecDepth 20000 in
theorem gL_build_L_set : GoodIn wsL_build (va_wsS RL 15 yL_set wsL_set) := goodIn_app (goodIn_of _ (by decide +kernel)) ggL_build_L_set
set_option maxRecDepth 20000 in
theorem ggL_build_X2_ask : GoodIn wsL_build wsX2_ask := goodIn_ca (goodIn_ca (goodIn_r _ [31, 32, 33, 34, 30, 35, 36, 37, 38, 39, 40, 41, 42, 43, 44, 45, 46, 47, 48, 49, 50, 51, 52, 53, 54, 55, 56, 57, 58, 59, 60, 61, 62, 63, 64, 65, 66, 67, 68, 69, 70, 71, 72, 73, 74, 75, 76, 77, 78, 79, 80, 81, 82, 83, 84, 85, 86, 87, 88, 89, 90, 91, 92, 93, 94, 95, 96, 97, 98, 99, 100, 101, 102, 103, 104, 105, 106, 107, 225, 226, 227, 228, 229, 230, 231, 232, 233, 234, 235, 236, 237, 238, 239, 240, 241, 242, 243, 244, 245, 246, 247] (by decide +kernel) (by decide +kernel)) (goodIn_sub (fun _ h => List.mem_cons_of_mem _ (List.mem_append_left _ (List.mem_append_right _ h))) (by decide +kernel))) (goodIn_sub (fun _ h => List.mem_cons_of_mem _ (List.mem_append_right _ h)) (by decide +kernel))
set_option maxRecDepth 20000 in
theorem gL_build_X2_ask : GoodIn wsL_build (wsV RL 74 RX2 yX2_ask wsX2_ask) := goodIn_app (goodIn_of _ (by decide +kernel)) ggL_build_X2_ask
theorem dL_build_0 : decode cL_build 0 = .ok (.new 37, 3) := by decide +kernel
theorem dL_build_3 : decode cL_build 3 = .ok (.dup, 1) := by decide +kernel
theorem dL_build_4 : decode cL_build 4 = .ok (.invokespecial 101, 3) := by decide +kernel
theorem dL_build_7 : decode cL_build 7 = .ok (.astore_n 2, 1) := by decide +kernel
theorem dL_build_8 : decode cL_build 8 = .ok (.iconst 0, 1) := by decide +kernel
theorem dL_build_9 : decode cL_build 9 = .ok (.istore_n 3, 1) := by decide +kernel
theorem dL_build_10 : decode cL_build 10 = .ok (.iload_n 3, 1) := by decide +kernel
theorem dL_build_11 : decode cL_build 11 = .ok (.iconst 2, 1) := by decide +kernel
theorem dL_build_12 : decode cL_build 12 = .ok (.if_icmp .ge 85, 3) := by decide +kernel
theorem dL_build_15 : decode cL_build 15 = .ok (.aload_n 1, 1) := by decide +kernel
theorem dL_build_16 : decode cL_build 16 = .ok (.iload_n 3, 1) := by decide +kernel
theorem dL_build_17 : decode cL_build 17 = .ok (.invokestatic 102, 3) := by decide +kernel
theorem dL_build_20 : decode cL_build 20 = .ok (.iconst 5, 1) := by decide +kernel
theorem dL_build_21 : decode cL_build 21 = .ok (.iload_n 3, 1) := by decide +kernel
theorem dL_build_22 : decode cL_build 22 = .ok (.imul, 1) := by decide +kernel
theorem dL_build_23 : decode cL_build 23 = .ok (.ishr, 1) := by decide +kernel
theorem dL_build_24 : decode cL_build 24 = .ok (.bipush 8, 2) := by decide +kernel
theorem dL_build_26 : decode cL_build 26 = .ok (.invokestatic 45, 3) := by decide +kernel
theorem dL_build_29 : decode cL_build 29 = .ok (.istore 4, 2) := by decide +kernel
theorem dL_build_31 : decode cL_build 31 = .ok (.aload_n 2, 1) := by decide +kernel
theorem dL_build_32 : decode cL_build 32 = .ok (.getfield 49, 3) := by decide +kernel
theorem dL_build_35 : decode cL_build 35 = .ok (.iload_n 3, 1) := by decide +kernel
theorem dL_build_36 : decode cL_build 36 = .ok (.iconst 4, 1) := by decide +kernel
theorem dL_build_37 : decode cL_build 37 = .ok (.newarray .long, 2) := by decide +kernel
theorem dL_build_39 : decode cL_build 39 = .ok (.aastore, 1) := by decide +kernel
theorem dL_build_40 : decode cL_build 40 = .ok (.iconst 0, 1) := by decide +kernel
theorem dL_build_41 : decode cL_build 41 = .ok (.istore 5, 2) := by decide +kernel
theorem dL_build_43 : decode cL_build 43 = .ok (.iload 5, 2) := by decide +kernel
theorem dL_build_45 : decode cL_build 45 = .ok (.sipush 256, 3) := by decide +kernel
theorem dL_build_48 : decode cL_build 48 = .ok (.if_icmp .ge 31, 3) := by decide +kernel
theorem dL_build_51 : decode cL_build 51 = .ok (.iload 5, 2) := by decide +kernel
theorem dL_build_53 : decode cL_build 53 = .ok (.iload 4, 2) := by decide +kernel
theorem dL_build_55 : decode cL_build 55 = .ok (.ishr, 1) := by decide +kernel
theorem dL_build_56 : decode cL_build 56 = .ok (.iconst 2, 1) := by decide +kernel
theorem dL_build_57 : decode cL_build 57 = .ok (.irem, 1) := by decide +kernel
theorem dL_build_58 : decode cL_build 58 = .ok (.iconst 1, 1) := by decide +kernel
theorem dL_build_59 : decode cL_build 59 = .ok (.if_icmp .ne 14, 3) := by decide +kernel
theorem dL_build_62 : decode cL_build 62 = .ok (.aload_n 2, 1) := by decide +kernel
theorem dL_build_63 : decode cL_build 63 = .ok (.getfield 49, 3) := by decide +kernel
theorem dL_build_66 : decode cL_build 66 = .ok (.iload_n 3, 1) := by decide +kernel
theorem dL_build_67 : decode cL_build 67 = .ok (.aaload, 1) := by decide +kernel
theorem dL_build_68 : decode cL_build 68 = .ok (.iload 5, 2) := by decide +kernel
theorem dL_build_70 : decode cL_build 70 = .ok (.invokestatic 15, 3) := by decide +kernel
theorem dL_build_73 : decode cL_build 73 = .ok (.iinc 5 1, 3) := by decide +kernel
theorem dL_build_76 : decode cL_build 76 = .ok (.goto (-33), 3) := by decide +kernel
theorem dL_build_79 : decode cL_build 79 = .ok (.aload_n 0, 1) := by decide +kernel
theorem dL_build_80 : decode cL_build 80 = .ok (.iload 4, 2) := by decide +kernel
theorem dL_build_82 : decode cL_build 82 = .ok (.invokevirtual 74, 3) := by decide +kernel
theorem dL_build_85 : decode cL_build 85 = .ok (.iload_n 3, 1) := by decide +kernel
theorem dL_build_86 : decode cL_build 86 = .ok (.if_icmp .eq 5, 3) := by decide +kernel
theorem dL_build_89 : decode cL_build 89 = .ok (.aconst_null, 1) := by decide +kernel
theorem dL_build_90 : decode cL_build 90 = .ok (.areturn, 1) := by decide +kernel
theorem dL_build_91 : decode cL_build 91 = .ok (.iinc 3 1, 3) := by decide +kernel
theorem dL_build_94 : decode cL_build 94 = .ok (.goto (-84), 3) := by decide +kernel
theorem dL_build_97 : decode cL_build 97 = .ok (.bipush 6, 2) := by decide +kernel
theorem dL_build_99 : decode cL_build 99 = .ok (.aload_n 1, 1) := by decide +kernel
theorem dL_build_100 : decode cL_build 100 = .ok (.iconst 0, 1) := by decide +kernel
theorem dL_build_101 : decode cL_build 101 = .ok (.invokestatic 102, 3) := by decide +kernel
theorem dL_build_104 : decode cL_build 104 = .ok (.bipush 18, 2) := by decide +kernel
theorem dL_build_106 : decode cL_build 106 = .ok (.invokestatic 45, 3) := by decide +kernel
theorem dL_build_109 : decode cL_build 109 = .ok (.iadd, 1) := by decide +kernel
theorem dL_build_110 : decode cL_build 110 = .ok (.istore_n 3, 1) := by decide +kernel
theorem dL_build_111 : decode cL_build 111 = .ok (.iconst 0, 1) := by decide +kernel
theorem dL_build_112 : decode cL_build 112 = .ok (.istore 4, 2) := by decide +kernel
theorem dL_build_114 : decode cL_build 114 = .ok (.iload 4, 2) := by decide +kernel
theorem dL_build_116 : decode cL_build 116 = .ok (.iload_n 3, 1) := by decide +kernel
theorem dL_build_117 : decode cL_build 117 = .ok (.if_icmp .ge 43, 3) := by decide +kernel
theorem dL_build_120 : decode cL_build 120 = .ok (.aload_n 0, 1) := by decide +kernel
theorem dL_build_121 : decode cL_build 121 = .ok (.aload_n 2, 1) := by decide +kernel
theorem dL_build_122 : decode cL_build 122 = .ok (.aload_n 1, 1) := by decide +kernel
theorem dL_build_123 : decode cL_build 123 = .ok (.iload 4, 2) := by decide +kernel
theorem dL_build_125 : decode cL_build 125 = .ok (.bipush 16, 2) := by decide +kernel
theorem dL_build_127 : decode cL_build 127 = .ok (.irem, 1) := by decide +kernel
theorem dL_build_128 : decode cL_build 128 = .ok (.invokestatic 102, 3) := by decide +kernel
theorem dL_build_131 : decode cL_build 131 = .ok (.iload 4, 2) := by decide +kernel
theorem dL_build_133 : decode cL_build 133 = .ok (.bipush 16, 2) := by decide +kernel
theorem dL_build_135 : decode cL_build 135 = .ok (.idiv, 1) := by decide +kernel
theorem dL_build_136 : decode cL_build 136 = .ok (.iconst 3, 1) := by decide +kernel
theorem dL_build_137 : decode cL_build 137 = .ok (.imul, 1) := by decide +kernel
theorem dL_build_138 : decode cL_build 138 = .ok (.ishr, 1) := by decide +kernel
theorem dL_build_139 : decode cL_build 139 = .ok (.sipush 431, 3) := by decide +kernel
theorem dL_build_142 : decode cL_build 142 = .ok (.iload 4, 2) := by decide +kernel
theorem dL_build_144 : decode cL_build 144 = .ok (.imul, 1) := by decide +kernel
theorem dL_build_145 : decode cL_build 145 = .ok (.iadd, 1) := by decide +kernel
theorem dL_build_146 : decode cL_build 146 = .ok (.invokestatic 106, 3) := by decide +kernel
theorem dL_build_149 : decode cL_build 149 = .ok (.ifCond .ne 5, 3) := by decide +kernel
theorem dL_build_152 : decode cL_build 152 = .ok (.aconst_null, 1) := by decide +kernel
theorem dL_build_153 : decode cL_build 153 = .ok (.areturn, 1) := by decide +kernel
theorem dL_build_154 : decode cL_build 154 = .ok (.iinc 4 1, 3) := by decide +kernel
theorem dL_build_157 : decode cL_build 157 = .ok (.goto (-43), 3) := by decide +kernel
theorem dL_build_160 : decode cL_build 160 = .ok (.aload_n 2, 1) := by decide +kernel
theorem dL_build_161 : decode cL_build 161 = .ok (.areturn, 1) := by decide +kernel
set_option maxRecDepth 20000 in
theorem ggL_law_X2_init : GoodIn wsL_law wsX2_init := goodIn_r _ [10, 11, 12, 13, 14, 15, 16, 17, 18, 19, 20, 21, 22, 23, 24, 25, 26, 27, 28, 29, 30, 31, 32, 33, 34, 35, 36, 37, 38, 39, 40, 41, 42, 43, 44, 45, 46, 47, 375, 376, 377, 378, 379, 380, 384, 385, 386, 387, 388, 389, 390, 391, 392, 393, 394, 395, 396, 397, 398, 399, 400] (by decide +kernel) (by decide +kernel)
set_option maxRecDepth 20000 in
theorem gL_law_X2_init : GoodIn wsL_law (wsX2_init) := ggL_law_X2_init
set_option maxRecDepth 20000 in
theorem ggL_law_L_cell : GoodIn wsL_law wsL_cell := goodIn_r _ [64, 65] (by decide +kernel) (by decide +kernel)
set_option maxRecDepth 20000 in
theorem gL_law_L_cell : GoodIn wsL_law (va_wsS RL 102 yL_cell wsL_cell) := goodIn_app (goodIn_of _ (by decide +kernel)) ggL_law_L_cell
set_option maxRecDepth 20000 in
theorem ggL_law_X2_has : GoodIn wsL_law wsX2_has := goodIn_ca (goodIn_r _ [257, 15, 77, 78, 2, 79, 80, 81, 375, 376, 377, 378, 379, 380, 394, 395, 396, 397, 398, 399, 400] (by decide +kernel) (by decide +kernel)) (goodIn_sub (fun _ h => List.mem_append_left _ (List.mem_append_left _ (List.mem_append_right _ h))) (by decide +kernel))
set_option maxRecDepth 20000 in
theorem gL_law_X2_has : GoodIn wsL_law (wsV RL 115 RX2 yX2_has wsX2_has) := goodIn_app (goodIn_of _ (by decide +kernel)) ggL_law_X2_has
set_option maxRecDepth 20000 in
theorem ggL_law_X2_about : GoodIn wsL_law wsX2_about := goodIn_ca (goodIn_r _ [261, 156, 157, 158, 2, 159, 80, 81, 15, 77, 78, 79, 262, 263, 264, 265, 266, 267, 268, 269, 270, 271, 272, 21, 273, 274, 275, 276, 277, 278, 6, 279, 280, 281, 282, 283, 88, 89, 90, 284, 285, 286, 287, 288, 5, 7, 289, 290, 291, 292, 293, 294, 295, 296, 297, 298, 375, 376, 377, 378, 379, 380, 394, 395, 396, 397, 398, 399, 400, 384, 385, 386, 387, 388, 389, 390, 391, 392, 393] (by decide +kernel) (by decide +kernel)) (goodIn_sub (fun _ h => List.mem_append_left _ (List.mem_append_left _ (List.mem_append_right _ h))) (by decide +kernel))
set_option maxRecDepth 20000 in
theorem gL_law_X2_about : GoodIn wsL_law (wsV RL 119 RX2 yX2_about wsX2_about) := goodIn_app (goodIn_of _ (by decide +kernel)) ggL_law_X2_about
set_option maxRecDepth 20000 in
theorem ggL_law_X2_fork : GoodIn wsL_law wsX2_fork := goodIn_ca (goodIn_r _ [302, 156, 157, 158, 2, 159, 80, 81, 15, 77, 78, 79, 303, 304, 305, 306, 21, 394, 395, 396, 397, 398, 399, 400, 375, 376, 377, 378, 379, 380, 384, 385, 386, 387, 388, 389, 390, 391, 392, 393] (by decide +kernel) (by decide +kernel)) (goodIn_sub (fun _ h => List.mem_append_left _ (List.mem_append_left _ (List.mem_append_right _ h))) (by decide +kernel))
set_option maxRecDepth 20000 in
theorem gL_law_X2_fork : GoodIn wsL_law (wsV RL 122 RX2 yX2_fork wsX2_fork) := goodIn_app (goodIn_of _ (by decide +kernel)) ggL_law_X2_fork
set_option maxRecDepth 20000 in
theorem ggL_law_X2_asked : GoodIn wsL_law wsX2_asked := goodIn_ca (goodIn_r _ [310, 311, 156, 157, 158, 2, 159, 80, 81, 15, 280, 281, 282, 283, 21, 88, 89, 90, 375, 376, 377, 378, 379, 380, 394, 395, 396, 397, 398, 399, 400, 384, 385, 386, 387, 388, 389, 390, 391, 392, 393] (by decide +kernel) (by decide +kernel)) (goodIn_sub (fun _ h => List.mem_append_left _ (List.mem_append_left _ (List.mem_append_right _ h))) (by decide +kernel))
set_option maxRecDepth 20000 in
theorem gL_law_X2_asked : GoodIn wsL_law (wsV RL 125 RX2 yX2_asked wsX2_asked) := goodIn_app (goodIn_of _ (by decide +kernel)) ggL_law_X2_asked
set_option maxRecDepth 20000 in
theorem ggL_law_X2_says : GoodIn wsL_law wsX2_says := goodIn_ca (goodIn_ca (goodIn_r _ [315, 316, 317, 156, 157, 158, 2, 159, 80, 81, 15, 394, 395, 396, 397, 398, 399, 400, 375, 376, 377, 378, 379, 380] (by decide +kernel) (by decide +kernel)) (goodIn_sub (fun _ h => List.mem_append_right _ h) (by decide +kernel))) (goodIn_sub (fun _ h => List.mem_append_left _ (List.mem_append_left _ (List.mem_append_right _ h))) (by decide +kernel))
set_option maxRecDepth 20000 in
theorem gL_law_X2_says : GoodIn wsL_law (wsV RL 129 RX2 yX2_says wsX2_says) := goodIn_app (goodIn_of _ (by decide +kernel)) ggL_law_X2_says
set_option maxRecDepth 20000 in
theorem ggL_law_X2_count : GoodIn wsL_law wsX2_count := goodIn_ca (goodIn_r _ [321, 77, 78, 2, 79, 80, 81, 322, 323, 324, 325, 21, 160, 161, 162, 163, 15, 326, 327, 328, 329, 330, 331, 332, 333, 17, 334, 335, 336, 337, 375, 376, 377, 378, 379, 380, 384, 385, 386, 387, 388, 389, 390, 391, 392, 393, 394, 395, 396, 397, 398, 399, 400] (by decide +kernel) (by decide +kernel)) (goodIn_sub (fun _ h => List.mem_append_left _ (List.mem_append_left _ (List.mem_append_right _ h))) (by decide +kernel))
set_option maxRecDepth 20000 in
theorem gL_law_X2_count : GoodIn wsL_law (wsV RL 137 RX2 yX2_count wsX2_count) := goodIn_app (goodIn_of _ (by decide +kernel)) ggL_law_X2_count
set_option maxRecDepth 20000 in
theorem ggL_law_X2_advise : GoodIn wsL_law wsX2_advise := goodIn_r _ [341, 21, 342, 343, 344, 2, 345, 17, 24, 346, 104, 105, 106, 25, 15, 168, 169, 170, 99, 20, 100, 101, 102, 35, 36, 103, 37, 107, 108, 109, 110, 111, 112, 113, 114, 115, 116, 117, 38, 118, 119, 120, 121, 31, 32, 33, 122, 123, 124, 125, 34, 375, 376, 377, 378, 379, 380, 384, 385, 386, 387, 388, 389, 390, 391, 392, 393, 394, 395, 396, 397, 398, 399, 400] (by decide +kernel) (by decide +kernel)
set_option maxRecDepth 20000 in
theorem gL_law_X2_advise : GoodIn wsL_law (wsV RL 140 RX2 yX2_advise wsX2_advise) := goodIn_app (goodIn_of _ (by decide +kernel)) ggL_law_X2_advise
set_option maxRecDepth 20000 in
theorem ggL_law_X2_swap : GoodIn wsL_law wsX2_swap := goodIn_ca (goodIn_r _ [167, 17, 21, 77, 78, 2, 79, 80, 81, 168, 169, 170, 95, 96, 97, 98, 15, 99, 20, 100, 101, 102, 35, 36, 103, 104, 105, 106, 37, 107, 108, 109, 110, 111, 112, 113, 114, 115, 116, 117, 38, 118, 119, 120, 121, 31, 32, 33, 122, 123, 124, 125, 34, 126, 127, 128, 39, 129, 130, 131, 132, 133, 134, 135, 136, 137, 138, 139, 375, 376, 377, 378, 379, 380, 384, 385, 386, 387, 388, 389, 390, 391, 392, 393, 394, 395, 396, 397, 398, 399, 400] (by decide +kernel) (by decide +kernel)) (goodIn_sub (fun _ h => List.mem_append_left _ (List.mem_append_left _ (List.mem_append_right _ h))) (by decide +kernel))
set_option maxRecDepth 20000 in
theorem gL_law_X2_swap : GoodIn wsL_law (wsV RL 63 RX2 yX2_swap wsX2_swap) := goodIn_app (goodIn_of _ (by decide +kernel)) ggL_law_X2_swap
set_option maxRecDepth 20000 in
theorem ggL_law_L_below : GoodIn wsL_law wsL_below := goodIn_r _ [68, 69] (by decide +kernel) (by decide +kernel)
set_option maxRecDepth 20000 in
theorem gL_law_L_below : GoodIn wsL_law (va_wsS RL 45 yL_below wsL_below) := goodIn_app (goodIn_of _ (by decide +kernel)) ggL_law_L_below
set_option maxRecDepth 20000 in
theorem ggL_law_X2_would : GoodIn wsL_law wsX2_would := goodIn_ca (goodIn_r _ [350, 23, 25, 17, 156, 157, 158, 2, 159, 80, 81, 15, 77, 78, 79, 232, 233, 234, 235, 236, 237, 99, 20, 100, 101, 102, 35, 36, 103, 104, 105, 106, 37, 107, 108, 109, 110, 111, 112, 113, 114, 115, 116, 117, 38, 118, 119, 120, 121, 31, 32, 33, 122, 123, 124, 125, 34, 375, 376, 377, 378, 379, 380, 384, 385, 386, 387, 388, 389, 390, 391, 392, 393, 394, 395, 396, 397, 398, 399, 400] (by decide +kernel) (by decide +kernel)) (goodIn_sub (fun _ h => List.mem_append_left _ (List.mem_append_left _ (List.mem_append_right _ h))) (by decide +kernel))
set_option maxRecDepth 20000 in
theorem gL_law_X2_would : GoodIn wsL_law (wsV RL 143 RX2 yX2_would wsX2_would) := goodIn_app (goodIn_of _ (by decide +kernel)) ggL_law_X2_would
set_option maxRecDepth 20000 in
theorem ggL_law_X2_join : GoodIn wsL_law wsX2_join := goodIn_ca (goodIn_ca (goodIn_r _ [231, 15, 156, 157, 158, 2, 159, 80, 81, 77, 78, 79, 82, 83, 84, 85, 86, 87, 232, 233, 234, 235, 236, 237, 91, 92, 93, 94, 95, 96, 97, 98, 21, 17, 99, 20, 100, 101, 102, 35, 36, 103, 104, 105, 106, 37, 107, 108, 109, 110, 111, 112, 113, 114, 115, 116, 117, 38, 118, 119, 120, 121, 31, 32, 33, 122, 123, 124, 125, 34, 126, 127, 128, 39, 129, 130, 131, 132, 133, 134, 135, 136, 137, 138, 139, 375, 376, 377, 378, 379, 380, 394, 395, 396, 397, 398, 399, 400, 384, 385, 386, 387, 388, 389, 390, 391, 392, 393] (by decide +kernel) (by decide +kernel)) (goodIn_sub (fun _ h => List.mem_append_left _ (List.mem_append_left _ (List.mem_append_right _ h))) (by decide +kernel))) (goodIn_sub (fun _ h => List.mem_append_left _ (List.mem_append_right _ h)) (by decide +kernel))
set_option maxRecDepth 20000 in
theorem gL_law_X2_join : GoodIn wsL_law (wsV RL 84 RX2 yX2_join wsX2_join) := goodIn_app (goodIn_of _ (by decide +kernel)) ggL_law_X2_join
set_option maxRecDepth 20000 in
theorem ggL_law_X2_compare : GoodIn wsL_law wsX2_compare := goodIn_ca (goodIn_r _ [354, 156, 157, 158, 2, 159, 80, 81, 15, 394, 395, 396, 397, 398, 399, 400, 375, 376, 377, 378, 379, 380] (by decide +kernel) (by decide +kernel)) (goodIn_sub (fun _ h => List.mem_append_left _ (List.mem_append_left _ (List.mem_append_right _ h))) (by decide +kernel))
set_option maxRecDepth 20000 in
theorem gL_law_X2_compare : GoodIn wsL_law (wsV RL 146 RX2 yX2_compare wsX2_compare) := goodIn_app (goodIn_of _ (by decide +kernel)) ggL_law_X2_compare
set_option maxRecDepth 20000 in
theorem ggL_law_X2_drop : GoodIn wsL_law wsX2_drop := goodIn_ca (goodIn_r _ [155, 156, 157, 158, 2, 159, 80, 81, 15, 95, 96, 97, 98, 21, 17, 99, 20, 100, 101, 102, 35, 36, 103, 104, 105, 106, 37, 107, 108, 109, 110, 111, 112, 113, 114, 115, 116, 117, 38, 118, 119, 120, 121, 31, 32, 33, 122, 123, 124, 125, 34, 126, 127, 128, 39, 129, 130, 131, 132, 133, 134, 135, 136, 137, 138, 139, 160, 161, 162, 163, 394, 395, 396, 397, 398, 399, 400, 375, 376, 377, 378, 379, 380, 384, 385, 386, 387, 388, 389, 390, 391, 392, 393] (by decide +kernel) (by decide +kernel)) (goodIn_sub (fun _ h => List.mem_append_left _ (List.mem_append_left _ (List.mem_append_right _ h))) (by decide +kernel))
set_option maxRecDepth 20000 in
theorem gL_law_X2_drop : GoodIn wsL_law (wsV RL 53 RX2 yX2_drop wsX2_drop) := goodIn_app (goodIn_of _ (by decide +kernel)) ggL_law_X2_drop
theorem dL_law_0 : decode cL_law 0 = .ok (.new 54, 3) := by decide +kernel
theorem dL_law_3 : decode cL_law 3 = .ok (.dup, 1) := by decide +kernel
theorem dL_law_4 : decode cL_law 4 = .ok (.invokespecial 110, 3) := by decide +kernel
theorem dL_law_7 : decode cL_law 7 = .ok (.astore_n 1, 1) := by decide +kernel
theorem dL_law_8 : decode cL_law 8 = .ok (.aload_n 1, 1) := by decide +kernel
theorem dL_law_9 : decode cL_law 9 = .ok (.aload_n 0, 1) := by decide +kernel
theorem dL_law_10 : decode cL_law 10 = .ok (.invokestatic 111, 3) := by decide +kernel
theorem dL_law_13 : decode cL_law 13 = .ok (.astore_n 2, 1) := by decide +kernel
theorem dL_law_14 : decode cL_law 14 = .ok (.aload_n 2, 1) := by decide +kernel
theorem dL_law_15 : decode cL_law 15 = .ok (.ifnonnull 5, 3) := by decide +kernel
theorem dL_law_18 : decode cL_law 18 = .ok (.iconst 0, 1) := by decide +kernel
theorem dL_law_19 : decode cL_law 19 = .ok (.ireturn, 1) := by decide +kernel
theorem dL_law_20 : decode cL_law 20 = .ok (.iconst 0, 1) := by decide +kernel
theorem dL_law_21 : decode cL_law 21 = .ok (.istore_n 3, 1) := by decide +kernel
theorem dL_law_22 : decode cL_law 22 = .ok (.iload_n 3, 1) := by decide +kernel
theorem dL_law_23 : decode cL_law 23 = .ok (.bipush 6, 2) := by decide +kernel
theorem dL_law_25 : decode cL_law 25 = .ok (.if_icmp .ge 784, 3) := by decide +kernel
theorem dL_law_28 : decode cL_law 28 = .ok (.aload_n 0, 1) := by decide +kernel
theorem dL_law_29 : decode cL_law 29 = .ok (.iload_n 3, 1) := by decide +kernel
theorem dL_law_30 : decode cL_law 30 = .ok (.invokestatic 102, 3) := by decide +kernel
theorem dL_law_33 : decode cL_law 33 = .ok (.sipush 431, 3) := by decide +kernel
theorem dL_law_36 : decode cL_law 36 = .ok (.iload_n 3, 1) := by decide +kernel
theorem dL_law_37 : decode cL_law 37 = .ok (.imul, 1) := by decide +kernel
theorem dL_law_38 : decode cL_law 38 = .ok (.iadd, 1) := by decide +kernel
theorem dL_law_39 : decode cL_law 39 = .ok (.istore 4, 2) := by decide +kernel
theorem dL_law_41 : decode cL_law 41 = .ok (.aload_n 1, 1) := by decide +kernel
theorem dL_law_42 : decode cL_law 42 = .ok (.aload_n 2, 1) := by decide +kernel
theorem dL_law_43 : decode cL_law 43 = .ok (.iload 4, 2) := by decide +kernel
theorem dL_law_45 : decode cL_law 45 = .ok (.invokestatic 106, 3) := by decide +kernel
theorem dL_law_48 : decode cL_law 48 = .ok (.ifCond .ne 5, 3) := by decide +kernel
theorem dL_law_51 : decode cL_law 51 = .ok (.iconst 0, 1) := by decide +kernel
theorem dL_law_52 : decode cL_law 52 = .ok (.ireturn, 1) := by decide +kernel
theorem dL_law_53 : decode cL_law 53 = .ok (.iconst 0, 1) := by decide +kernel
theorem dL_law_54 : decode cL_law 54 = .ok (.istore 5, 2) := by decide +kernel
theorem dL_law_56 : decode cL_law 56 = .ok (.iconst 0, 1) := by decide +kernel
theorem dL_law_57 : decode cL_law 57 = .ok (.istore 6, 2) := by decide +kernel
theorem dL_law_59 : decode cL_law 59 = .ok (.iconst 0, 1) := by decide +kernel
theorem dL_law_60 : decode cL_law 60 = .ok (.istore 7, 2) := by decide +kernel
theorem dL_law_62 : decode cL_law 62 = .ok (.iconst 0, 1) := by decide +kernel
theorem dL_law_63 : decode cL_law 63 = .ok (.istore 8, 2) := by decide +kernel
theorem dL_law_65 : decode cL_law 65 = .ok (.iconst (-1), 1) := by decide +kernel
theorem dL_law_66 : decode cL_law 66 = .ok (.istore 9, 2) := by decide +kernel
theorem dL_law_68 : decode cL_law 68 = .ok (.iconst 0, 1) := by decide +kernel
theorem dL_law_69 : decode cL_law 69 = .ok (.istore 10, 2) := by decide +kernel
theorem dL_law_71 : decode cL_law 71 = .ok (.iload 10, 2) := by decide +kernel
theorem dL_law_73 : decode cL_law 73 = .ok (.bipush 12, 2) := by decide +kernel
theorem dL_law_75 : decode cL_law 75 = .ok (.if_icmp .ge 470, 3) := by decide +kernel
theorem dL_law_78 : decode cL_law 78 = .ok (.aload_n 1, 1) := by decide +kernel
theorem dL_law_79 : decode cL_law 79 = .ok (.iload 10, 2) := by decide +kernel
theorem dL_law_81 : decode cL_law 81 = .ok (.invokevirtual 115, 3) := by decide +kernel
theorem dL_law_84 : decode cL_law 84 = .ok (.aload_n 2, 1) := by decide +kernel
theorem dL_law_85 : decode cL_law 85 = .ok (.getfield 49, 3) := by decide +kernel
theorem dL_law_88 : decode cL_law 88 = .ok (.iload 10, 2) := by decide +kernel
theorem dL_law_90 : decode cL_law 90 = .ok (.aaload, 1) := by decide +kernel
theorem dL_law_91 : decode cL_law 91 = .ok (.ifnull 7, 3) := by decide +kernel
theorem dL_law_94 : decode cL_law 94 = .ok (.iconst 1, 1) := by decide +kernel
theorem dL_law_95 : decode cL_law 95 = .ok (.goto 4, 3) := by decide +kernel
theorem dL_law_98 : decode cL_law 98 = .ok (.iconst 0, 1) := by decide +kernel
theorem dL_law_99 : decode cL_law 99 = .ok (.if_icmp .eq 5, 3) := by decide +kernel
theorem dL_law_102 : decode cL_law 102 = .ok (.iconst 0, 1) := by decide +kernel
theorem dL_law_103 : decode cL_law 103 = .ok (.ireturn, 1) := by decide +kernel
theorem dL_law_104 : decode cL_law 104 = .ok (.aload_n 1, 1) := by decide +kernel
theorem dL_law_105 : decode cL_law 105 = .ok (.iload 10, 2) := by decide +kernel
theorem dL_law_107 : decode cL_law 107 = .ok (.invokevirtual 115, 3) := by decide +kernel
theorem dL_law_110 : decode cL_law 110 = .ok (.ifCond .ne 6, 3) := by decide +kernel
theorem dL_law_113 : decode cL_law 113 = .ok (.goto 426, 3) := by decide +kernel
theorem dL_law_116 : decode cL_law 116 = .ok (.iload 9, 2) := by decide +kernel
theorem dL_law_118 : decode cL_law 118 = .ok (.ifCond .ge 7, 3) := by decide +kernel
theorem dL_law_121 : decode cL_law 121 = .ok (.iload 10, 2) := by decide +kernel
theorem dL_law_123 : decode cL_law 123 = .ok (.istore 9, 2) := by decide +kernel
theorem dL_law_125 : decode cL_law 125 = .ok (.aload_n 1, 1) := by decide +kernel
theorem dL_law_126 : decode cL_law 126 = .ok (.iload 10, 2) := by decide +kernel
theorem dL_law_128 : decode cL_law 128 = .ok (.iconst 0, 1) := by decide +kernel
theorem dL_law_129 : decode cL_law 129 = .ok (.invokevirtual 119, 3) := by decide +kernel
theorem dL_law_132 : decode cL_law 132 = .ok (.istore 11, 2) := by decide +kernel
theorem dL_law_134 : decode cL_law 134 = .ok (.iconst 0, 1) := by decide +kernel
theorem dL_law_135 : decode cL_law 135 = .ok (.istore 12, 2) := by decide +kernel
theorem dL_law_137 : decode cL_law 137 = .ok (.iconst 0, 1) := by decide +kernel
theorem dL_law_138 : decode cL_law 138 = .ok (.istore 13, 2) := by decide +kernel
theorem dL_law_140 : decode cL_law 140 = .ok (.iload 13, 2) := by decide +kernel
theorem dL_law_142 : decode cL_law 142 = .ok (.bipush 8, 2) := by decide +kernel
theorem dL_law_144 : decode cL_law 144 = .ok (.if_icmp .ge 26, 3) := by decide +kernel
theorem dL_law_147 : decode cL_law 147 = .ok (.iload 12, 2) := by decide +kernel
theorem dL_law_149 : decode cL_law 149 = .ok (.aload_n 1, 1) := by decide +kernel
theorem dL_law_150 : decode cL_law 150 = .ok (.iload 10, 2) := by decide +kernel
theorem dL_law_152 : decode cL_law 152 = .ok (.iconst 2, 1) := by decide +kernel
theorem dL_law_153 : decode cL_law 153 = .ok (.invokevirtual 119, 3) := by decide +kernel
theorem dL_law_156 : decode cL_law 156 = .ok (.iload 13, 2) := by decide +kernel
theorem dL_law_158 : decode cL_law 158 = .ok (.ishr, 1) := by decide +kernel
theorem dL_law_159 : decode cL_law 159 = .ok (.iconst 1, 1) := by decide +kernel
theorem dL_law_160 : decode cL_law 160 = .ok (.iand, 1) := by decide +kernel
theorem dL_law_161 : decode cL_law 161 = .ok (.iadd, 1) := by decide +kernel
theorem dL_law_162 : decode cL_law 162 = .ok (.istore 12, 2) := by decide +kernel
theorem dL_law_164 : decode cL_law 164 = .ok (.iinc 13 1, 3) := by decide +kernel
theorem dL_law_167 : decode cL_law 167 = .ok (.goto (-27), 3) := by decide +kernel
theorem dL_law_170 : decode cL_law 170 = .ok (.iconst 0, 1) := by decide +kernel
theorem dL_law_171 : decode cL_law 171 = .ok (.istore 13, 2) := by decide +kernel
theorem dL_law_173 : decode cL_law 173 = .ok (.iconst 0, 1) := by decide +kernel
theorem dL_law_174 : decode cL_law 174 = .ok (.istore 14, 2) := by decide +kernel
theorem dL_law_176 : decode cL_law 176 = .ok (.iload 14, 2) := by decide +kernel
theorem dL_law_178 : decode cL_law 178 = .ok (.iload 11, 2) := by decide +kernel
theorem dL_law_180 : decode cL_law 180 = .ok (.if_icmp .ge 25, 3) := by decide +kernel
theorem dL_law_183 : decode cL_law 183 = .ok (.iload 13, 2) := by decide +kernel
theorem dL_law_185 : decode cL_law 185 = .ok (.iconst 1, 1) := by decide +kernel
theorem dL_law_186 : decode cL_law 186 = .ok (.aload_n 1, 1) := by decide +kernel
theorem dL_law_187 : decode cL_law 187 = .ok (.iload 10, 2) := by decide +kernel
theorem dL_law_189 : decode cL_law 189 = .ok (.iload 14, 2) := by decide +kernel
theorem dL_law_191 : decode cL_law 191 = .ok (.iconst 0, 1) := by decide +kernel
theorem dL_law_192 : decode cL_law 192 = .ok (.invokevirtual 122, 3) := by decide +kernel
theorem dL_law_195 : decode cL_law 195 = .ok (.ishl, 1) := by decide +kernel
theorem dL_law_196 : decode cL_law 196 = .ok (.ior, 1) := by decide +kernel
theorem dL_law_197 : decode cL_law 197 = .ok (.istore 13, 2) := by decide +kernel
theorem dL_law_199 : decode cL_law 199 = .ok (.iinc 14 1, 3) := by decide +kernel
theorem dL_law_202 : decode cL_law 202 = .ok (.goto (-26), 3) := by decide +kernel
theorem dL_law_205 : decode cL_law 205 = .ok (.iload 11, 2) := by decide +kernel
theorem dL_law_207 : decode cL_law 207 = .ok (.ifCond .ne 7, 3) := by decide +kernel
theorem dL_law_210 : decode cL_law 210 = .ok (.iconst 1, 1) := by decide +kernel
theorem dL_law_211 : decode cL_law 211 = .ok (.goto 4, 3) := by decide +kernel
theorem dL_law_214 : decode cL_law 214 = .ok (.iconst 0, 1) := by decide +kernel
theorem dL_law_215 : decode cL_law 215 = .ok (.iload 12, 2) := by decide +kernel
theorem dL_law_217 : decode cL_law 217 = .ok (.ifCond .ne 7, 3) := by decide +kernel
theorem dL_law_220 : decode cL_law 220 = .ok (.iconst 1, 1) := by decide +kernel
theorem dL_law_221 : decode cL_law 221 = .ok (.goto 4, 3) := by decide +kernel
theorem dL_law_224 : decode cL_law 224 = .ok (.iconst 0, 1) := by decide +kernel
theorem dL_law_225 : decode cL_law 225 = .ok (.if_icmp .ne 80, 3) := by decide +kernel
theorem dL_law_228 : decode cL_law 228 = .ok (.iload 13, 2) := by decide +kernel
theorem dL_law_230 : decode cL_law 230 = .ok (.aload_n 1, 1) := by decide +kernel
theorem dL_law_231 : decode cL_law 231 = .ok (.iload 10, 2) := by decide +kernel
theorem dL_law_233 : decode cL_law 233 = .ok (.iconst 2, 1) := by decide +kernel
theorem dL_law_234 : decode cL_law 234 = .ok (.invokevirtual 119, 3) := by decide +kernel
theorem dL_law_237 : decode cL_law 237 = .ok (.if_icmp .ne 68, 3) := by decide +kernel
theorem dL_law_240 : decode cL_law 240 = .ok (.iload 11, 2) := by decide +kernel
theorem dL_law_242 : decode cL_law 242 = .ok (.iload 12, 2) := by decide +kernel
theorem dL_law_244 : decode cL_law 244 = .ok (.if_icmp .lt 61, 3) := by decide +kernel
theorem dL_law_247 : decode cL_law 247 = .ok (.aload_n 1, 1) := by decide +kernel
theorem dL_law_248 : decode cL_law 248 = .ok (.iload 10, 2) := by decide +kernel
theorem dL_law_250 : decode cL_law 250 = .ok (.iconst 4, 1) := by decide +kernel
theorem dL_law_251 : decode cL_law 251 = .ok (.invokevirtual 119, 3) := by decide +kernel
theorem dL_law_254 : decode cL_law 254 = .ok (.iload 12, 2) := by decide +kernel
theorem dL_law_256 : decode cL_law 256 = .ok (.if_icmp .gt 49, 3) := by decide +kernel
theorem dL_law_259 : decode cL_law 259 = .ok (.aload_n 1, 1) := by decide +kernel
theorem dL_law_260 : decode cL_law 260 = .ok (.iload 10, 2) := by decide +kernel
theorem dL_law_262 : decode cL_law 262 = .ok (.iconst 3, 1) := by decide +kernel
theorem dL_law_263 : decode cL_law 263 = .ok (.invokevirtual 119, 3) := by decide +kernel
theorem dL_law_266 : decode cL_law 266 = .ok (.aload_n 1, 1) := by decide +kernel
theorem dL_law_267 : decode cL_law 267 = .ok (.iload 10, 2) := by decide +kernel
theorem dL_law_269 : decode cL_law 269 = .ok (.iconst 4, 1) := by decide +kernel
theorem dL_law_270 : decode cL_law 270 = .ok (.invokevirtual 119, 3) := by decide +kernel
theorem dL_law_273 : decode cL_law 273 = .ok (.if_icmp .gt 32, 3) := by decide +kernel
theorem dL_law_276 : decode cL_law 276 = .ok (.iload 11, 2) := by decide +kernel
theorem dL_law_278 : decode cL_law 278 = .ok (.ifCond .le 14, 3) := by decide +kernel
theorem dL_law_281 : decode cL_law 281 = .ok (.aload_n 1, 1) := by decide +kernel
theorem dL_law_282 : decode cL_law 282 = .ok (.iload 10, 2) := by decide +kernel
theorem dL_law_284 : decode cL_law 284 = .ok (.iconst 3, 1) := by decide +kernel
theorem dL_law_285 : decode cL_law 285 = .ok (.invokevirtual 119, 3) := by decide +kernel
theorem dL_law_288 : decode cL_law 288 = .ok (.iconst 1, 1) := by decide +kernel
theorem dL_law_289 : decode cL_law 289 = .ok (.if_icmp .lt 16, 3) := by decide +kernel
theorem dL_law_292 : decode cL_law 292 = .ok (.aload_n 1, 1) := by decide +kernel
theorem dL_law_293 : decode cL_law 293 = .ok (.iload 10, 2) := by decide +kernel
theorem dL_law_295 : decode cL_law 295 = .ok (.bipush 7, 2) := by decide +kernel
theorem dL_law_297 : decode cL_law 297 = .ok (.invokevirtual 119, 3) := by decide +kernel
theorem dL_law_300 : decode cL_law 300 = .ok (.iload 11, 2) := by decide +kernel
theorem dL_law_302 : decode cL_law 302 = .ok (.if_icmp .le 5, 3) := by decide +kernel
theorem dL_law_305 : decode cL_law 305 = .ok (.iconst 0, 1) := by decide +kernel
theorem dL_law_306 : decode cL_law 306 = .ok (.ireturn, 1) := by decide +kernel
theorem dL_law_307 : decode cL_law 307 = .ok (.aload_n 1, 1) := by decide +kernel
theorem dL_law_308 : decode cL_law 308 = .ok (.iload 10, 2) := by decide +kernel
theorem dL_law_310 : decode cL_law 310 = .ok (.invokevirtual 125, 3) := by decide +kernel
theorem dL_law_313 : decode cL_law 313 = .ok (.aload_n 1, 1) := by decide +kernel
theorem dL_law_314 : decode cL_law 314 = .ok (.iload 10, 2) := by decide +kernel
theorem dL_law_316 : decode cL_law 316 = .ok (.iconst 3, 1) := by decide +kernel
theorem dL_law_317 : decode cL_law 317 = .ok (.invokevirtual 119, 3) := by decide +kernel
theorem dL_law_320 : decode cL_law 320 = .ok (.i2d, 1) := by decide +kernel
theorem dL_law_321 : decode cL_law 321 = .ok (.dcmp .g, 1) := by decide +kernel
theorem dL_law_322 : decode cL_law 322 = .ok (.ifCond .lt 44, 3) := by decide +kernel
theorem dL_law_325 : decode cL_law 325 = .ok (.aload_n 1, 1) := by decide +kernel
theorem dL_law_326 : decode cL_law 326 = .ok (.iload 10, 2) := by decide +kernel
theorem dL_law_328 : decode cL_law 328 = .ok (.invokevirtual 125, 3) := by decide +kernel
theorem dL_law_331 : decode cL_law 331 = .ok (.aload_n 1, 1) := by decide +kernel
theorem dL_law_332 : decode cL_law 332 = .ok (.iload 10, 2) := by decide +kernel
theorem dL_law_334 : decode cL_law 334 = .ok (.iconst 4, 1) := by decide +kernel
theorem dL_law_335 : decode cL_law 335 = .ok (.invokevirtual 119, 3) := by decide +kernel
theorem dL_law_338 : decode cL_law 338 = .ok (.i2d, 1) := by decide +kernel
theorem dL_law_339 : decode cL_law 339 = .ok (.dcmp .l, 1) := by decide +kernel
theorem dL_law_340 : decode cL_law 340 = .ok (.ifCond .gt 26, 3) := by decide +kernel
theorem dL_law_343 : decode cL_law 343 = .ok (.aload_n 1, 1) := by decide +kernel
theorem dL_law_344 : decode cL_law 344 = .ok (.iload 10, 2) := by decide +kernel
theorem dL_law_346 : decode cL_law 346 = .ok (.iconst 1, 1) := by decide +kernel
theorem dL_law_347 : decode cL_law 347 = .ok (.invokevirtual 119, 3) := by decide +kernel
theorem dL_law_350 : decode cL_law 350 = .ok (.ifCond .lt 16, 3) := by decide +kernel
theorem dL_law_353 : decode cL_law 353 = .ok (.aload_n 1, 1) := by decide +kernel
theorem dL_law_354 : decode cL_law 354 = .ok (.iload 10, 2) := by decide +kernel
theorem dL_law_356 : decode cL_law 356 = .ok (.iconst 1, 1) := by decide +kernel
theorem dL_law_357 : decode cL_law 357 = .ok (.invokevirtual 119, 3) := by decide +kernel
theorem dL_law_360 : decode cL_law 360 = .ok (.sipush 256, 3) := by decide +kernel
theorem dL_law_363 : decode cL_law 363 = .ok (.if_icmp .le 5, 3) := by decide +kernel
theorem dL_law_366 : decode cL_law 366 = .ok (.iconst 0, 1) := by decide +kernel
theorem dL_law_367 : decode cL_law 367 = .ok (.ireturn, 1) := by decide +kernel
theorem dL_law_368 : decode cL_law 368 = .ok (.aload_n 1, 1) := by decide +kernel
theorem dL_law_369 : decode cL_law 369 = .ok (.iload 10, 2) := by decide +kernel
theorem dL_law_371 : decode cL_law 371 = .ok (.iconst 1, 1) := by decide +kernel
theorem dL_law_372 : decode cL_law 372 = .ok (.invokevirtual 119, 3) := by decide +kernel
theorem dL_law_375 : decode cL_law 375 = .ok (.ifCond .ne 7, 3) := by decide +kernel
theorem dL_law_378 : decode cL_law 378 = .ok (.iconst 1, 1) := by decide +kernel
theorem dL_law_379 : decode cL_law 379 = .ok (.goto 4, 3) := by decide +kernel
theorem dL_law_382 : decode cL_law 382 = .ok (.iconst 0, 1) := by decide +kernel
theorem dL_law_383 : decode cL_law 383 = .ok (.aload_n 1, 1) := by decide +kernel
theorem dL_law_384 : decode cL_law 384 = .ok (.iload 10, 2) := by decide +kernel
theorem dL_law_386 : decode cL_law 386 = .ok (.iconst 5, 1) := by decide +kernel
theorem dL_law_387 : decode cL_law 387 = .ok (.invokevirtual 119, 3) := by decide +kernel
theorem dL_law_390 : decode cL_law 390 = .ok (.iconst (-1), 1) := by decide +kernel
theorem dL_law_391 : decode cL_law 391 = .ok (.if_icmp .ne 7, 3) := by decide +kernel
theorem dL_law_394 : decode cL_law 394 = .ok (.iconst 1, 1) := by decide +kernel
theorem dL_law_395 : decode cL_law 395 = .ok (.goto 4, 3) := by decide +kernel
theorem dL_law_398 : decode cL_law 398 = .ok (.iconst 0, 1) := by decide +kernel
theorem dL_law_399 : decode cL_law 399 = .ok (.if_icmp .ne 49, 3) := by decide +kernel
theorem dL_law_402 : decode cL_law 402 = .ok (.aload_n 1, 1) := by decide +kernel
theorem dL_law_403 : decode cL_law 403 = .ok (.iload 10, 2) := by decide +kernel
theorem dL_law_405 : decode cL_law 405 = .ok (.iconst 5, 1) := by decide +kernel
theorem dL_law_406 : decode cL_law 406 = .ok (.invokevirtual 119, 3) := by decide +kernel
theorem dL_law_409 : decode cL_law 409 = .ok (.aload_n 1, 1) := by decide +kernel
theorem dL_law_410 : decode cL_law 410 = .ok (.iload 10, 2) := by decide +kernel
theorem dL_law_412 : decode cL_law 412 = .ok (.bipush 6, 2) := by decide +kernel
theorem dL_law_414 : decode cL_law 414 = .ok (.invokevirtual 119, 3) := by decide +kernel
theorem dL_law_417 : decode cL_law 417 = .ok (.if_icmp .gt 31, 3) := by decide +kernel
theorem dL_law_420 : decode cL_law 420 = .ok (.aload_n 1, 1) := by decide +kernel
theorem dL_law_421 : decode cL_law 421 = .ok (.iload 10, 2) := by decide +kernel
theorem dL_law_423 : decode cL_law 423 = .ok (.iconst 1, 1) := by decide +kernel
theorem dL_law_424 : decode cL_law 424 = .ok (.invokevirtual 119, 3) := by decide +kernel
theorem dL_law_427 : decode cL_law 427 = .ok (.aload_n 1, 1) := by decide +kernel
theorem dL_law_428 : decode cL_law 428 = .ok (.iload 10, 2) := by decide +kernel
theorem dL_law_430 : decode cL_law 430 = .ok (.bipush 6, 2) := by decide +kernel
theorem dL_law_432 : decode cL_law 432 = .ok (.invokevirtual 119, 3) := by decide +kernel
theorem dL_law_435 : decode cL_law 435 = .ok (.aload_n 1, 1) := by decide +kernel
theorem dL_law_436 : decode cL_law 436 = .ok (.iload 10, 2) := by decide +kernel
theorem dL_law_438 : decode cL_law 438 = .ok (.iconst 5, 1) := by decide +kernel
theorem dL_law_439 : decode cL_law 439 = .ok (.invokevirtual 119, 3) := by decide +kernel
theorem dL_law_442 : decode cL_law 442 = .ok (.isub, 1) := by decide +kernel
theorem dL_law_443 : decode cL_law 443 = .ok (.iconst 1, 1) := by decide +kernel
theorem dL_law_444 : decode cL_law 444 = .ok (.iadd, 1) := by decide +kernel
theorem dL_law_445 : decode cL_law 445 = .ok (.if_icmp .le 5, 3) := by decide +kernel
theorem dL_law_448 : decode cL_law 448 = .ok (.iconst 0, 1) := by decide +kernel
theorem dL_law_449 : decode cL_law 449 = .ok (.ireturn, 1) := by decide +kernel
theorem dL_law_450 : decode cL_law 450 = .ok (.aload_n 1, 1) := by decide +kernel
theorem dL_law_451 : decode cL_law 451 = .ok (.iload 10, 2) := by decide +kernel
theorem dL_law_453 : decode cL_law 453 = .ok (.iconst 5, 1) := by decide +kernel
theorem dL_law_454 : decode cL_law 454 = .ok (.invokevirtual 119, 3) := by decide +kernel
theorem dL_law_457 : decode cL_law 457 = .ok (.ifCond .lt 38, 3) := by decide +kernel
theorem dL_law_460 : decode cL_law 460 = .ok (.aload_n 1, 1) := by decide +kernel
theorem dL_law_461 : decode cL_law 461 = .ok (.iload 10, 2) := by decide +kernel
theorem dL_law_463 : decode cL_law 463 = .ok (.aload_n 1, 1) := by decide +kernel
theorem dL_law_464 : decode cL_law 464 = .ok (.iload 10, 2) := by decide +kernel
theorem dL_law_466 : decode cL_law 466 = .ok (.iconst 5, 1) := by decide +kernel
theorem dL_law_467 : decode cL_law 467 = .ok (.invokevirtual 119, 3) := by decide +kernel
theorem dL_law_470 : decode cL_law 470 = .ok (.invokevirtual 129, 3) := by decide +kernel
theorem dL_law_473 : decode cL_law 473 = .ok (.ifCond .eq 20, 3) := by decide +kernel
theorem dL_law_476 : decode cL_law 476 = .ok (.aload_n 1, 1) := by decide +kernel
theorem dL_law_477 : decode cL_law 477 = .ok (.iload 10, 2) := by decide +kernel
theorem dL_law_479 : decode cL_law 479 = .ok (.aload_n 1, 1) := by decide +kernel
theorem dL_law_480 : decode cL_law 480 = .ok (.iload 10, 2) := by decide +kernel
theorem dL_law_482 : decode cL_law 482 = .ok (.bipush 6, 2) := by decide +kernel
theorem dL_law_484 : decode cL_law 484 = .ok (.invokevirtual 119, 3) := by decide +kernel
theorem dL_law_487 : decode cL_law 487 = .ok (.invokevirtual 129, 3) := by decide +kernel
theorem dL_law_490 : decode cL_law 490 = .ok (.ifCond .ne 5, 3) := by decide +kernel
theorem dL_law_493 : decode cL_law 493 = .ok (.iconst 0, 1) := by decide +kernel
theorem dL_law_494 : decode cL_law 494 = .ok (.ireturn, 1) := by decide +kernel
theorem dL_law_495 : decode cL_law 495 = .ok (.iload 5, 2) := by decide +kernel
theorem dL_law_497 : decode cL_law 497 = .ok (.iload 11, 2) := by decide +kernel
theorem dL_law_499 : decode cL_law 499 = .ok (.iadd, 1) := by decide +kernel
theorem dL_law_500 : decode cL_law 500 = .ok (.istore 5, 2) := by decide +kernel
theorem dL_law_502 : decode cL_law 502 = .ok (.iload 6, 2) := by decide +kernel
theorem dL_law_504 : decode cL_law 504 = .ok (.iload 11, 2) := by decide +kernel
theorem dL_law_506 : decode cL_law 506 = .ok (.invokestatic 132, 3) := by decide +kernel
theorem dL_law_509 : decode cL_law 509 = .ok (.istore 6, 2) := by decide +kernel
theorem dL_law_511 : decode cL_law 511 = .ok (.iload 7, 2) := by decide +kernel
theorem dL_law_513 : decode cL_law 513 = .ok (.iload 11, 2) := by decide +kernel
theorem dL_law_515 : decode cL_law 515 = .ok (.ifCond .ne 7, 3) := by decide +kernel
theorem dL_law_518 : decode cL_law 518 = .ok (.iconst 1, 1) := by decide +kernel
theorem dL_law_519 : decode cL_law 519 = .ok (.goto 4, 3) := by decide +kernel
theorem dL_law_522 : decode cL_law 522 = .ok (.iconst 0, 1) := by decide +kernel
theorem dL_law_523 : decode cL_law 523 = .ok (.iadd, 1) := by decide +kernel
theorem dL_law_524 : decode cL_law 524 = .ok (.istore 7, 2) := by decide +kernel
theorem dL_law_526 : decode cL_law 526 = .ok (.iload 8, 2) := by decide +kernel
theorem dL_law_528 : decode cL_law 528 = .ok (.aload_n 1, 1) := by decide +kernel
theorem dL_law_529 : decode cL_law 529 = .ok (.iload 10, 2) := by decide +kernel
theorem dL_law_531 : decode cL_law 531 = .ok (.bipush 7, 2) := by decide +kernel
theorem dL_law_533 : decode cL_law 533 = .ok (.invokevirtual 119, 3) := by decide +kernel
theorem dL_law_536 : decode cL_law 536 = .ok (.iadd, 1) := by decide +kernel
theorem dL_law_537 : decode cL_law 537 = .ok (.istore 8, 2) := by decide +kernel
theorem dL_law_539 : decode cL_law 539 = .ok (.iinc 10 1, 3) := by decide +kernel
theorem dL_law_542 : decode cL_law 542 = .ok (.goto (-471), 3) := by decide +kernel
theorem dL_law_545 : decode cL_law 545 = .ok (.aload_n 1, 1) := by decide +kernel
theorem dL_law_546 : decode cL_law 546 = .ok (.iconst 2, 1) := by decide +kernel
theorem dL_law_547 : decode cL_law 547 = .ok (.invokevirtual 137, 3) := by decide +kernel
theorem dL_law_550 : decode cL_law 550 = .ok (.iload 5, 2) := by decide +kernel
theorem dL_law_552 : decode cL_law 552 = .ok (.if_icmp .ne 56, 3) := by decide +kernel
theorem dL_law_555 : decode cL_law 555 = .ok (.aload_n 1, 1) := by decide +kernel
theorem dL_law_556 : decode cL_law 556 = .ok (.iconst 1, 1) := by decide +kernel
theorem dL_law_557 : decode cL_law 557 = .ok (.invokevirtual 137, 3) := by decide +kernel
theorem dL_law_560 : decode cL_law 560 = .ok (.iload 5, 2) := by decide +kernel
theorem dL_law_562 : decode cL_law 562 = .ok (.if_icmp .gt 46, 3) := by decide +kernel
theorem dL_law_565 : decode cL_law 565 = .ok (.aload_n 1, 1) := by decide +kernel
theorem dL_law_566 : decode cL_law 566 = .ok (.iconst 1, 1) := by decide +kernel
theorem dL_law_567 : decode cL_law 567 = .ok (.invokevirtual 137, 3) := by decide +kernel
theorem dL_law_570 : decode cL_law 570 = .ok (.iload 6, 2) := by decide +kernel
theorem dL_law_572 : decode cL_law 572 = .ok (.if_icmp .lt 36, 3) := by decide +kernel
theorem dL_law_575 : decode cL_law 575 = .ok (.aload_n 1, 1) := by decide +kernel
theorem dL_law_576 : decode cL_law 576 = .ok (.iconst 1, 1) := by decide +kernel
theorem dL_law_577 : decode cL_law 577 = .ok (.invokevirtual 137, 3) := by decide +kernel
theorem dL_law_580 : decode cL_law 580 = .ok (.iload 8, 2) := by decide +kernel
theorem dL_law_582 : decode cL_law 582 = .ok (.if_icmp .lt 26, 3) := by decide +kernel
theorem dL_law_585 : decode cL_law 585 = .ok (.aload_n 1, 1) := by decide +kernel
theorem dL_law_586 : decode cL_law 586 = .ok (.iconst 4, 1) := by decide +kernel
theorem dL_law_587 : decode cL_law 587 = .ok (.invokevirtual 137, 3) := by decide +kernel
theorem dL_law_590 : decode cL_law 590 = .ok (.iload 7, 2) := by decide +kernel
theorem dL_law_592 : decode cL_law 592 = .ok (.if_icmp .ne 16, 3) := by decide +kernel
theorem dL_law_595 : decode cL_law 595 = .ok (.aload_n 1, 1) := by decide +kernel
theorem dL_law_596 : decode cL_law 596 = .ok (.iconst 3, 1) := by decide +kernel
theorem dL_law_597 : decode cL_law 597 = .ok (.invokevirtual 137, 3) := by decide +kernel
theorem dL_law_600 : decode cL_law 600 = .ok (.aload_n 1, 1) := by decide +kernel
theorem dL_law_601 : decode cL_law 601 = .ok (.iconst 1, 1) := by decide +kernel
theorem dL_law_602 : decode cL_law 602 = .ok (.invokevirtual 137, 3) := by decide +kernel
theorem dL_law_605 : decode cL_law 605 = .ok (.if_icmp .le 5, 3) := by decide +kernel
theorem dL_law_608 : decode cL_law 608 = .ok (.iconst 0, 1) := by decide +kernel
theorem dL_law_609 : decode cL_law 609 = .ok (.ireturn, 1) := by decide +kernel
theorem dL_law_610 : decode cL_law 610 = .ok (.aload_n 1, 1) := by decide +kernel
theorem dL_law_611 : decode cL_law 611 = .ok (.invokevirtual 140, 3) := by decide +kernel
theorem dL_law_614 : decode cL_law 614 = .ok (.istore 10, 2) := by decide +kernel
theorem dL_law_616 : decode cL_law 616 = .ok (.aload_n 1, 1) := by decide +kernel
theorem dL_law_617 : decode cL_law 617 = .ok (.iconst 1, 1) := by decide +kernel
theorem dL_law_618 : decode cL_law 618 = .ok (.invokevirtual 137, 3) := by decide +kernel
theorem dL_law_621 : decode cL_law 621 = .ok (.istore 11, 2) := by decide +kernel
theorem dL_law_623 : decode cL_law 623 = .ok (.iload 10, 2) := by decide +kernel
theorem dL_law_625 : decode cL_law 625 = .ok (.ifCond .lt 41, 3) := by decide +kernel
theorem dL_law_628 : decode cL_law 628 = .ok (.aload_n 1, 1) := by decide +kernel
theorem dL_law_629 : decode cL_law 629 = .ok (.iload 10, 2) := by decide +kernel
theorem dL_law_631 : decode cL_law 631 = .ok (.invokevirtual 63, 3) := by decide +kernel
theorem dL_law_634 : decode cL_law 634 = .ok (.istore 12, 2) := by decide +kernel
theorem dL_law_636 : decode cL_law 636 = .ok (.iload 12, 2) := by decide +kernel
theorem dL_law_638 : decode cL_law 638 = .ok (.iload 11, 2) := by decide +kernel
theorem dL_law_640 : decode cL_law 640 = .ok (.if_icmp .ge 24, 3) := by decide +kernel
theorem dL_law_643 : decode cL_law 643 = .ok (.aload_n 1, 1) := by decide +kernel
theorem dL_law_644 : decode cL_law 644 = .ok (.iconst 1, 1) := by decide +kernel
theorem dL_law_645 : decode cL_law 645 = .ok (.invokevirtual 137, 3) := by decide +kernel
theorem dL_law_648 : decode cL_law 648 = .ok (.iload 12, 2) := by decide +kernel
theorem dL_law_650 : decode cL_law 650 = .ok (.if_icmp .ne 14, 3) := by decide +kernel
theorem dL_law_653 : decode cL_law 653 = .ok (.aload_n 1, 1) := by decide +kernel
theorem dL_law_654 : decode cL_law 654 = .ok (.iload 10, 2) := by decide +kernel
theorem dL_law_656 : decode cL_law 656 = .ok (.invokevirtual 63, 3) := by decide +kernel
theorem dL_law_659 : decode cL_law 659 = .ok (.iload 11, 2) := by decide +kernel
theorem dL_law_661 : decode cL_law 661 = .ok (.if_icmp .eq 5, 3) := by decide +kernel
theorem dL_law_664 : decode cL_law 664 = .ok (.iconst 0, 1) := by decide +kernel
theorem dL_law_665 : decode cL_law 665 = .ok (.ireturn, 1) := by decide +kernel
theorem dL_law_666 : decode cL_law 666 = .ok (.aload_n 1, 1) := by decide +kernel
theorem dL_law_667 : decode cL_law 667 = .ok (.iconst 0, 1) := by decide +kernel
theorem dL_law_668 : decode cL_law 668 = .ok (.invokevirtual 137, 3) := by decide +kernel
theorem dL_law_671 : decode cL_law 671 = .ok (.istore 12, 2) := by decide +kernel
theorem dL_law_673 : decode cL_law 673 = .ok (.iload 12, 2) := by decide +kernel
theorem dL_law_675 : decode cL_law 675 = .ok (.bipush 12, 2) := by decide +kernel
theorem dL_law_677 : decode cL_law 677 = .ok (.if_icmp .ne 6, 3) := by decide +kernel
theorem dL_law_680 : decode cL_law 680 = .ok (.goto 123, 3) := by decide +kernel
theorem dL_law_683 : decode cL_law 683 = .ok (.iload 4, 2) := by decide +kernel
theorem dL_law_685 : decode cL_law 685 = .ok (.iconst 2, 1) := by decide +kernel
theorem dL_law_686 : decode cL_law 686 = .ok (.ishr, 1) := by decide +kernel
theorem dL_law_687 : decode cL_law 687 = .ok (.iconst 2, 1) := by decide +kernel
theorem dL_law_688 : decode cL_law 688 = .ok (.invokestatic 45, 3) := by decide +kernel
theorem dL_law_691 : decode cL_law 691 = .ok (.istore 13, 2) := by decide +kernel
theorem dL_law_693 : decode cL_law 693 = .ok (.aload_n 1, 1) := by decide +kernel
theorem dL_law_694 : decode cL_law 694 = .ok (.iload 9, 2) := by decide +kernel
theorem dL_law_696 : decode cL_law 696 = .ok (.iload 9, 2) := by decide +kernel
theorem dL_law_698 : decode cL_law 698 = .ok (.iload 13, 2) := by decide +kernel
theorem dL_law_700 : decode cL_law 700 = .ok (.invokevirtual 143, 3) := by decide +kernel
theorem dL_law_703 : decode cL_law 703 = .ok (.istore 14, 2) := by decide +kernel
theorem dL_law_705 : decode cL_law 705 = .ok (.aload_n 1, 1) := by decide +kernel
theorem dL_law_706 : decode cL_law 706 = .ok (.iload 9, 2) := by decide +kernel
theorem dL_law_708 : decode cL_law 708 = .ok (.iload 9, 2) := by decide +kernel
theorem dL_law_710 : decode cL_law 710 = .ok (.iload 13, 2) := by decide +kernel
theorem dL_law_712 : decode cL_law 712 = .ok (.invokevirtual 84, 3) := by decide +kernel
theorem dL_law_715 : decode cL_law 715 = .ok (.istore 15, 2) := by decide +kernel
theorem dL_law_717 : decode cL_law 717 = .ok (.aload_n 1, 1) := by decide +kernel
theorem dL_law_718 : decode cL_law 718 = .ok (.iload 15, 2) := by decide +kernel
theorem dL_law_720 : decode cL_law 720 = .ok (.iload 9, 2) := by decide +kernel
theorem dL_law_722 : decode cL_law 722 = .ok (.invokevirtual 146, 3) := by decide +kernel
theorem dL_law_725 : decode cL_law 725 = .ok (.ifCond .ne 76, 3) := by decide +kernel
theorem dL_law_728 : decode cL_law 728 = .ok (.aload_n 1, 1) := by decide +kernel
theorem dL_law_729 : decode cL_law 729 = .ok (.iload 15, 2) := by decide +kernel
theorem dL_law_731 : decode cL_law 731 = .ok (.iconst 0, 1) := by decide +kernel
theorem dL_law_732 : decode cL_law 732 = .ok (.invokevirtual 119, 3) := by decide +kernel
theorem dL_law_735 : decode cL_law 735 = .ok (.iload 14, 2) := by decide +kernel
theorem dL_law_737 : decode cL_law 737 = .ok (.if_icmp .ne 64, 3) := by decide +kernel
theorem dL_law_740 : decode cL_law 740 = .ok (.aload_n 1, 1) := by decide +kernel
theorem dL_law_741 : decode cL_law 741 = .ok (.iload 15, 2) := by decide +kernel
theorem dL_law_743 : decode cL_law 743 = .ok (.iconst 0, 1) := by decide +kernel
theorem dL_law_744 : decode cL_law 744 = .ok (.invokevirtual 119, 3) := by decide +kernel
theorem dL_law_747 : decode cL_law 747 = .ok (.aload_n 1, 1) := by decide +kernel
theorem dL_law_748 : decode cL_law 748 = .ok (.iload 9, 2) := by decide +kernel
theorem dL_law_750 : decode cL_law 750 = .ok (.iconst 0, 1) := by decide +kernel
theorem dL_law_751 : decode cL_law 751 = .ok (.invokevirtual 119, 3) := by decide +kernel
theorem dL_law_754 : decode cL_law 754 = .ok (.if_icmp .ne 47, 3) := by decide +kernel
theorem dL_law_757 : decode cL_law 757 = .ok (.aload_n 1, 1) := by decide +kernel
theorem dL_law_758 : decode cL_law 758 = .ok (.iload 15, 2) := by decide +kernel
theorem dL_law_760 : decode cL_law 760 = .ok (.bipush 7, 2) := by decide +kernel
theorem dL_law_762 : decode cL_law 762 = .ok (.invokevirtual 119, 3) := by decide +kernel
theorem dL_law_765 : decode cL_law 765 = .ok (.ifCond .ne 36, 3) := by decide +kernel
theorem dL_law_768 : decode cL_law 768 = .ok (.aload_n 1, 1) := by decide +kernel
theorem dL_law_769 : decode cL_law 769 = .ok (.iconst 1, 1) := by decide +kernel
theorem dL_law_770 : decode cL_law 770 = .ok (.invokevirtual 137, 3) := by decide +kernel
theorem dL_law_773 : decode cL_law 773 = .ok (.iload 11, 2) := by decide +kernel
theorem dL_law_775 : decode cL_law 775 = .ok (.if_icmp .ne 26, 3) := by decide +kernel
theorem dL_law_778 : decode cL_law 778 = .ok (.aload_n 1, 1) := by decide +kernel
theorem dL_law_779 : decode cL_law 779 = .ok (.iconst 0, 1) := by decide +kernel
theorem dL_law_780 : decode cL_law 780 = .ok (.invokevirtual 137, 3) := by decide +kernel
theorem dL_law_783 : decode cL_law 783 = .ok (.iload 12, 2) := by decide +kernel
theorem dL_law_785 : decode cL_law 785 = .ok (.iconst 1, 1) := by decide +kernel
theorem dL_law_786 : decode cL_law 786 = .ok (.iadd, 1) := by decide +kernel
theorem dL_law_787 : decode cL_law 787 = .ok (.if_icmp .ne 14, 3) := by decide +kernel
theorem dL_law_790 : decode cL_law 790 = .ok (.aload_n 1, 1) := by decide +kernel
theorem dL_law_791 : decode cL_law 791 = .ok (.iload 15, 2) := by decide +kernel
theorem dL_law_793 : decode cL_law 793 = .ok (.invokevirtual 53, 3) := by decide +kernel
theorem dL_law_796 : decode cL_law 796 = .ok (.iload 12, 2) := by decide +kernel
theorem dL_law_798 : decode cL_law 798 = .ok (.if_icmp .eq 5, 3) := by decide +kernel
theorem dL_law_801 : decode cL_law 801 = .ok (.iconst 0, 1) := by decide +kernel
theorem dL_law_802 : decode cL_law 802 = .ok (.ireturn, 1) := by decide +kernel
theorem dL_law_803 : decode cL_law 803 = .ok (.iinc 3 1, 3) := by decide +kernel
theorem dL_law_806 : decode cL_law 806 = .ok (.goto (-784), 3) := by decide +kernel
theorem dL_law_809 : decode cL_law 809 = .ok (.aload_n 2, 1) := by decide +kernel
theorem dL_law_810 : decode cL_law 810 = .ok (.aload_n 1, 1) := by decide +kernel
theorem dL_law_811 : decode cL_law 811 = .ok (.iconst 0, 1) := by decide +kernel
theorem dL_law_812 : decode cL_law 812 = .ok (.invokevirtual 149, 3) := by decide +kernel
theorem dL_law_815 : decode cL_law 815 = .ok (.ireturn, 1) := by decide +kernel

