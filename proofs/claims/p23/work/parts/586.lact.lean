set_option maxRecDepth 20000 in
theorem ggL_act_X4_many : GoodIn wsL_act wsX4_many := goodIn_r _ [9, 10, 209, 210, 211] (by decide +kernel) (by decide +kernel)
set_option maxRecDepth 20000 in
theorem gL_act_X4_many : GoodIn wsL_act (wsV RL 36 RX4 yX4_many wsX4_many) := goodIn_app (goodIn_of _ (by decide +kernel)) ggL_act_X4_many
set_option maxRecDepth 20000 in
theorem ggL_act_X4_free : GoodIn wsL_act wsX4_free := goodIn_r _ [14, 10, 209, 210, 211] (by decide +kernel) (by decide +kernel)
set_option maxRecDepth 20000 in
theorem gL_act_X4_free : GoodIn wsL_act (wsV RL 42 RX4 yX4_free wsX4_free) := goodIn_app (goodIn_of _ (by decide +kernel)) ggL_act_X4_free
set_option maxRecDepth 20000 in
theorem ggL_act_L_below : GoodIn wsL_act wsL_below := goodIn_r _ [18, 19] (by decide +kernel) (by decide +kernel)
set_option maxRecDepth 20000 in
theorem gL_act_L_below : GoodIn wsL_act (va_wsS RL 45 yL_below wsL_below) := goodIn_app (goodIn_of _ (by decide +kernel)) ggL_act_L_below
set_option maxRecDepth 20000 in
theorem ggL_act_X2_drop : GoodIn wsL_act wsX2_drop := goodIn_ca (goodIn_r _ [24, 25, 26, 27, 23, 28, 29, 30, 31, 32, 33, 34, 35, 36, 37, 38, 39, 40, 41, 42, 43, 44, 45, 46, 47, 48, 49, 50, 51, 52, 53, 54, 55, 56, 57, 58, 59, 60, 61, 62, 63, 64, 65, 66, 67, 68, 69, 70, 71, 72, 73, 74, 75, 76, 77, 78, 79, 80, 81, 82, 83, 84, 85, 86, 87, 88, 89, 90, 91, 92, 212, 213, 214, 215, 216, 217, 218, 219, 220, 221, 222, 223, 224, 225, 226, 227, 228, 229, 230, 231, 232, 233, 234] (by decide +kernel) (by decide +kernel)) (goodIn_sub (fun _ h => List.mem_cons_of_mem _ (List.mem_append_left _ (List.mem_append_right _ h))) (by decide +kernel))
set_option maxRecDepth 20000 in
theorem gL_act_X2_drop : GoodIn wsL_act (wsV RL 53 RX2 yX2_drop wsX2_drop) := goodIn_app (goodIn_of _ (by decide +kernel)) ggL_act_X2_drop
set_option maxRecDepth 20000 in
theorem ggL_act_X2_swap : GoodIn wsL_act wsX2_swap := goodIn_ca (goodIn_r _ [96, 37, 36, 97, 98, 23, 99, 29, 30, 100, 101, 102, 32, 33, 34, 35, 31, 38, 39, 40, 41, 42, 43, 44, 45, 46, 47, 48, 49, 50, 51, 52, 53, 54, 55, 56, 57, 58, 59, 60, 61, 62, 63, 64, 65, 66, 67, 68, 69, 70, 71, 72, 73, 74, 75, 76, 77, 78, 79, 80, 81, 82, 83, 84, 85, 86, 87, 88, 219, 220, 221, 222, 223, 224, 225, 226, 227, 228, 229, 230, 231, 232, 233, 234, 212, 213, 214, 215, 216, 217, 218] (by decide +kernel) (by decide +kernel)) (goodIn_sub (fun _ h => List.mem_cons_of_mem _ (List.mem_append_left _ (List.mem_append_right _ h))) (by decide +kernel))
set_option maxRecDepth 20000 in
theorem gL_act_X2_swap : GoodIn wsL_act (wsV RL 63 RX2 yX2_swap wsX2_swap) := goodIn_app (goodIn_of _ (by decide +kernel)) ggL_act_X2_swap
set_option maxRecDepth 20000 in
theorem ggL_act_X4_all : GoodIn wsL_act wsX4_all := goodIn_r _ [106, 107, 10, 108, 109, 17, 110, 111, 112, 113, 114, 115, 116, 117, 118, 119, 120, 121, 122, 123, 124, 125, 126, 127, 1, 128, 129, 130, 131, 132, 133, 134, 4, 135, 136, 137, 138, 139, 140, 141, 142, 143, 144, 145, 146, 209, 210, 211, 235, 236, 237] (by decide +kernel) (by decide +kernel)
set_option maxRecDepth 20000 in
theorem gL_act_X4_all : GoodIn wsL_act (wsV RL 66 RX4 yX4_all wsX4_all) := goodIn_app (goodIn_of _ (by decide +kernel)) ggL_act_X4_all
set_option maxRecDepth 20000 in
theorem ggL_act_X4_together : GoodIn wsL_act wsX4_together := goodIn_r _ [149, 150, 151, 152, 153, 154, 8, 155, 131, 17, 132, 235, 236, 237] (by decide +kernel) (by decide +kernel)
set_option maxRecDepth 20000 in
theorem gL_act_X4_together : GoodIn wsL_act (va_wsS RL 70 yX4_together wsX4_together) := goodIn_app (goodIn_of _ (by decide +kernel)) ggL_act_X4_together
set_option maxRecDepth 20000 in
theorem ggL_act_L_set : GoodIn wsL_act wsL_set := goodIn_r _ [140] (by decide +kernel) (by decide +kernel)
set_option maxRecDepth 20000 in
theorem gL_act_L_set : GoodIn wsL_act (va_wsS RL 15 yL_set wsL_set) := goodIn_app (goodIn_of _ (by decide +kernel)) ggL_act_L_set
set_option maxRecDepth 20000 in
theorem ggL_act_X2_ask : GoodIn wsL_act wsX2_ask := goodIn_ca (goodIn_ca (goodIn_r _ [159, 31, 97, 98, 23, 99, 29, 30, 160, 161, 162, 163, 164, 165, 166, 167, 168, 169, 170, 171, 172, 32, 33, 34, 35, 36, 37, 38, 39, 40, 41, 42, 43, 44, 45, 46, 47, 48, 49, 50, 51, 52, 53, 54, 55, 56, 57, 58, 59, 60, 61, 62, 63, 64, 65, 66, 67, 68, 69, 70, 71, 72, 73, 74, 75, 76, 77, 78, 79, 80, 81, 82, 83, 84, 85, 86, 87, 88, 219, 220, 221, 222, 223, 224, 212, 213, 214, 215, 216, 217, 218, 225, 226, 227, 228, 229, 230, 231, 232, 233, 234] (by decide +kernel) (by decide +kernel)) (goodIn_sub (fun _ h => List.mem_cons_of_mem _ (List.mem_append_left _ (List.mem_append_right _ h))) (by decide +kernel))) (goodIn_sub (fun _ h => List.mem_cons_of_mem _ (List.mem_append_right _ h)) (by decide +kernel))
set_option maxRecDepth 20000 in
theorem gL_act_X2_ask : GoodIn wsL_act (wsV RL 74 RX2 yX2_ask wsX2_ask) := goodIn_app (goodIn_of _ (by decide +kernel)) ggL_act_X2_ask
set_option maxRecDepth 20000 in
theorem ggL_act_X2_leaf : GoodIn wsL_act wsX2_leaf := goodIn_ca (goodIn_r _ [176, 31, 160, 161, 162, 23, 163, 164, 165, 169, 170, 171, 172, 32, 33, 34, 35, 36, 37, 38, 39, 40, 41, 42, 43, 44, 45, 46, 47, 48, 49, 50, 51, 52, 53, 54, 55, 56, 57, 58, 59, 60, 61, 62, 63, 64, 65, 66, 67, 68, 69, 70, 71, 72, 73, 74, 75, 76, 77, 78, 79, 80, 81, 82, 83, 84, 85, 86, 87, 88, 219, 220, 221, 222, 223, 224, 212, 213, 214, 215, 216, 217, 218, 225, 226, 227, 228, 229, 230, 231, 232, 233, 234] (by decide +kernel) (by decide +kernel)) (goodIn_sub (fun _ h => List.mem_cons_of_mem _ (List.mem_append_right _ h)) (by decide +kernel))
set_option maxRecDepth 20000 in
theorem gL_act_X2_leaf : GoodIn wsL_act (wsV RL 77 RX2 yX2_leaf wsX2_leaf) := goodIn_app (goodIn_of _ (by decide +kernel)) ggL_act_X2_leaf
set_option maxRecDepth 20000 in
theorem ggL_act_L_joined_ : GoodIn wsL_act wsL_joined_ := goodIn_r _ [179, 4, 135, 136, 17, 137, 180, 181, 182, 138, 139, 140] (by decide +kernel) (by decide +kernel)
set_option maxRecDepth 20000 in
theorem gL_act_L_joined_ : GoodIn wsL_act (va_wsS RL 81 yL_joined_ wsL_joined_) := goodIn_app (goodIn_of _ (by decide +kernel)) ggL_act_L_joined_
set_option maxRecDepth 20000 in
theorem ggL_act_X2_join : GoodIn wsL_act wsX2_join := goodIn_ca (goodIn_ca (goodIn_r _ [186, 31, 25, 26, 27, 23, 28, 29, 30, 97, 98, 99, 160, 161, 162, 163, 164, 165, 187, 188, 189, 190, 191, 192, 169, 170, 171, 172, 32, 33, 34, 35, 36, 37, 38, 39, 40, 41, 42, 43, 44, 45, 46, 47, 48, 49, 50, 51, 52, 53, 54, 55, 56, 57, 58, 59, 60, 61, 62, 63, 64, 65, 66, 67, 68, 69, 70, 71, 72, 73, 74, 75, 76, 77, 78, 79, 80, 81, 82, 83, 84, 85, 86, 87, 88, 219, 220, 221, 222, 223, 224, 212, 213, 214, 215, 216, 217, 218, 225, 226, 227, 228, 229, 230, 231, 232, 233, 234] (by decide +kernel) (by decide +kernel)) (goodIn_sub (fun _ h => List.mem_cons_of_mem _ (List.mem_append_left _ (List.mem_append_right _ h))) (by decide +kernel))) (goodIn_sub (fun _ h => List.mem_cons_of_mem _ (List.mem_append_right _ h)) (by decide +kernel))
set_option maxRecDepth 20000 in
theorem gL_act_X2_join : GoodIn wsL_act (wsV RL 84 RX2 yX2_join wsX2_join) := goodIn_app (goodIn_of _ (by decide +kernel)) ggL_act_X2_join
set_option maxRecDepth 20000 in
theorem ggL_act_L_says : GoodIn wsL_act wsL_says := goodIn_r _ [137] (by decide +kernel) (by decide +kernel)
set_option maxRecDepth 20000 in
theorem gL_act_L_says : GoodIn wsL_act (va_wsS RL 9 yL_says wsL_says) := goodIn_app (goodIn_of _ (by decide +kernel)) ggL_act_L_says
set_option maxRecDepth 20000 in
theorem ggL_act_X2_choose : GoodIn wsL_act wsX2_choose := goodIn_ca (goodIn_ca (goodIn_r _ [196, 31, 25, 26, 27, 23, 28, 29, 30, 160, 161, 162, 163, 164, 165, 169, 170, 171, 172, 32, 33, 34, 35, 36, 37, 38, 39, 40, 41, 42, 43, 44, 45, 46, 47, 48, 49, 50, 51, 52, 53, 54, 55, 56, 57, 58, 59, 60, 61, 62, 63, 64, 65, 66, 67, 68, 69, 70, 71, 72, 73, 74, 75, 76, 77, 78, 79, 80, 81, 82, 83, 84, 85, 86, 87, 88, 219, 220, 221, 222, 223, 224, 212, 213, 214, 215, 216, 217, 218, 225, 226, 227, 228, 229, 230, 231, 232, 233, 234] (by decide +kernel) (by decide +kernel)) (goodIn_sub (fun _ h => List.mem_cons_of_mem _ (List.mem_append_left _ (List.mem_append_right _ h))) (by decide +kernel))) (goodIn_sub (fun _ h => List.mem_cons_of_mem _ (List.mem_append_right _ h)) (by decide +kernel))
set_option maxRecDepth 20000 in
theorem gL_act_X2_choose : GoodIn wsL_act (wsV RL 88 RX2 yX2_choose wsX2_choose) := goodIn_app (goodIn_of _ (by decide +kernel)) ggL_act_X2_choose
set_option maxRecDepth 20000 in
theorem ggL_act_L_given : GoodIn wsL_act wsL_given := goodIn_r _ [134, 4, 135, 136, 17, 137, 138, 139, 140] (by decide +kernel) (by decide +kernel)
set_option maxRecDepth 20000 in
theorem gL_act_L_given : GoodIn wsL_act (va_wsS RL 91 yL_given wsL_given) := goodIn_app (goodIn_of _ (by decide +kernel)) ggL_act_L_given
set_option maxRecDepth 20000 in
theorem ggL_act_X2_given : GoodIn wsL_act wsX2_given := goodIn_ca (goodIn_ca (goodIn_r _ [201, 31, 25, 26, 27, 23, 28, 29, 30, 97, 98, 99, 160, 161, 162, 163, 164, 165, 202, 203, 204, 169, 170, 171, 172, 32, 33, 34, 35, 36, 37, 38, 39, 40, 41, 42, 43, 44, 45, 46, 47, 48, 49, 50, 51, 52, 53, 54, 55, 56, 57, 58, 59, 60, 61, 62, 63, 64, 65, 66, 67, 68, 69, 70, 71, 72, 73, 74, 75, 76, 77, 78, 79, 80, 81, 82, 83, 84, 85, 86, 87, 88, 219, 220, 221, 222, 223, 224, 212, 213, 214, 215, 216, 217, 218, 225, 226, 227, 228, 229, 230, 231, 232, 233, 234] (by decide +kernel) (by decide +kernel)) (goodIn_sub (fun _ h => List.mem_cons_of_mem _ (List.mem_append_left _ (List.mem_append_right _ h))) (by decide +kernel))) (goodIn_sub (fun _ h => List.mem_cons_of_mem _ (List.mem_append_right _ h)) (by decide +kernel))
set_option maxRecDepth 20000 in
theorem gL_act_X2_given : GoodIn wsL_act (wsV RL 95 RX2 yX2_given wsX2_given) := goodIn_app (goodIn_of _ (by decide +kernel)) ggL_act_X2_given
set_option maxRecDepth 20000 in
theorem ggL_act_X2_without : GoodIn wsL_act wsX2_without := goodIn_ca (goodIn_ca (goodIn_r _ [208, 31, 25, 26, 27, 23, 28, 29, 30, 97, 98, 99, 160, 161, 162, 163, 164, 165, 202, 203, 204, 169, 170, 171, 172, 32, 33, 34, 35, 36, 37, 38, 39, 40, 41, 42, 43, 44, 45, 46, 47, 48, 49, 50, 51, 52, 53, 54, 55, 56, 57, 58, 59, 60, 61, 62, 63, 64, 65, 66, 67, 68, 69, 70, 71, 72, 73, 74, 75, 76, 77, 78, 79, 80, 81, 82, 83, 84, 85, 86, 87, 88, 219, 220, 221, 222, 223, 224, 212, 213, 214, 215, 216, 217, 218, 225, 226, 227, 228, 229, 230, 231, 232, 233, 234] (by decide +kernel) (by decide +kernel)) (goodIn_sub (fun _ h => List.mem_cons_of_mem _ (List.mem_append_left _ (List.mem_append_right _ h))) (by decide +kernel))) (goodIn_sub (fun _ h => List.mem_cons_of_mem _ (List.mem_append_right _ h)) (by decide +kernel))
set_option maxRecDepth 20000 in
theorem gL_act_X2_without : GoodIn wsL_act (wsV RL 98 RX2 yX2_without wsX2_without) := goodIn_app (goodIn_of _ (by decide +kernel)) ggL_act_X2_without
theorem dL_act_0 : decode cL_act 0 = .ok (.aload_n 1, 1) := by decide +kernel
theorem dL_act_1 : decode cL_act 1 = .ok (.invokevirtual 36, 3) := by decide +kernel
theorem dL_act_4 : decode cL_act 4 = .ok (.istore_n 3, 1) := by decide +kernel
theorem dL_act_5 : decode cL_act 5 = .ok (.aload_n 1, 1) := by decide +kernel
theorem dL_act_6 : decode cL_act 6 = .ok (.invokevirtual 42, 3) := by decide +kernel
theorem dL_act_9 : decode cL_act 9 = .ok (.istore 4, 2) := by decide +kernel
theorem dL_act_11 : decode cL_act 11 = .ok (.iconst 3, 1) := by decide +kernel
theorem dL_act_12 : decode cL_act 12 = .ok (.newarray .int, 2) := by decide +kernel
theorem dL_act_14 : decode cL_act 14 = .ok (.astore 5, 2) := by decide +kernel
theorem dL_act_16 : decode cL_act 16 = .ok (.iconst 0, 1) := by decide +kernel
theorem dL_act_17 : decode cL_act 17 = .ok (.istore 6, 2) := by decide +kernel
theorem dL_act_19 : decode cL_act 19 = .ok (.iload 6, 2) := by decide +kernel
theorem dL_act_21 : decode cL_act 21 = .ok (.iconst 3, 1) := by decide +kernel
theorem dL_act_22 : decode cL_act 22 = .ok (.if_icmp .ge 58, 3) := by decide +kernel
theorem dL_act_25 : decode cL_act 25 = .ok (.iload_n 3, 1) := by decide +kernel
theorem dL_act_26 : decode cL_act 26 = .ok (.ifCond .le 54, 3) := by decide +kernel
theorem dL_act_29 : decode cL_act 29 = .ok (.iload_n 2, 1) := by decide +kernel
theorem dL_act_30 : decode cL_act 30 = .ok (.iconst 2, 1) := by decide +kernel
theorem dL_act_31 : decode cL_act 31 = .ok (.iload 6, 2) := by decide +kernel
theorem dL_act_33 : decode cL_act 33 = .ok (.imul, 1) := by decide +kernel
theorem dL_act_34 : decode cL_act 34 = .ok (.ishr, 1) := by decide +kernel
theorem dL_act_35 : decode cL_act 35 = .ok (.iload 6, 2) := by decide +kernel
theorem dL_act_37 : decode cL_act 37 = .ok (.iadd, 1) := by decide +kernel
theorem dL_act_38 : decode cL_act 38 = .ok (.bipush 12, 2) := by decide +kernel
theorem dL_act_40 : decode cL_act 40 = .ok (.invokestatic 45, 3) := by decide +kernel
theorem dL_act_43 : decode cL_act 43 = .ok (.istore 7, 2) := by decide +kernel
theorem dL_act_45 : decode cL_act 45 = .ok (.aload_n 1, 1) := by decide +kernel
theorem dL_act_46 : decode cL_act 46 = .ok (.getfield 49, 3) := by decide +kernel
theorem dL_act_49 : decode cL_act 49 = .ok (.iload 7, 2) := by decide +kernel
theorem dL_act_51 : decode cL_act 51 = .ok (.aaload, 1) := by decide +kernel
theorem dL_act_52 : decode cL_act 52 = .ok (.ifnonnull 15, 3) := by decide +kernel
theorem dL_act_55 : decode cL_act 55 = .ok (.iload 7, 2) := by decide +kernel
theorem dL_act_57 : decode cL_act 57 = .ok (.iconst 1, 1) := by decide +kernel
theorem dL_act_58 : decode cL_act 58 = .ok (.iadd, 1) := by decide +kernel
theorem dL_act_59 : decode cL_act 59 = .ok (.bipush 12, 2) := by decide +kernel
theorem dL_act_61 : decode cL_act 61 = .ok (.irem, 1) := by decide +kernel
theorem dL_act_62 : decode cL_act 62 = .ok (.istore 7, 2) := by decide +kernel
theorem dL_act_64 : decode cL_act 64 = .ok (.goto (-19), 3) := by decide +kernel
theorem dL_act_67 : decode cL_act 67 = .ok (.aload 5, 2) := by decide +kernel
theorem dL_act_69 : decode cL_act 69 = .ok (.iload 6, 2) := by decide +kernel
theorem dL_act_71 : decode cL_act 71 = .ok (.iload 7, 2) := by decide +kernel
theorem dL_act_73 : decode cL_act 73 = .ok (.iastore, 1) := by decide +kernel
theorem dL_act_74 : decode cL_act 74 = .ok (.iinc 6 1, 3) := by decide +kernel
theorem dL_act_77 : decode cL_act 77 = .ok (.goto (-58), 3) := by decide +kernel
theorem dL_act_80 : decode cL_act 80 = .ok (.iload_n 2, 1) := by decide +kernel
theorem dL_act_81 : decode cL_act 81 = .ok (.iconst 3, 1) := by decide +kernel
theorem dL_act_82 : decode cL_act 82 = .ok (.ishr, 1) := by decide +kernel
theorem dL_act_83 : decode cL_act 83 = .ok (.bipush 8, 2) := by decide +kernel
theorem dL_act_85 : decode cL_act 85 = .ok (.invokestatic 45, 3) := by decide +kernel
theorem dL_act_88 : decode cL_act 88 = .ok (.istore 6, 2) := by decide +kernel
theorem dL_act_90 : decode cL_act 90 = .ok (.iload_n 2, 1) := by decide +kernel
theorem dL_act_91 : decode cL_act 91 = .ok (.bipush 9, 2) := by decide +kernel
theorem dL_act_93 : decode cL_act 93 = .ok (.ishr, 1) := by decide +kernel
theorem dL_act_94 : decode cL_act 94 = .ok (.bipush 16, 2) := by decide +kernel
theorem dL_act_96 : decode cL_act 96 = .ok (.invokestatic 45, 3) := by decide +kernel
theorem dL_act_99 : decode cL_act 99 = .ok (.istore 7, 2) := by decide +kernel
theorem dL_act_101 : decode cL_act 101 = .ok (.iload 7, 2) := by decide +kernel
theorem dL_act_103 : decode cL_act 103 = .ok (.ifCond .ne 8, 3) := by decide +kernel
theorem dL_act_106 : decode cL_act 106 = .ok (.iload_n 3, 1) := by decide +kernel
theorem dL_act_107 : decode cL_act 107 = .ok (.iconst 3, 1) := by decide +kernel
theorem dL_act_108 : decode cL_act 108 = .ok (.if_icmp .gt 9, 3) := by decide +kernel
theorem dL_act_111 : decode cL_act 111 = .ok (.iload_n 3, 1) := by decide +kernel
theorem dL_act_112 : decode cL_act 112 = .ok (.bipush 12, 2) := by decide +kernel
theorem dL_act_114 : decode cL_act 114 = .ok (.if_icmp .ne 33, 3) := by decide +kernel
theorem dL_act_117 : decode cL_act 117 = .ok (.aload_n 1, 1) := by decide +kernel
theorem dL_act_118 : decode cL_act 118 = .ok (.getfield 49, 3) := by decide +kernel
theorem dL_act_121 : decode cL_act 121 = .ok (.aload 5, 2) := by decide +kernel
theorem dL_act_123 : decode cL_act 123 = .ok (.iconst 0, 1) := by decide +kernel
theorem dL_act_124 : decode cL_act 124 = .ok (.iaload, 1) := by decide +kernel
theorem dL_act_125 : decode cL_act 125 = .ok (.aconst_null, 1) := by decide +kernel
theorem dL_act_126 : decode cL_act 126 = .ok (.aastore, 1) := by decide +kernel
theorem dL_act_127 : decode cL_act 127 = .ok (.aload_n 0, 1) := by decide +kernel
theorem dL_act_128 : decode cL_act 128 = .ok (.aload 5, 2) := by decide +kernel
theorem dL_act_130 : decode cL_act 130 = .ok (.iconst 0, 1) := by decide +kernel
theorem dL_act_131 : decode cL_act 131 = .ok (.iaload, 1) := by decide +kernel
theorem dL_act_132 : decode cL_act 132 = .ok (.invokevirtual 53, 3) := by decide +kernel
theorem dL_act_135 : decode cL_act 135 = .ok (.iload_n 3, 1) := by decide +kernel
theorem dL_act_136 : decode cL_act 136 = .ok (.iconst 1, 1) := by decide +kernel
theorem dL_act_137 : decode cL_act 137 = .ok (.isub, 1) := by decide +kernel
theorem dL_act_138 : decode cL_act 138 = .ok (.if_icmp .ne 7, 3) := by decide +kernel
theorem dL_act_141 : decode cL_act 141 = .ok (.iconst 1, 1) := by decide +kernel
theorem dL_act_142 : decode cL_act 142 = .ok (.goto 4, 3) := by decide +kernel
theorem dL_act_145 : decode cL_act 145 = .ok (.iconst 0, 1) := by decide +kernel
theorem dL_act_146 : decode cL_act 146 = .ok (.ireturn, 1) := by decide +kernel
theorem dL_act_147 : decode cL_act 147 = .ok (.iload 7, 2) := by decide +kernel
theorem dL_act_149 : decode cL_act 149 = .ok (.iconst 1, 1) := by decide +kernel
theorem dL_act_150 : decode cL_act 150 = .ok (.if_icmp .ne 72, 3) := by decide +kernel
theorem dL_act_153 : decode cL_act 153 = .ok (.iload_n 2, 1) := by decide +kernel
theorem dL_act_154 : decode cL_act 154 = .ok (.iconst 1, 1) := by decide +kernel
theorem dL_act_155 : decode cL_act 155 = .ok (.ishr, 1) := by decide +kernel
theorem dL_act_156 : decode cL_act 156 = .ok (.bipush 7, 2) := by decide +kernel
theorem dL_act_158 : decode cL_act 158 = .ok (.invokestatic 45, 3) := by decide +kernel
theorem dL_act_161 : decode cL_act 161 = .ok (.istore 8, 2) := by decide +kernel
theorem dL_act_163 : decode cL_act 163 = .ok (.aload_n 1, 1) := by decide +kernel
theorem dL_act_164 : decode cL_act 164 = .ok (.getfield 59, 3) := by decide +kernel
theorem dL_act_167 : decode cL_act 167 = .ok (.iload 8, 2) := by decide +kernel
theorem dL_act_169 : decode cL_act 169 = .ok (.iaload, 1) := by decide +kernel
theorem dL_act_170 : decode cL_act 170 = .ok (.istore 9, 2) := by decide +kernel
theorem dL_act_172 : decode cL_act 172 = .ok (.aload_n 1, 1) := by decide +kernel
theorem dL_act_173 : decode cL_act 173 = .ok (.getfield 59, 3) := by decide +kernel
theorem dL_act_176 : decode cL_act 176 = .ok (.iload 8, 2) := by decide +kernel
theorem dL_act_178 : decode cL_act 178 = .ok (.aload_n 1, 1) := by decide +kernel
theorem dL_act_179 : decode cL_act 179 = .ok (.getfield 59, 3) := by decide +kernel
theorem dL_act_182 : decode cL_act 182 = .ok (.iload 8, 2) := by decide +kernel
theorem dL_act_184 : decode cL_act 184 = .ok (.iconst 1, 1) := by decide +kernel
theorem dL_act_185 : decode cL_act 185 = .ok (.iadd, 1) := by decide +kernel
theorem dL_act_186 : decode cL_act 186 = .ok (.iaload, 1) := by decide +kernel
theorem dL_act_187 : decode cL_act 187 = .ok (.iastore, 1) := by decide +kernel
theorem dL_act_188 : decode cL_act 188 = .ok (.aload_n 1, 1) := by decide +kernel
theorem dL_act_189 : decode cL_act 189 = .ok (.getfield 59, 3) := by decide +kernel
theorem dL_act_192 : decode cL_act 192 = .ok (.iload 8, 2) := by decide +kernel
theorem dL_act_194 : decode cL_act 194 = .ok (.iconst 1, 1) := by decide +kernel
theorem dL_act_195 : decode cL_act 195 = .ok (.iadd, 1) := by decide +kernel
theorem dL_act_196 : decode cL_act 196 = .ok (.iload 9, 2) := by decide +kernel
theorem dL_act_198 : decode cL_act 198 = .ok (.iastore, 1) := by decide +kernel
theorem dL_act_199 : decode cL_act 199 = .ok (.aload_n 0, 1) := by decide +kernel
theorem dL_act_200 : decode cL_act 200 = .ok (.iload 8, 2) := by decide +kernel
theorem dL_act_202 : decode cL_act 202 = .ok (.invokevirtual 63, 3) := by decide +kernel
theorem dL_act_205 : decode cL_act 205 = .ok (.aload_n 1, 1) := by decide +kernel
theorem dL_act_206 : decode cL_act 206 = .ok (.invokevirtual 66, 3) := by decide +kernel
theorem dL_act_209 : decode cL_act 209 = .ok (.iconst (-1), 1) := by decide +kernel
theorem dL_act_210 : decode cL_act 210 = .ok (.invokestatic 70, 3) := by decide +kernel
theorem dL_act_213 : decode cL_act 213 = .ok (.if_icmp .ne 7, 3) := by decide +kernel
theorem dL_act_216 : decode cL_act 216 = .ok (.iconst 1, 1) := by decide +kernel
theorem dL_act_217 : decode cL_act 217 = .ok (.goto 4, 3) := by decide +kernel
theorem dL_act_220 : decode cL_act 220 = .ok (.iconst 0, 1) := by decide +kernel
theorem dL_act_221 : decode cL_act 221 = .ok (.ireturn, 1) := by decide +kernel
theorem dL_act_222 : decode cL_act 222 = .ok (.iconst 4, 1) := by decide +kernel
theorem dL_act_223 : decode cL_act 223 = .ok (.newarray .long, 2) := by decide +kernel
theorem dL_act_225 : decode cL_act 225 = .ok (.astore 8, 2) := by decide +kernel
theorem dL_act_227 : decode cL_act 227 = .ok (.iload_n 3, 1) := by decide +kernel
theorem dL_act_228 : decode cL_act 228 = .ok (.iconst 2, 1) := by decide +kernel
theorem dL_act_229 : decode cL_act 229 = .ok (.if_icmp .lt 15, 3) := by decide +kernel
theorem dL_act_232 : decode cL_act 232 = .ok (.iload 7, 2) := by decide +kernel
theorem dL_act_234 : decode cL_act 234 = .ok (.iconst 2, 1) := by decide +kernel
theorem dL_act_235 : decode cL_act 235 = .ok (.if_icmp .eq 9, 3) := by decide +kernel
theorem dL_act_238 : decode cL_act 238 = .ok (.iload 7, 2) := by decide +kernel
theorem dL_act_240 : decode cL_act 240 = .ok (.iconst 3, 1) := by decide +kernel
theorem dL_act_241 : decode cL_act 241 = .ok (.if_icmp .ne 64, 3) := by decide +kernel
theorem dL_act_244 : decode cL_act 244 = .ok (.iconst 0, 1) := by decide +kernel
theorem dL_act_245 : decode cL_act 245 = .ok (.istore 9, 2) := by decide +kernel
theorem dL_act_247 : decode cL_act 247 = .ok (.iload 9, 2) := by decide +kernel
theorem dL_act_249 : decode cL_act 249 = .ok (.sipush 256, 3) := by decide +kernel
theorem dL_act_252 : decode cL_act 252 = .ok (.if_icmp .ge 27, 3) := by decide +kernel
theorem dL_act_255 : decode cL_act 255 = .ok (.iload 9, 2) := by decide +kernel
theorem dL_act_257 : decode cL_act 257 = .ok (.iload 6, 2) := by decide +kernel
theorem dL_act_259 : decode cL_act 259 = .ok (.ishr, 1) := by decide +kernel
theorem dL_act_260 : decode cL_act 260 = .ok (.iconst 2, 1) := by decide +kernel
theorem dL_act_261 : decode cL_act 261 = .ok (.irem, 1) := by decide +kernel
theorem dL_act_262 : decode cL_act 262 = .ok (.iconst 1, 1) := by decide +kernel
theorem dL_act_263 : decode cL_act 263 = .ok (.if_icmp .ne 10, 3) := by decide +kernel
theorem dL_act_266 : decode cL_act 266 = .ok (.aload 8, 2) := by decide +kernel
theorem dL_act_268 : decode cL_act 268 = .ok (.iload 9, 2) := by decide +kernel
theorem dL_act_270 : decode cL_act 270 = .ok (.invokestatic 15, 3) := by decide +kernel
theorem dL_act_273 : decode cL_act 273 = .ok (.iinc 9 1, 3) := by decide +kernel
theorem dL_act_276 : decode cL_act 276 = .ok (.goto (-29), 3) := by decide +kernel
theorem dL_act_279 : decode cL_act 279 = .ok (.aload_n 1, 1) := by decide +kernel
theorem dL_act_280 : decode cL_act 280 = .ok (.getfield 49, 3) := by decide +kernel
theorem dL_act_283 : decode cL_act 283 = .ok (.iload 4, 2) := by decide +kernel
theorem dL_act_285 : decode cL_act 285 = .ok (.aload 8, 2) := by decide +kernel
theorem dL_act_287 : decode cL_act 287 = .ok (.aastore, 1) := by decide +kernel
theorem dL_act_288 : decode cL_act 288 = .ok (.aload_n 0, 1) := by decide +kernel
theorem dL_act_289 : decode cL_act 289 = .ok (.iload 6, 2) := by decide +kernel
theorem dL_act_291 : decode cL_act 291 = .ok (.invokevirtual 74, 3) := by decide +kernel
theorem dL_act_294 : decode cL_act 294 = .ok (.iload 4, 2) := by decide +kernel
theorem dL_act_296 : decode cL_act 296 = .ok (.if_icmp .ne 7, 3) := by decide +kernel
theorem dL_act_299 : decode cL_act 299 = .ok (.iconst 1, 1) := by decide +kernel
theorem dL_act_300 : decode cL_act 300 = .ok (.goto 4, 3) := by decide +kernel
theorem dL_act_303 : decode cL_act 303 = .ok (.iconst 0, 1) := by decide +kernel
theorem dL_act_304 : decode cL_act 304 = .ok (.ireturn, 1) := by decide +kernel
theorem dL_act_305 : decode cL_act 305 = .ok (.iload 7, 2) := by decide +kernel
theorem dL_act_307 : decode cL_act 307 = .ok (.iconst 4, 1) := by decide +kernel
theorem dL_act_308 : decode cL_act 308 = .ok (.if_icmp .ne 83, 3) := by decide +kernel
theorem dL_act_311 : decode cL_act 311 = .ok (.iload_n 2, 1) := by decide +kernel
theorem dL_act_312 : decode cL_act 312 = .ok (.iconst 4, 1) := by decide +kernel
theorem dL_act_313 : decode cL_act 313 = .ok (.invokestatic 45, 3) := by decide +kernel
theorem dL_act_316 : decode cL_act 316 = .ok (.ifCond .ne 75, 3) := by decide +kernel
theorem dL_act_319 : decode cL_act 319 = .ok (.iload_n 2, 1) := by decide +kernel
theorem dL_act_320 : decode cL_act 320 = .ok (.iconst 2, 1) := by decide +kernel
theorem dL_act_321 : decode cL_act 321 = .ok (.ishr, 1) := by decide +kernel
theorem dL_act_322 : decode cL_act 322 = .ok (.iconst 2, 1) := by decide +kernel
theorem dL_act_323 : decode cL_act 323 = .ok (.invokestatic 45, 3) := by decide +kernel
theorem dL_act_326 : decode cL_act 326 = .ok (.ifCond .ne 7, 3) := by decide +kernel
theorem dL_act_329 : decode cL_act 329 = .ok (.iconst 1, 1) := by decide +kernel
theorem dL_act_330 : decode cL_act 330 = .ok (.goto 4, 3) := by decide +kernel
theorem dL_act_333 : decode cL_act 333 = .ok (.iconst 0, 1) := by decide +kernel
theorem dL_act_334 : decode cL_act 334 = .ok (.istore 9, 2) := by decide +kernel
theorem dL_act_336 : decode cL_act 336 = .ok (.iconst 0, 1) := by decide +kernel
theorem dL_act_337 : decode cL_act 337 = .ok (.istore 10, 2) := by decide +kernel
theorem dL_act_339 : decode cL_act 339 = .ok (.iload 10, 2) := by decide +kernel
theorem dL_act_341 : decode cL_act 341 = .ok (.sipush 256, 3) := by decide +kernel
theorem dL_act_344 : decode cL_act 344 = .ok (.if_icmp .ge 21, 3) := by decide +kernel
theorem dL_act_347 : decode cL_act 347 = .ok (.iload 9, 2) := by decide +kernel
theorem dL_act_349 : decode cL_act 349 = .ok (.ifCond .eq 16, 3) := by decide +kernel
theorem dL_act_352 : decode cL_act 352 = .ok (.aload 8, 2) := by decide +kernel
theorem dL_act_354 : decode cL_act 354 = .ok (.iload 10, 2) := by decide +kernel
theorem dL_act_356 : decode cL_act 356 = .ok (.invokestatic 15, 3) := by decide +kernel
theorem dL_act_359 : decode cL_act 359 = .ok (.iinc 10 1, 3) := by decide +kernel
theorem dL_act_362 : decode cL_act 362 = .ok (.goto (-23), 3) := by decide +kernel
theorem dL_act_365 : decode cL_act 365 = .ok (.aload_n 1, 1) := by decide +kernel
theorem dL_act_366 : decode cL_act 366 = .ok (.getfield 49, 3) := by decide +kernel
theorem dL_act_369 : decode cL_act 369 = .ok (.iload 4, 2) := by decide +kernel
theorem dL_act_371 : decode cL_act 371 = .ok (.aload 8, 2) := by decide +kernel
theorem dL_act_373 : decode cL_act 373 = .ok (.aastore, 1) := by decide +kernel
theorem dL_act_374 : decode cL_act 374 = .ok (.aload_n 0, 1) := by decide +kernel
theorem dL_act_375 : decode cL_act 375 = .ok (.iload 9, 2) := by decide +kernel
theorem dL_act_377 : decode cL_act 377 = .ok (.invokevirtual 77, 3) := by decide +kernel
theorem dL_act_380 : decode cL_act 380 = .ok (.iload 4, 2) := by decide +kernel
theorem dL_act_382 : decode cL_act 382 = .ok (.if_icmp .ne 7, 3) := by decide +kernel
theorem dL_act_385 : decode cL_act 385 = .ok (.iconst 1, 1) := by decide +kernel
theorem dL_act_386 : decode cL_act 386 = .ok (.goto 4, 3) := by decide +kernel
theorem dL_act_389 : decode cL_act 389 = .ok (.iconst 0, 1) := by decide +kernel
theorem dL_act_390 : decode cL_act 390 = .ok (.ireturn, 1) := by decide +kernel
theorem dL_act_391 : decode cL_act 391 = .ok (.aload_n 1, 1) := by decide +kernel
theorem dL_act_392 : decode cL_act 392 = .ok (.getfield 49, 3) := by decide +kernel
theorem dL_act_395 : decode cL_act 395 = .ok (.aload 5, 2) := by decide +kernel
theorem dL_act_397 : decode cL_act 397 = .ok (.iconst 0, 1) := by decide +kernel
theorem dL_act_398 : decode cL_act 398 = .ok (.iaload, 1) := by decide +kernel
theorem dL_act_399 : decode cL_act 399 = .ok (.aaload, 1) := by decide +kernel
theorem dL_act_400 : decode cL_act 400 = .ok (.astore 9, 2) := by decide +kernel
theorem dL_act_402 : decode cL_act 402 = .ok (.aload_n 1, 1) := by decide +kernel
theorem dL_act_403 : decode cL_act 403 = .ok (.getfield 49, 3) := by decide +kernel
theorem dL_act_406 : decode cL_act 406 = .ok (.aload 5, 2) := by decide +kernel
theorem dL_act_408 : decode cL_act 408 = .ok (.iconst 1, 1) := by decide +kernel
theorem dL_act_409 : decode cL_act 409 = .ok (.iaload, 1) := by decide +kernel
theorem dL_act_410 : decode cL_act 410 = .ok (.aaload, 1) := by decide +kernel
theorem dL_act_411 : decode cL_act 411 = .ok (.astore 10, 2) := by decide +kernel
theorem dL_act_413 : decode cL_act 413 = .ok (.aload_n 1, 1) := by decide +kernel
theorem dL_act_414 : decode cL_act 414 = .ok (.getfield 49, 3) := by decide +kernel
theorem dL_act_417 : decode cL_act 417 = .ok (.aload 5, 2) := by decide +kernel
theorem dL_act_419 : decode cL_act 419 = .ok (.iconst 2, 1) := by decide +kernel
theorem dL_act_420 : decode cL_act 420 = .ok (.iaload, 1) := by decide +kernel
theorem dL_act_421 : decode cL_act 421 = .ok (.aaload, 1) := by decide +kernel
theorem dL_act_422 : decode cL_act 422 = .ok (.astore 11, 2) := by decide +kernel
theorem dL_act_424 : decode cL_act 424 = .ok (.iload 7, 2) := by decide +kernel
theorem dL_act_426 : decode cL_act 426 = .ok (.bipush 10, 2) := by decide +kernel
theorem dL_act_428 : decode cL_act 428 = .ok (.if_icmp .ge 54, 3) := by decide +kernel
theorem dL_act_431 : decode cL_act 431 = .ok (.iload_n 2, 1) := by decide +kernel
theorem dL_act_432 : decode cL_act 432 = .ok (.iconst 4, 1) := by decide +kernel
theorem dL_act_433 : decode cL_act 433 = .ok (.ishr, 1) := by decide +kernel
theorem dL_act_434 : decode cL_act 434 = .ok (.bipush 6, 2) := by decide +kernel
theorem dL_act_436 : decode cL_act 436 = .ok (.invokestatic 45, 3) := by decide +kernel
theorem dL_act_439 : decode cL_act 439 = .ok (.istore 12, 2) := by decide +kernel
theorem dL_act_441 : decode cL_act 441 = .ok (.aload_n 1, 1) := by decide +kernel
theorem dL_act_442 : decode cL_act 442 = .ok (.getfield 49, 3) := by decide +kernel
theorem dL_act_445 : decode cL_act 445 = .ok (.iload 4, 2) := by decide +kernel
theorem dL_act_447 : decode cL_act 447 = .ok (.aload 9, 2) := by decide +kernel
theorem dL_act_449 : decode cL_act 449 = .ok (.aload 10, 2) := by decide +kernel
theorem dL_act_451 : decode cL_act 451 = .ok (.iload 12, 2) := by decide +kernel
theorem dL_act_453 : decode cL_act 453 = .ok (.invokestatic 81, 3) := by decide +kernel
theorem dL_act_456 : decode cL_act 456 = .ok (.aastore, 1) := by decide +kernel
theorem dL_act_457 : decode cL_act 457 = .ok (.aload_n 0, 1) := by decide +kernel
theorem dL_act_458 : decode cL_act 458 = .ok (.aload 5, 2) := by decide +kernel
theorem dL_act_460 : decode cL_act 460 = .ok (.iconst 0, 1) := by decide +kernel
theorem dL_act_461 : decode cL_act 461 = .ok (.iaload, 1) := by decide +kernel
theorem dL_act_462 : decode cL_act 462 = .ok (.aload 5, 2) := by decide +kernel
theorem dL_act_464 : decode cL_act 464 = .ok (.iconst 1, 1) := by decide +kernel
theorem dL_act_465 : decode cL_act 465 = .ok (.iaload, 1) := by decide +kernel
theorem dL_act_466 : decode cL_act 466 = .ok (.iload 12, 2) := by decide +kernel
theorem dL_act_468 : decode cL_act 468 = .ok (.invokevirtual 84, 3) := by decide +kernel
theorem dL_act_471 : decode cL_act 471 = .ok (.iload 4, 2) := by decide +kernel
theorem dL_act_473 : decode cL_act 473 = .ok (.if_icmp .ne 7, 3) := by decide +kernel
theorem dL_act_476 : decode cL_act 476 = .ok (.iconst 1, 1) := by decide +kernel
theorem dL_act_477 : decode cL_act 477 = .ok (.goto 4, 3) := by decide +kernel
theorem dL_act_480 : decode cL_act 480 = .ok (.iconst 0, 1) := by decide +kernel
theorem dL_act_481 : decode cL_act 481 = .ok (.ireturn, 1) := by decide +kernel
theorem dL_act_482 : decode cL_act 482 = .ok (.iload 7, 2) := by decide +kernel
theorem dL_act_484 : decode cL_act 484 = .ok (.bipush 13, 2) := by decide +kernel
theorem dL_act_486 : decode cL_act 486 = .ok (.if_icmp .ge 96, 3) := by decide +kernel
theorem dL_act_489 : decode cL_act 489 = .ok (.iconst 0, 1) := by decide +kernel
theorem dL_act_490 : decode cL_act 490 = .ok (.istore 12, 2) := by decide +kernel
theorem dL_act_492 : decode cL_act 492 = .ok (.iload 12, 2) := by decide +kernel
theorem dL_act_494 : decode cL_act 494 = .ok (.sipush 256, 3) := by decide +kernel
theorem dL_act_497 : decode cL_act 497 = .ok (.if_icmp .ge 49, 3) := by decide +kernel
theorem dL_act_500 : decode cL_act 500 = .ok (.aload 9, 2) := by decide +kernel
theorem dL_act_502 : decode cL_act 502 = .ok (.iload 12, 2) := by decide +kernel
theorem dL_act_504 : decode cL_act 504 = .ok (.invokestatic 9, 3) := by decide +kernel
theorem dL_act_507 : decode cL_act 507 = .ok (.ifCond .eq 16, 3) := by decide +kernel
theorem dL_act_510 : decode cL_act 510 = .ok (.aload 10, 2) := by decide +kernel
theorem dL_act_512 : decode cL_act 512 = .ok (.iload 12, 2) := by decide +kernel
theorem dL_act_514 : decode cL_act 514 = .ok (.invokestatic 9, 3) := by decide +kernel
theorem dL_act_517 : decode cL_act 517 = .ok (.ifCond .eq 23, 3) := by decide +kernel
theorem dL_act_520 : decode cL_act 520 = .ok (.goto 13, 3) := by decide +kernel
theorem dL_act_523 : decode cL_act 523 = .ok (.aload 11, 2) := by decide +kernel
theorem dL_act_525 : decode cL_act 525 = .ok (.iload 12, 2) := by decide +kernel
theorem dL_act_527 : decode cL_act 527 = .ok (.invokestatic 9, 3) := by decide +kernel
theorem dL_act_530 : decode cL_act 530 = .ok (.ifCond .eq 10, 3) := by decide +kernel
theorem dL_act_533 : decode cL_act 533 = .ok (.aload 8, 2) := by decide +kernel
theorem dL_act_535 : decode cL_act 535 = .ok (.iload 12, 2) := by decide +kernel
theorem dL_act_537 : decode cL_act 537 = .ok (.invokestatic 15, 3) := by decide +kernel
theorem dL_act_540 : decode cL_act 540 = .ok (.iinc 12 1, 3) := by decide +kernel
theorem dL_act_543 : decode cL_act 543 = .ok (.goto (-51), 3) := by decide +kernel
theorem dL_act_546 : decode cL_act 546 = .ok (.aload_n 1, 1) := by decide +kernel
theorem dL_act_547 : decode cL_act 547 = .ok (.getfield 49, 3) := by decide +kernel
theorem dL_act_550 : decode cL_act 550 = .ok (.iload 4, 2) := by decide +kernel
theorem dL_act_552 : decode cL_act 552 = .ok (.aload 8, 2) := by decide +kernel
theorem dL_act_554 : decode cL_act 554 = .ok (.aastore, 1) := by decide +kernel
theorem dL_act_555 : decode cL_act 555 = .ok (.aload_n 0, 1) := by decide +kernel
theorem dL_act_556 : decode cL_act 556 = .ok (.aload 5, 2) := by decide +kernel
theorem dL_act_558 : decode cL_act 558 = .ok (.iconst 0, 1) := by decide +kernel
theorem dL_act_559 : decode cL_act 559 = .ok (.iaload, 1) := by decide +kernel
theorem dL_act_560 : decode cL_act 560 = .ok (.aload 5, 2) := by decide +kernel
theorem dL_act_562 : decode cL_act 562 = .ok (.iconst 1, 1) := by decide +kernel
theorem dL_act_563 : decode cL_act 563 = .ok (.iaload, 1) := by decide +kernel
theorem dL_act_564 : decode cL_act 564 = .ok (.aload 5, 2) := by decide +kernel
theorem dL_act_566 : decode cL_act 566 = .ok (.iconst 2, 1) := by decide +kernel
theorem dL_act_567 : decode cL_act 567 = .ok (.iaload, 1) := by decide +kernel
theorem dL_act_568 : decode cL_act 568 = .ok (.invokevirtual 88, 3) := by decide +kernel
theorem dL_act_571 : decode cL_act 571 = .ok (.iload 4, 2) := by decide +kernel
theorem dL_act_573 : decode cL_act 573 = .ok (.if_icmp .ne 7, 3) := by decide +kernel
theorem dL_act_576 : decode cL_act 576 = .ok (.iconst 1, 1) := by decide +kernel
theorem dL_act_577 : decode cL_act 577 = .ok (.goto 4, 3) := by decide +kernel
theorem dL_act_580 : decode cL_act 580 = .ok (.iconst 0, 1) := by decide +kernel
theorem dL_act_581 : decode cL_act 581 = .ok (.ireturn, 1) := by decide +kernel
theorem dL_act_582 : decode cL_act 582 = .ok (.iload 7, 2) := by decide +kernel
theorem dL_act_584 : decode cL_act 584 = .ok (.bipush 13, 2) := by decide +kernel
theorem dL_act_586 : decode cL_act 586 = .ok (.if_icmp .ne 60, 3) := by decide +kernel
theorem dL_act_589 : decode cL_act 589 = .ok (.iload_n 2, 1) := by decide +kernel
theorem dL_act_590 : decode cL_act 590 = .ok (.iconst 1, 1) := by decide +kernel
theorem dL_act_591 : decode cL_act 591 = .ok (.ishr, 1) := by decide +kernel
theorem dL_act_592 : decode cL_act 592 = .ok (.iconst 2, 1) := by decide +kernel
theorem dL_act_593 : decode cL_act 593 = .ok (.invokestatic 45, 3) := by decide +kernel
theorem dL_act_596 : decode cL_act 596 = .ok (.istore 12, 2) := by decide +kernel
theorem dL_act_598 : decode cL_act 598 = .ok (.aload_n 1, 1) := by decide +kernel
theorem dL_act_599 : decode cL_act 599 = .ok (.getfield 49, 3) := by decide +kernel
theorem dL_act_602 : decode cL_act 602 = .ok (.iload 4, 2) := by decide +kernel
theorem dL_act_604 : decode cL_act 604 = .ok (.aload 9, 2) := by decide +kernel
theorem dL_act_606 : decode cL_act 606 = .ok (.iload 6, 2) := by decide +kernel
theorem dL_act_608 : decode cL_act 608 = .ok (.iload 12, 2) := by decide +kernel
theorem dL_act_610 : decode cL_act 610 = .ok (.invokestatic 91, 3) := by decide +kernel
theorem dL_act_613 : decode cL_act 613 = .ok (.aastore, 1) := by decide +kernel
theorem dL_act_614 : decode cL_act 614 = .ok (.aload_n 0, 1) := by decide +kernel
theorem dL_act_615 : decode cL_act 615 = .ok (.aload 5, 2) := by decide +kernel
theorem dL_act_617 : decode cL_act 617 = .ok (.iconst 0, 1) := by decide +kernel
theorem dL_act_618 : decode cL_act 618 = .ok (.iaload, 1) := by decide +kernel
theorem dL_act_619 : decode cL_act 619 = .ok (.iload 6, 2) := by decide +kernel
theorem dL_act_621 : decode cL_act 621 = .ok (.iload 12, 2) := by decide +kernel
theorem dL_act_623 : decode cL_act 623 = .ok (.iconst 1, 1) := by decide +kernel
theorem dL_act_624 : decode cL_act 624 = .ok (.if_icmp .ne 7, 3) := by decide +kernel
theorem dL_act_627 : decode cL_act 627 = .ok (.iconst 1, 1) := by decide +kernel
theorem dL_act_628 : decode cL_act 628 = .ok (.goto 4, 3) := by decide +kernel
theorem dL_act_631 : decode cL_act 631 = .ok (.iconst 0, 1) := by decide +kernel
theorem dL_act_632 : decode cL_act 632 = .ok (.invokevirtual 95, 3) := by decide +kernel
theorem dL_act_635 : decode cL_act 635 = .ok (.iload 4, 2) := by decide +kernel
theorem dL_act_637 : decode cL_act 637 = .ok (.if_icmp .ne 7, 3) := by decide +kernel
theorem dL_act_640 : decode cL_act 640 = .ok (.iconst 1, 1) := by decide +kernel
theorem dL_act_641 : decode cL_act 641 = .ok (.goto 4, 3) := by decide +kernel
theorem dL_act_644 : decode cL_act 644 = .ok (.iconst 0, 1) := by decide +kernel
theorem dL_act_645 : decode cL_act 645 = .ok (.ireturn, 1) := by decide +kernel
theorem dL_act_646 : decode cL_act 646 = .ok (.iload_n 2, 1) := by decide +kernel
theorem dL_act_647 : decode cL_act 647 = .ok (.iconst 1, 1) := by decide +kernel
theorem dL_act_648 : decode cL_act 648 = .ok (.ishr, 1) := by decide +kernel
theorem dL_act_649 : decode cL_act 649 = .ok (.iconst 2, 1) := by decide +kernel
theorem dL_act_650 : decode cL_act 650 = .ok (.invokestatic 45, 3) := by decide +kernel
theorem dL_act_653 : decode cL_act 653 = .ok (.ifCond .ne 7, 3) := by decide +kernel
theorem dL_act_656 : decode cL_act 656 = .ok (.iconst 1, 1) := by decide +kernel
theorem dL_act_657 : decode cL_act 657 = .ok (.goto 4, 3) := by decide +kernel
theorem dL_act_660 : decode cL_act 660 = .ok (.iconst 0, 1) := by decide +kernel
theorem dL_act_661 : decode cL_act 661 = .ok (.istore 12, 2) := by decide +kernel
theorem dL_act_663 : decode cL_act 663 = .ok (.aload_n 1, 1) := by decide +kernel
theorem dL_act_664 : decode cL_act 664 = .ok (.getfield 49, 3) := by decide +kernel
theorem dL_act_667 : decode cL_act 667 = .ok (.iload 4, 2) := by decide +kernel
theorem dL_act_669 : decode cL_act 669 = .ok (.aload 9, 2) := by decide +kernel
theorem dL_act_671 : decode cL_act 671 = .ok (.iload 6, 2) := by decide +kernel
theorem dL_act_673 : decode cL_act 673 = .ok (.iconst 0, 1) := by decide +kernel
theorem dL_act_674 : decode cL_act 674 = .ok (.invokestatic 91, 3) := by decide +kernel
theorem dL_act_677 : decode cL_act 677 = .ok (.aload 9, 2) := by decide +kernel
theorem dL_act_679 : decode cL_act 679 = .ok (.iload 6, 2) := by decide +kernel
theorem dL_act_681 : decode cL_act 681 = .ok (.iconst 1, 1) := by decide +kernel
theorem dL_act_682 : decode cL_act 682 = .ok (.invokestatic 91, 3) := by decide +kernel
theorem dL_act_685 : decode cL_act 685 = .ok (.iload 12, 2) := by decide +kernel
theorem dL_act_687 : decode cL_act 687 = .ok (.ifCond .eq 7, 3) := by decide +kernel
theorem dL_act_690 : decode cL_act 690 = .ok (.iconst 0, 1) := by decide +kernel
theorem dL_act_691 : decode cL_act 691 = .ok (.goto 4, 3) := by decide +kernel
theorem dL_act_694 : decode cL_act 694 = .ok (.iconst 1, 1) := by decide +kernel
theorem dL_act_695 : decode cL_act 695 = .ok (.invokestatic 81, 3) := by decide +kernel
theorem dL_act_698 : decode cL_act 698 = .ok (.aastore, 1) := by decide +kernel
theorem dL_act_699 : decode cL_act 699 = .ok (.aload_n 0, 1) := by decide +kernel
theorem dL_act_700 : decode cL_act 700 = .ok (.aload 5, 2) := by decide +kernel
theorem dL_act_702 : decode cL_act 702 = .ok (.iconst 0, 1) := by decide +kernel
theorem dL_act_703 : decode cL_act 703 = .ok (.iaload, 1) := by decide +kernel
theorem dL_act_704 : decode cL_act 704 = .ok (.iload 6, 2) := by decide +kernel
theorem dL_act_706 : decode cL_act 706 = .ok (.iload 12, 2) := by decide +kernel
theorem dL_act_708 : decode cL_act 708 = .ok (.invokevirtual 98, 3) := by decide +kernel
theorem dL_act_711 : decode cL_act 711 = .ok (.iload 4, 2) := by decide +kernel
theorem dL_act_713 : decode cL_act 713 = .ok (.if_icmp .ne 7, 3) := by decide +kernel
theorem dL_act_716 : decode cL_act 716 = .ok (.iconst 1, 1) := by decide +kernel
theorem dL_act_717 : decode cL_act 717 = .ok (.goto 4, 3) := by decide +kernel
theorem dL_act_720 : decode cL_act 720 = .ok (.iconst 0, 1) := by decide +kernel
theorem dL_act_721 : decode cL_act 721 = .ok (.ireturn, 1) := by decide +kernel
