theorem dL_below_0 : decode cL_below 0 = .ok (.iload_n 0, 1) := by decide +kernel
theorem dL_below_1 : decode cL_below 1 = .ok (.ldc 7, 2) := by decide +kernel
theorem dL_below_3 : decode cL_below 3 = .ok (.iand, 1) := by decide +kernel
theorem dL_below_4 : decode cL_below 4 = .ok (.iload_n 1, 1) := by decide +kernel
theorem dL_below_5 : decode cL_below 5 = .ok (.irem, 1) := by decide +kernel
theorem dL_below_6 : decode cL_below 6 = .ok (.ireturn, 1) := by decide +kernel
theorem dL_cell_0 : decode cL_cell 0 = .ok (.iload_n 1, 1) := by decide +kernel
theorem dL_cell_1 : decode cL_cell 1 = .ok (.aload_n 0, 1) := by decide +kernel
theorem dL_cell_2 : decode cL_cell 2 = .ok (.arraylength, 1) := by decide +kernel
theorem dL_cell_3 : decode cL_cell 3 = .ok (.if_icmp .ge 9, 3) := by decide +kernel
theorem dL_cell_6 : decode cL_cell 6 = .ok (.aload_n 0, 1) := by decide +kernel
theorem dL_cell_7 : decode cL_cell 7 = .ok (.iload_n 1, 1) := by decide +kernel
theorem dL_cell_8 : decode cL_cell 8 = .ok (.iaload, 1) := by decide +kernel
theorem dL_cell_9 : decode cL_cell 9 = .ok (.goto 9, 3) := by decide +kernel
theorem dL_cell_12 : decode cL_cell 12 = .ok (.ldc 8, 2) := by decide +kernel
theorem dL_cell_14 : decode cL_cell 14 = .ok (.iload_n 1, 1) := by decide +kernel
theorem dL_cell_15 : decode cL_cell 15 = .ok (.iconst 3, 1) := by decide +kernel
theorem dL_cell_16 : decode cL_cell 16 = .ok (.iadd, 1) := by decide +kernel
theorem dL_cell_17 : decode cL_cell 17 = .ok (.imul, 1) := by decide +kernel
theorem dL_cell_18 : decode cL_cell 18 = .ok (.ireturn, 1) := by decide +kernel
theorem dL_says_0 : decode cL_says 0 = .ok (.aload_n 0, 1) := by decide +kernel
theorem dL_says_1 : decode cL_says 1 = .ok (.iload_n 1, 1) := by decide +kernel
theorem dL_says_2 : decode cL_says 2 = .ok (.bipush 6, 2) := by decide +kernel
theorem dL_says_4 : decode cL_says 4 = .ok (.ishr, 1) := by decide +kernel
theorem dL_says_5 : decode cL_says 5 = .ok (.laload, 1) := by decide +kernel
theorem dL_says_6 : decode cL_says 6 = .ok (.iload_n 1, 1) := by decide +kernel
theorem dL_says_7 : decode cL_says 7 = .ok (.bipush 63, 2) := by decide +kernel
theorem dL_says_9 : decode cL_says 9 = .ok (.iand, 1) := by decide +kernel
theorem dL_says_10 : decode cL_says 10 = .ok (.lushr, 1) := by decide +kernel
theorem dL_says_11 : decode cL_says 11 = .ok (.lconst 1, 1) := by decide +kernel
theorem dL_says_12 : decode cL_says 12 = .ok (.land, 1) := by decide +kernel
theorem dL_says_13 : decode cL_says 13 = .ok (.lconst 1, 1) := by decide +kernel
theorem dL_says_14 : decode cL_says 14 = .ok (.lcmp, 1) := by decide +kernel
theorem dL_says_15 : decode cL_says 15 = .ok (.ifCond .ne 7, 3) := by decide +kernel
theorem dL_says_18 : decode cL_says 18 = .ok (.iconst 1, 1) := by decide +kernel
theorem dL_says_19 : decode cL_says 19 = .ok (.goto 4, 3) := by decide +kernel
theorem dL_says_22 : decode cL_says 22 = .ok (.iconst 0, 1) := by decide +kernel
theorem dL_says_23 : decode cL_says 23 = .ok (.ireturn, 1) := by decide +kernel
theorem dL_set_0 : decode cL_set 0 = .ok (.aload_n 0, 1) := by decide +kernel
theorem dL_set_1 : decode cL_set 1 = .ok (.iload_n 1, 1) := by decide +kernel
theorem dL_set_2 : decode cL_set 2 = .ok (.bipush 6, 2) := by decide +kernel
theorem dL_set_4 : decode cL_set 4 = .ok (.ishr, 1) := by decide +kernel
theorem dL_set_5 : decode cL_set 5 = .ok (.dup2, 1) := by decide +kernel
theorem dL_set_6 : decode cL_set 6 = .ok (.laload, 1) := by decide +kernel
theorem dL_set_7 : decode cL_set 7 = .ok (.lconst 1, 1) := by decide +kernel
theorem dL_set_8 : decode cL_set 8 = .ok (.iload_n 1, 1) := by decide +kernel
theorem dL_set_9 : decode cL_set 9 = .ok (.bipush 63, 2) := by decide +kernel
theorem dL_set_11 : decode cL_set 11 = .ok (.iand, 1) := by decide +kernel
theorem dL_set_12 : decode cL_set 12 = .ok (.lshl, 1) := by decide +kernel
theorem dL_set_13 : decode cL_set 13 = .ok (.lor, 1) := by decide +kernel
theorem dL_set_14 : decode cL_set 14 = .ok (.lastore, 1) := by decide +kernel
theorem dL_set_15 : decode cL_set 15 = .ok (.return_, 1) := by decide +kernel
set_option maxRecDepth 20000 in
theorem ggL_given_L_says : GoodIn wsL_given wsL_says := goodIn_r _ [5] (by decide +kernel) (by decide +kernel)
set_option maxRecDepth 20000 in
theorem gL_given_L_says : GoodIn wsL_given (va_wsS RL 9 yL_says wsL_says) := goodIn_app (goodIn_of _ (by decide +kernel)) ggL_given_L_says
set_option maxRecDepth 20000 in
theorem ggL_given_L_set : GoodIn wsL_given wsL_set := goodIn_r _ [8] (by decide +kernel) (by decide +kernel)
set_option maxRecDepth 20000 in
theorem gL_given_L_set : GoodIn wsL_given (va_wsS RL 15 yL_set wsL_set) := goodIn_app (goodIn_of _ (by decide +kernel)) ggL_given_L_set
theorem dL_given_0 : decode cL_given 0 = .ok (.iconst 4, 1) := by decide +kernel
theorem dL_given_1 : decode cL_given 1 = .ok (.newarray .long, 2) := by decide +kernel
theorem dL_given_3 : decode cL_given 3 = .ok (.astore_n 3, 1) := by decide +kernel
theorem dL_given_4 : decode cL_given 4 = .ok (.iconst 0, 1) := by decide +kernel
theorem dL_given_5 : decode cL_given 5 = .ok (.istore 4, 2) := by decide +kernel
theorem dL_given_7 : decode cL_given 7 = .ok (.iload 4, 2) := by decide +kernel
theorem dL_given_9 : decode cL_given 9 = .ok (.sipush 256, 3) := by decide +kernel
theorem dL_given_12 : decode cL_given 12 = .ok (.if_icmp .ge 34, 3) := by decide +kernel
theorem dL_given_15 : decode cL_given 15 = .ok (.aload_n 0, 1) := by decide +kernel
theorem dL_given_16 : decode cL_given 16 = .ok (.iload 4, 2) := by decide +kernel
theorem dL_given_18 : decode cL_given 18 = .ok (.iconst 1, 1) := by decide +kernel
theorem dL_given_19 : decode cL_given 19 = .ok (.iload_n 1, 1) := by decide +kernel
theorem dL_given_20 : decode cL_given 20 = .ok (.ishl, 1) := by decide +kernel
theorem dL_given_21 : decode cL_given 21 = .ok (.iconst (-1), 1) := by decide +kernel
theorem dL_given_22 : decode cL_given 22 = .ok (.ixor, 1) := by decide +kernel
theorem dL_given_23 : decode cL_given 23 = .ok (.iand, 1) := by decide +kernel
theorem dL_given_24 : decode cL_given 24 = .ok (.iload_n 2, 1) := by decide +kernel
theorem dL_given_25 : decode cL_given 25 = .ok (.iload_n 1, 1) := by decide +kernel
theorem dL_given_26 : decode cL_given 26 = .ok (.ishl, 1) := by decide +kernel
theorem dL_given_27 : decode cL_given 27 = .ok (.ior, 1) := by decide +kernel
theorem dL_given_28 : decode cL_given 28 = .ok (.invokestatic 9, 3) := by decide +kernel
theorem dL_given_31 : decode cL_given 31 = .ok (.ifCond .eq 9, 3) := by decide +kernel
theorem dL_given_34 : decode cL_given 34 = .ok (.aload_n 3, 1) := by decide +kernel
theorem dL_given_35 : decode cL_given 35 = .ok (.iload 4, 2) := by decide +kernel
theorem dL_given_37 : decode cL_given 37 = .ok (.invokestatic 15, 3) := by decide +kernel
theorem dL_given_40 : decode cL_given 40 = .ok (.iinc 4 1, 3) := by decide +kernel
theorem dL_given_43 : decode cL_given 43 = .ok (.goto (-36), 3) := by decide +kernel
theorem dL_given_46 : decode cL_given 46 = .ok (.aload_n 3, 1) := by decide +kernel
theorem dL_given_47 : decode cL_given 47 = .ok (.areturn, 1) := by decide +kernel
theorem dL_alike_0 : decode cL_alike 0 = .ok (.aload_n 0, 1) := by decide +kernel
theorem dL_alike_1 : decode cL_alike 1 = .ok (.iconst 0, 1) := by decide +kernel
theorem dL_alike_2 : decode cL_alike 2 = .ok (.laload, 1) := by decide +kernel
theorem dL_alike_3 : decode cL_alike 3 = .ok (.aload_n 1, 1) := by decide +kernel
theorem dL_alike_4 : decode cL_alike 4 = .ok (.iconst 0, 1) := by decide +kernel
theorem dL_alike_5 : decode cL_alike 5 = .ok (.laload, 1) := by decide +kernel
theorem dL_alike_6 : decode cL_alike 6 = .ok (.lcmp, 1) := by decide +kernel
theorem dL_alike_7 : decode cL_alike 7 = .ok (.ifCond .ne 37, 3) := by decide +kernel
theorem dL_alike_10 : decode cL_alike 10 = .ok (.aload_n 0, 1) := by decide +kernel
theorem dL_alike_11 : decode cL_alike 11 = .ok (.iconst 1, 1) := by decide +kernel
theorem dL_alike_12 : decode cL_alike 12 = .ok (.laload, 1) := by decide +kernel
theorem dL_alike_13 : decode cL_alike 13 = .ok (.aload_n 1, 1) := by decide +kernel
theorem dL_alike_14 : decode cL_alike 14 = .ok (.iconst 1, 1) := by decide +kernel
theorem dL_alike_15 : decode cL_alike 15 = .ok (.laload, 1) := by decide +kernel
theorem dL_alike_16 : decode cL_alike 16 = .ok (.lcmp, 1) := by decide +kernel
theorem dL_alike_17 : decode cL_alike 17 = .ok (.ifCond .ne 27, 3) := by decide +kernel
theorem dL_alike_20 : decode cL_alike 20 = .ok (.aload_n 0, 1) := by decide +kernel
theorem dL_alike_21 : decode cL_alike 21 = .ok (.iconst 2, 1) := by decide +kernel
theorem dL_alike_22 : decode cL_alike 22 = .ok (.laload, 1) := by decide +kernel
theorem dL_alike_23 : decode cL_alike 23 = .ok (.aload_n 1, 1) := by decide +kernel
theorem dL_alike_24 : decode cL_alike 24 = .ok (.iconst 2, 1) := by decide +kernel
theorem dL_alike_25 : decode cL_alike 25 = .ok (.laload, 1) := by decide +kernel
theorem dL_alike_26 : decode cL_alike 26 = .ok (.lcmp, 1) := by decide +kernel
theorem dL_alike_27 : decode cL_alike 27 = .ok (.ifCond .ne 17, 3) := by decide +kernel
theorem dL_alike_30 : decode cL_alike 30 = .ok (.aload_n 0, 1) := by decide +kernel
theorem dL_alike_31 : decode cL_alike 31 = .ok (.iconst 3, 1) := by decide +kernel
theorem dL_alike_32 : decode cL_alike 32 = .ok (.laload, 1) := by decide +kernel
theorem dL_alike_33 : decode cL_alike 33 = .ok (.aload_n 1, 1) := by decide +kernel
theorem dL_alike_34 : decode cL_alike 34 = .ok (.iconst 3, 1) := by decide +kernel
theorem dL_alike_35 : decode cL_alike 35 = .ok (.laload, 1) := by decide +kernel
theorem dL_alike_36 : decode cL_alike 36 = .ok (.lcmp, 1) := by decide +kernel
theorem dL_alike_37 : decode cL_alike 37 = .ok (.ifCond .ne 7, 3) := by decide +kernel
theorem dL_alike_40 : decode cL_alike 40 = .ok (.iconst 1, 1) := by decide +kernel
theorem dL_alike_41 : decode cL_alike 41 = .ok (.goto 4, 3) := by decide +kernel
theorem dL_alike_44 : decode cL_alike 44 = .ok (.iconst 0, 1) := by decide +kernel
theorem dL_alike_45 : decode cL_alike 45 = .ok (.ireturn, 1) := by decide +kernel
theorem dL_leafOf_0 : decode cL_leafOf 0 = .ok (.aload_n 0, 1) := by decide +kernel
theorem dL_leafOf_1 : decode cL_leafOf 1 = .ok (.iconst 0, 1) := by decide +kernel
theorem dL_leafOf_2 : decode cL_leafOf 2 = .ok (.laload, 1) := by decide +kernel
theorem dL_leafOf_3 : decode cL_leafOf 3 = .ok (.lconst 0, 1) := by decide +kernel
theorem dL_leafOf_4 : decode cL_leafOf 4 = .ok (.lcmp, 1) := by decide +kernel
theorem dL_leafOf_5 : decode cL_leafOf 5 = .ok (.ifCond .ne 29, 3) := by decide +kernel
theorem dL_leafOf_8 : decode cL_leafOf 8 = .ok (.aload_n 0, 1) := by decide +kernel
theorem dL_leafOf_9 : decode cL_leafOf 9 = .ok (.iconst 1, 1) := by decide +kernel
theorem dL_leafOf_10 : decode cL_leafOf 10 = .ok (.laload, 1) := by decide +kernel
theorem dL_leafOf_11 : decode cL_leafOf 11 = .ok (.lconst 0, 1) := by decide +kernel
theorem dL_leafOf_12 : decode cL_leafOf 12 = .ok (.lcmp, 1) := by decide +kernel
theorem dL_leafOf_13 : decode cL_leafOf 13 = .ok (.ifCond .ne 21, 3) := by decide +kernel
theorem dL_leafOf_16 : decode cL_leafOf 16 = .ok (.aload_n 0, 1) := by decide +kernel
theorem dL_leafOf_17 : decode cL_leafOf 17 = .ok (.iconst 2, 1) := by decide +kernel
theorem dL_leafOf_18 : decode cL_leafOf 18 = .ok (.laload, 1) := by decide +kernel
theorem dL_leafOf_19 : decode cL_leafOf 19 = .ok (.lconst 0, 1) := by decide +kernel
theorem dL_leafOf_20 : decode cL_leafOf 20 = .ok (.lcmp, 1) := by decide +kernel
theorem dL_leafOf_21 : decode cL_leafOf 21 = .ok (.ifCond .ne 13, 3) := by decide +kernel
theorem dL_leafOf_24 : decode cL_leafOf 24 = .ok (.aload_n 0, 1) := by decide +kernel
theorem dL_leafOf_25 : decode cL_leafOf 25 = .ok (.iconst 3, 1) := by decide +kernel
theorem dL_leafOf_26 : decode cL_leafOf 26 = .ok (.laload, 1) := by decide +kernel
theorem dL_leafOf_27 : decode cL_leafOf 27 = .ok (.lconst 0, 1) := by decide +kernel
theorem dL_leafOf_28 : decode cL_leafOf 28 = .ok (.lcmp, 1) := by decide +kernel
theorem dL_leafOf_29 : decode cL_leafOf 29 = .ok (.ifCond .ne 5, 3) := by decide +kernel
theorem dL_leafOf_32 : decode cL_leafOf 32 = .ok (.iconst (-1), 1) := by decide +kernel
theorem dL_leafOf_33 : decode cL_leafOf 33 = .ok (.ireturn, 1) := by decide +kernel
theorem dL_leafOf_34 : decode cL_leafOf 34 = .ok (.aload_n 0, 1) := by decide +kernel
theorem dL_leafOf_35 : decode cL_leafOf 35 = .ok (.iconst 0, 1) := by decide +kernel
theorem dL_leafOf_36 : decode cL_leafOf 36 = .ok (.laload, 1) := by decide +kernel
theorem dL_leafOf_37 : decode cL_leafOf 37 = .ok (.ldc2_w 19, 3) := by decide +kernel
theorem dL_leafOf_40 : decode cL_leafOf 40 = .ok (.lcmp, 1) := by decide +kernel
theorem dL_leafOf_41 : decode cL_leafOf 41 = .ok (.ifCond .ne 38, 3) := by decide +kernel
theorem dL_leafOf_44 : decode cL_leafOf 44 = .ok (.aload_n 0, 1) := by decide +kernel
theorem dL_leafOf_45 : decode cL_leafOf 45 = .ok (.iconst 1, 1) := by decide +kernel
theorem dL_leafOf_46 : decode cL_leafOf 46 = .ok (.laload, 1) := by decide +kernel
theorem dL_leafOf_47 : decode cL_leafOf 47 = .ok (.ldc2_w 19, 3) := by decide +kernel
theorem dL_leafOf_50 : decode cL_leafOf 50 = .ok (.lcmp, 1) := by decide +kernel
theorem dL_leafOf_51 : decode cL_leafOf 51 = .ok (.ifCond .ne 28, 3) := by decide +kernel
theorem dL_leafOf_54 : decode cL_leafOf 54 = .ok (.aload_n 0, 1) := by decide +kernel
theorem dL_leafOf_55 : decode cL_leafOf 55 = .ok (.iconst 2, 1) := by decide +kernel
theorem dL_leafOf_56 : decode cL_leafOf 56 = .ok (.laload, 1) := by decide +kernel
theorem dL_leafOf_57 : decode cL_leafOf 57 = .ok (.ldc2_w 19, 3) := by decide +kernel
theorem dL_leafOf_60 : decode cL_leafOf 60 = .ok (.lcmp, 1) := by decide +kernel
theorem dL_leafOf_61 : decode cL_leafOf 61 = .ok (.ifCond .ne 18, 3) := by decide +kernel
theorem dL_leafOf_64 : decode cL_leafOf 64 = .ok (.aload_n 0, 1) := by decide +kernel
theorem dL_leafOf_65 : decode cL_leafOf 65 = .ok (.iconst 3, 1) := by decide +kernel
theorem dL_leafOf_66 : decode cL_leafOf 66 = .ok (.laload, 1) := by decide +kernel
theorem dL_leafOf_67 : decode cL_leafOf 67 = .ok (.ldc2_w 19, 3) := by decide +kernel
theorem dL_leafOf_70 : decode cL_leafOf 70 = .ok (.lcmp, 1) := by decide +kernel
theorem dL_leafOf_71 : decode cL_leafOf 71 = .ok (.ifCond .ne 8, 3) := by decide +kernel
theorem dL_leafOf_74 : decode cL_leafOf 74 = .ok (.bipush (-2), 2) := by decide +kernel
theorem dL_leafOf_76 : decode cL_leafOf 76 = .ok (.goto 4, 3) := by decide +kernel
theorem dL_leafOf_79 : decode cL_leafOf 79 = .ok (.iconst 0, 1) := by decide +kernel
theorem dL_leafOf_80 : decode cL_leafOf 80 = .ok (.ireturn, 1) := by decide +kernel
set_option maxRecDepth 20000 in
theorem ggL_row_X3_init : GoodIn wsL_row wsX3_init := goodIn_r _ [5, 6, 7, 8, 9, 10, 11, 12, 40, 41, 42] (by decide +kernel) (by decide +kernel)
set_option maxRecDepth 20000 in
theorem gL_row_X3_init_n23 : GoodIn wsL_row (wsX3_init) := ggL_row_X3_init
set_option maxRecDepth 20000 in
theorem ggL_row_X3_stand : GoodIn wsL_row wsX3_stand := goodIn_r _ [16, 17, 10, 12, 18, 19, 20, 21, 22, 23, 24, 25, 26, 27, 28, 29, 30, 31, 32, 33, 34, 14, 15, 3, 40, 41, 42] (by decide +kernel) (by decide +kernel)
set_option maxRecDepth 20000 in
theorem gL_row_X3_stand : GoodIn wsL_row (wsV RL 24 RX3 yX3_stand wsX3_stand) := goodIn_app (goodIn_of _ (by decide +kernel)) ggL_row_X3_stand
set_option maxRecDepth 20000 in
theorem ggL_row_X3_walk : GoodIn wsL_row wsX3_walk := goodIn_r _ [38, 12, 39, 36, 37, 3, 40, 41, 42] (by decide +kernel) (by decide +kernel)
set_option maxRecDepth 20000 in
theorem gL_row_X3_walk : GoodIn wsL_row (wsV RL 28 RX3 yX3_walk wsX3_walk) := goodIn_app (goodIn_of _ (by decide +kernel)) ggL_row_X3_walk
theorem dL_row_0 : decode cL_row 0 = .ok (.new 21, 3) := by decide +kernel
theorem dL_row_3 : decode cL_row 3 = .ok (.dup, 1) := by decide +kernel
theorem dL_row_4 : decode cL_row 4 = .ok (.invokespecial 23, 3) := by decide +kernel
theorem dL_row_7 : decode cL_row 7 = .ok (.astore_n 2, 1) := by decide +kernel
theorem dL_row_8 : decode cL_row 8 = .ok (.aload_n 2, 1) := by decide +kernel
theorem dL_row_9 : decode cL_row 9 = .ok (.aload_n 2, 1) := by decide +kernel
theorem dL_row_10 : decode cL_row 10 = .ok (.aload_n 0, 1) := by decide +kernel
theorem dL_row_11 : decode cL_row 11 = .ok (.aload_n 1, 1) := by decide +kernel
theorem dL_row_12 : decode cL_row 12 = .ok (.iconst 0, 1) := by decide +kernel
theorem dL_row_13 : decode cL_row 13 = .ok (.invokevirtual 24, 3) := by decide +kernel
theorem dL_row_16 : decode cL_row 16 = .ok (.iconst 0, 1) := by decide +kernel
theorem dL_row_17 : decode cL_row 17 = .ok (.invokevirtual 28, 3) := by decide +kernel
theorem dL_row_20 : decode cL_row 20 = .ok (.aload_n 2, 1) := by decide +kernel
theorem dL_row_21 : decode cL_row 21 = .ok (.areturn, 1) := by decide +kernel
theorem dL_joined_0 : decode cL_joined 0 = .ok (.iload_n 2, 1) := by decide +kernel
theorem dL_joined_1 : decode cL_joined 1 = .ok (.tableswitch 102 0 4 #[35, 49, 63, 74, 88], 35) := by decide +kernel
theorem dL_joined_36 : decode cL_joined 36 = .ok (.iload_n 0, 1) := by decide +kernel
theorem dL_joined_37 : decode cL_joined 37 = .ok (.ifCond .eq 11, 3) := by decide +kernel
theorem dL_joined_40 : decode cL_joined 40 = .ok (.iload_n 1, 1) := by decide +kernel
theorem dL_joined_41 : decode cL_joined 41 = .ok (.ifCond .eq 7, 3) := by decide +kernel
theorem dL_joined_44 : decode cL_joined 44 = .ok (.iconst 1, 1) := by decide +kernel
theorem dL_joined_45 : decode cL_joined 45 = .ok (.goto 4, 3) := by decide +kernel
theorem dL_joined_48 : decode cL_joined 48 = .ok (.iconst 0, 1) := by decide +kernel
theorem dL_joined_49 : decode cL_joined 49 = .ok (.ireturn, 1) := by decide +kernel
theorem dL_joined_50 : decode cL_joined 50 = .ok (.iload_n 0, 1) := by decide +kernel
theorem dL_joined_51 : decode cL_joined 51 = .ok (.ifCond .ne 7, 3) := by decide +kernel
theorem dL_joined_54 : decode cL_joined 54 = .ok (.iload_n 1, 1) := by decide +kernel
theorem dL_joined_55 : decode cL_joined 55 = .ok (.ifCond .eq 7, 3) := by decide +kernel
theorem dL_joined_58 : decode cL_joined 58 = .ok (.iconst 1, 1) := by decide +kernel
theorem dL_joined_59 : decode cL_joined 59 = .ok (.goto 4, 3) := by decide +kernel
theorem dL_joined_62 : decode cL_joined 62 = .ok (.iconst 0, 1) := by decide +kernel
theorem dL_joined_63 : decode cL_joined 63 = .ok (.ireturn, 1) := by decide +kernel
theorem dL_joined_64 : decode cL_joined 64 = .ok (.iload_n 0, 1) := by decide +kernel
theorem dL_joined_65 : decode cL_joined 65 = .ok (.iload_n 1, 1) := by decide +kernel
theorem dL_joined_66 : decode cL_joined 66 = .ok (.if_icmp .eq 7, 3) := by decide +kernel
theorem dL_joined_69 : decode cL_joined 69 = .ok (.iconst 1, 1) := by decide +kernel
theorem dL_joined_70 : decode cL_joined 70 = .ok (.goto 4, 3) := by decide +kernel
theorem dL_joined_73 : decode cL_joined 73 = .ok (.iconst 0, 1) := by decide +kernel
theorem dL_joined_74 : decode cL_joined 74 = .ok (.ireturn, 1) := by decide +kernel
theorem dL_joined_75 : decode cL_joined 75 = .ok (.iload_n 0, 1) := by decide +kernel
theorem dL_joined_76 : decode cL_joined 76 = .ok (.ifCond .eq 7, 3) := by decide +kernel
theorem dL_joined_79 : decode cL_joined 79 = .ok (.iload_n 1, 1) := by decide +kernel
theorem dL_joined_80 : decode cL_joined 80 = .ok (.ifCond .ne 7, 3) := by decide +kernel
theorem dL_joined_83 : decode cL_joined 83 = .ok (.iconst 1, 1) := by decide +kernel
theorem dL_joined_84 : decode cL_joined 84 = .ok (.goto 4, 3) := by decide +kernel
theorem dL_joined_87 : decode cL_joined 87 = .ok (.iconst 0, 1) := by decide +kernel
theorem dL_joined_88 : decode cL_joined 88 = .ok (.ireturn, 1) := by decide +kernel
theorem dL_joined_89 : decode cL_joined 89 = .ok (.iload_n 0, 1) := by decide +kernel
theorem dL_joined_90 : decode cL_joined 90 = .ok (.ifCond .ne 11, 3) := by decide +kernel
theorem dL_joined_93 : decode cL_joined 93 = .ok (.iload_n 1, 1) := by decide +kernel
theorem dL_joined_94 : decode cL_joined 94 = .ok (.ifCond .ne 7, 3) := by decide +kernel
theorem dL_joined_97 : decode cL_joined 97 = .ok (.iconst 1, 1) := by decide +kernel
theorem dL_joined_98 : decode cL_joined 98 = .ok (.goto 4, 3) := by decide +kernel
theorem dL_joined_101 : decode cL_joined 101 = .ok (.iconst 0, 1) := by decide +kernel
theorem dL_joined_102 : decode cL_joined 102 = .ok (.ireturn, 1) := by decide +kernel
theorem dL_joined_103 : decode cL_joined 103 = .ok (.iload_n 0, 1) := by decide +kernel
theorem dL_joined_104 : decode cL_joined 104 = .ok (.iload_n 1, 1) := by decide +kernel
theorem dL_joined_105 : decode cL_joined 105 = .ok (.if_icmp .ne 7, 3) := by decide +kernel
theorem dL_joined_108 : decode cL_joined 108 = .ok (.iconst 1, 1) := by decide +kernel
theorem dL_joined_109 : decode cL_joined 109 = .ok (.goto 4, 3) := by decide +kernel
theorem dL_joined_112 : decode cL_joined 112 = .ok (.iconst 0, 1) := by decide +kernel
theorem dL_joined_113 : decode cL_joined 113 = .ok (.ireturn, 1) := by decide +kernel
set_option maxRecDepth 20000 in
theorem ggL_joined__L_says : GoodIn wsL_joined_ wsL_says := goodIn_r _ [5] (by decide +kernel) (by decide +kernel)
set_option maxRecDepth 20000 in
theorem gL_joined__L_says : GoodIn wsL_joined_ (va_wsS RL 9 yL_says wsL_says) := goodIn_app (goodIn_of _ (by decide +kernel)) ggL_joined__L_says
set_option maxRecDepth 20000 in
theorem ggL_joined__L_joined : GoodIn wsL_joined_ wsL_joined := goodIn_r _ [8] (by decide +kernel) (by decide +kernel)
set_option maxRecDepth 20000 in
theorem gL_joined__L_joined : GoodIn wsL_joined_ (va_wsS RL 32 yL_joined wsL_joined) := goodIn_app (goodIn_of _ (by decide +kernel)) ggL_joined__L_joined
set_option maxRecDepth 20000 in
theorem ggL_joined__L_set : GoodIn wsL_joined_ wsL_set := goodIn_r _ [11] (by decide +kernel) (by decide +kernel)
set_option maxRecDepth 20000 in
theorem gL_joined__L_set : GoodIn wsL_joined_ (va_wsS RL 15 yL_set wsL_set) := goodIn_app (goodIn_of _ (by decide +kernel)) ggL_joined__L_set
theorem dL_joined__0 : decode cL_joined_ 0 = .ok (.iconst 4, 1) := by decide +kernel
theorem dL_joined__1 : decode cL_joined_ 1 = .ok (.newarray .long, 2) := by decide +kernel
theorem dL_joined__3 : decode cL_joined_ 3 = .ok (.astore_n 3, 1) := by decide +kernel
theorem dL_joined__4 : decode cL_joined_ 4 = .ok (.iconst 0, 1) := by decide +kernel
theorem dL_joined__5 : decode cL_joined_ 5 = .ok (.istore 4, 2) := by decide +kernel
theorem dL_joined__7 : decode cL_joined_ 7 = .ok (.iload 4, 2) := by decide +kernel
theorem dL_joined__9 : decode cL_joined_ 9 = .ok (.sipush 256, 3) := by decide +kernel
theorem dL_joined__12 : decode cL_joined_ 12 = .ok (.if_icmp .ge 34, 3) := by decide +kernel
theorem dL_joined__15 : decode cL_joined_ 15 = .ok (.aload_n 0, 1) := by decide +kernel
theorem dL_joined__16 : decode cL_joined_ 16 = .ok (.iload 4, 2) := by decide +kernel
theorem dL_joined__18 : decode cL_joined_ 18 = .ok (.invokestatic 9, 3) := by decide +kernel
theorem dL_joined__21 : decode cL_joined_ 21 = .ok (.aload_n 1, 1) := by decide +kernel
theorem dL_joined__22 : decode cL_joined_ 22 = .ok (.iload 4, 2) := by decide +kernel
theorem dL_joined__24 : decode cL_joined_ 24 = .ok (.invokestatic 9, 3) := by decide +kernel
theorem dL_joined__27 : decode cL_joined_ 27 = .ok (.iload_n 2, 1) := by decide +kernel
theorem dL_joined__28 : decode cL_joined_ 28 = .ok (.invokestatic 32, 3) := by decide +kernel
theorem dL_joined__31 : decode cL_joined_ 31 = .ok (.ifCond .eq 9, 3) := by decide +kernel
theorem dL_joined__34 : decode cL_joined_ 34 = .ok (.aload_n 3, 1) := by decide +kernel
theorem dL_joined__35 : decode cL_joined_ 35 = .ok (.iload 4, 2) := by decide +kernel
theorem dL_joined__37 : decode cL_joined_ 37 = .ok (.invokestatic 15, 3) := by decide +kernel
theorem dL_joined__40 : decode cL_joined_ 40 = .ok (.iinc 4 1, 3) := by decide +kernel
theorem dL_joined__43 : decode cL_joined_ 43 = .ok (.goto (-36), 3) := by decide +kernel
theorem dL_joined__46 : decode cL_joined_ 46 = .ok (.aload_n 3, 1) := by decide +kernel
theorem dL_joined__47 : decode cL_joined_ 47 = .ok (.areturn, 1) := by decide +kernel
