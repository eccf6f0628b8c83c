theorem dX3_init_0 : decode cX3_init 0 = .ok (.aload_n 0, 1) := by decide +kernel
theorem dX3_init_1 : decode cX3_init 1 = .ok (.invokespecial 1, 3) := by decide +kernel
theorem dX3_init_4 : decode cX3_init 4 = .ok (.aload_n 0, 1) := by decide +kernel
theorem dX3_init_5 : decode cX3_init 5 = .ok (.bipush 12, 2) := by decide +kernel
theorem dX3_init_7 : decode cX3_init 7 = .ok (.newarray .boolean, 2) := by decide +kernel
theorem dX3_init_9 : decode cX3_init 9 = .ok (.putfield 9, 3) := by decide +kernel
theorem dX3_init_12 : decode cX3_init 12 = .ok (.aload_n 0, 1) := by decide +kernel
theorem dX3_init_13 : decode cX3_init 13 = .ok (.bipush 48, 2) := by decide +kernel
theorem dX3_init_15 : decode cX3_init 15 = .ok (.newarray .long, 2) := by decide +kernel
theorem dX3_init_17 : decode cX3_init 17 = .ok (.putfield 13, 3) := by decide +kernel
theorem dX3_init_20 : decode cX3_init 20 = .ok (.aload_n 0, 1) := by decide +kernel
theorem dX3_init_21 : decode cX3_init 21 = .ok (.bipush 8, 2) := by decide +kernel
theorem dX3_init_23 : decode cX3_init 23 = .ok (.newarray .int, 2) := by decide +kernel
theorem dX3_init_25 : decode cX3_init 25 = .ok (.dup, 1) := by decide +kernel
theorem dX3_init_26 : decode cX3_init 26 = .ok (.iconst 0, 1) := by decide +kernel
theorem dX3_init_27 : decode cX3_init 27 = .ok (.iconst 0, 1) := by decide +kernel
theorem dX3_init_28 : decode cX3_init 28 = .ok (.iastore, 1) := by decide +kernel
theorem dX3_init_29 : decode cX3_init 29 = .ok (.dup, 1) := by decide +kernel
theorem dX3_init_30 : decode cX3_init 30 = .ok (.iconst 1, 1) := by decide +kernel
theorem dX3_init_31 : decode cX3_init 31 = .ok (.iconst 1, 1) := by decide +kernel
theorem dX3_init_32 : decode cX3_init 32 = .ok (.iastore, 1) := by decide +kernel
theorem dX3_init_33 : decode cX3_init 33 = .ok (.dup, 1) := by decide +kernel
theorem dX3_init_34 : decode cX3_init 34 = .ok (.iconst 2, 1) := by decide +kernel
theorem dX3_init_35 : decode cX3_init 35 = .ok (.iconst 2, 1) := by decide +kernel
theorem dX3_init_36 : decode cX3_init 36 = .ok (.iastore, 1) := by decide +kernel
theorem dX3_init_37 : decode cX3_init 37 = .ok (.dup, 1) := by decide +kernel
theorem dX3_init_38 : decode cX3_init 38 = .ok (.iconst 3, 1) := by decide +kernel
theorem dX3_init_39 : decode cX3_init 39 = .ok (.iconst 3, 1) := by decide +kernel
theorem dX3_init_40 : decode cX3_init 40 = .ok (.iastore, 1) := by decide +kernel
theorem dX3_init_41 : decode cX3_init 41 = .ok (.dup, 1) := by decide +kernel
theorem dX3_init_42 : decode cX3_init 42 = .ok (.iconst 4, 1) := by decide +kernel
theorem dX3_init_43 : decode cX3_init 43 = .ok (.iconst 4, 1) := by decide +kernel
theorem dX3_init_44 : decode cX3_init 44 = .ok (.iastore, 1) := by decide +kernel
theorem dX3_init_45 : decode cX3_init 45 = .ok (.dup, 1) := by decide +kernel
theorem dX3_init_46 : decode cX3_init 46 = .ok (.iconst 5, 1) := by decide +kernel
theorem dX3_init_47 : decode cX3_init 47 = .ok (.iconst 5, 1) := by decide +kernel
theorem dX3_init_48 : decode cX3_init 48 = .ok (.iastore, 1) := by decide +kernel
theorem dX3_init_49 : decode cX3_init 49 = .ok (.dup, 1) := by decide +kernel
theorem dX3_init_50 : decode cX3_init 50 = .ok (.bipush 6, 2) := by decide +kernel
theorem dX3_init_52 : decode cX3_init 52 = .ok (.bipush 6, 2) := by decide +kernel
theorem dX3_init_54 : decode cX3_init 54 = .ok (.iastore, 1) := by decide +kernel
theorem dX3_init_55 : decode cX3_init 55 = .ok (.dup, 1) := by decide +kernel
theorem dX3_init_56 : decode cX3_init 56 = .ok (.bipush 7, 2) := by decide +kernel
theorem dX3_init_58 : decode cX3_init 58 = .ok (.bipush 7, 2) := by decide +kernel
theorem dX3_init_60 : decode cX3_init 60 = .ok (.iastore, 1) := by decide +kernel
theorem dX3_init_61 : decode cX3_init 61 = .ok (.putfield 17, 3) := by decide +kernel
theorem dX3_init_64 : decode cX3_init 64 = .ok (.aload_n 0, 1) := by decide +kernel
theorem dX3_init_65 : decode cX3_init 65 = .ok (.sipush 3840, 3) := by decide +kernel
theorem dX3_init_68 : decode cX3_init 68 = .ok (.newarray .long, 2) := by decide +kernel
theorem dX3_init_70 : decode cX3_init 70 = .ok (.putfield 21, 3) := by decide +kernel
theorem dX3_init_73 : decode cX3_init 73 = .ok (.aload_n 0, 1) := by decide +kernel
theorem dX3_init_74 : decode cX3_init 74 = .ok (.sipush 960, 3) := by decide +kernel
theorem dX3_init_77 : decode cX3_init 77 = .ok (.newarray .int, 2) := by decide +kernel
theorem dX3_init_79 : decode cX3_init 79 = .ok (.putfield 24, 3) := by decide +kernel
theorem dX3_init_82 : decode cX3_init 82 = .ok (.aload_n 0, 1) := by decide +kernel
theorem dX3_init_83 : decode cX3_init 83 = .ok (.sipush 960, 3) := by decide +kernel
theorem dX3_init_86 : decode cX3_init 86 = .ok (.newarray .int, 2) := by decide +kernel
theorem dX3_init_88 : decode cX3_init 88 = .ok (.putfield 27, 3) := by decide +kernel
theorem dX3_init_91 : decode cX3_init 91 = .ok (.aload_n 0, 1) := by decide +kernel
theorem dX3_init_92 : decode cX3_init 92 = .ok (.sipush 960, 3) := by decide +kernel
theorem dX3_init_95 : decode cX3_init 95 = .ok (.newarray .int, 2) := by decide +kernel
theorem dX3_init_97 : decode cX3_init 97 = .ok (.putfield 30, 3) := by decide +kernel
theorem dX3_init_100 : decode cX3_init 100 = .ok (.aload_n 0, 1) := by decide +kernel
theorem dX3_init_101 : decode cX3_init 101 = .ok (.sipush 960, 3) := by decide +kernel
theorem dX3_init_104 : decode cX3_init 104 = .ok (.newarray .int, 2) := by decide +kernel
theorem dX3_init_106 : decode cX3_init 106 = .ok (.putfield 33, 3) := by decide +kernel
theorem dX3_init_109 : decode cX3_init 109 = .ok (.aload_n 0, 1) := by decide +kernel
theorem dX3_init_110 : decode cX3_init 110 = .ok (.bipush 12, 2) := by decide +kernel
theorem dX3_init_112 : decode cX3_init 112 = .ok (.newarray .int, 2) := by decide +kernel
theorem dX3_init_114 : decode cX3_init 114 = .ok (.putfield 36, 3) := by decide +kernel
theorem dX3_init_117 : decode cX3_init 117 = .ok (.aload_n 0, 1) := by decide +kernel
theorem dX3_init_118 : decode cX3_init 118 = .ok (.bipush 40, 2) := by decide +kernel
theorem dX3_init_120 : decode cX3_init 120 = .ok (.newarray .long, 2) := by decide +kernel
theorem dX3_init_122 : decode cX3_init 122 = .ok (.putfield 39, 3) := by decide +kernel
theorem dX3_init_125 : decode cX3_init 125 = .ok (.aload_n 0, 1) := by decide +kernel
theorem dX3_init_126 : decode cX3_init 126 = .ok (.bipush 80, 2) := by decide +kernel
theorem dX3_init_128 : decode cX3_init 128 = .ok (.newarray .int, 2) := by decide +kernel
theorem dX3_init_130 : decode cX3_init 130 = .ok (.putfield 42, 3) := by decide +kernel
theorem dX3_init_133 : decode cX3_init 133 = .ok (.aload_n 0, 1) := by decide +kernel
theorem dX3_init_134 : decode cX3_init 134 = .ok (.sipush 960, 3) := by decide +kernel
theorem dX3_init_137 : decode cX3_init 137 = .ok (.newarray .int, 2) := by decide +kernel
theorem dX3_init_139 : decode cX3_init 139 = .ok (.putfield 45, 3) := by decide +kernel
theorem dX3_init_142 : decode cX3_init 142 = .ok (.return_, 1) := by decide +kernel
theorem dX3_thrown_0 : decode cX3_thrown 0 = .ok (.aload_n 0, 1) := by decide +kernel
theorem dX3_thrown_1 : decode cX3_thrown 1 = .ok (.getfield 48, 3) := by decide +kernel
theorem dX3_thrown_4 : decode cX3_thrown 4 = .ok (.ireturn, 1) := by decide +kernel
theorem dX3_fail_0 : decode cX3_fail 0 = .ok (.aload_n 0, 1) := by decide +kernel
theorem dX3_fail_1 : decode cX3_fail 1 = .ok (.iload_n 1, 1) := by decide +kernel
theorem dX3_fail_2 : decode cX3_fail 2 = .ok (.putfield 48, 3) := by decide +kernel
theorem dX3_fail_5 : decode cX3_fail 5 = .ok (.iconst 0, 1) := by decide +kernel
theorem dX3_fail_6 : decode cX3_fail 6 = .ok (.ireturn, 1) := by decide +kernel
theorem dX3_isIn_0 : decode cX3_isIn 0 = .ok (.iload_n 0, 1) := by decide +kernel
theorem dX3_isIn_1 : decode cX3_isIn 1 = .ok (.iload_n 1, 1) := by decide +kernel
theorem dX3_isIn_2 : decode cX3_isIn 2 = .ok (.if_icmp .lt 12, 3) := by decide +kernel
theorem dX3_isIn_5 : decode cX3_isIn 5 = .ok (.iload_n 0, 1) := by decide +kernel
theorem dX3_isIn_6 : decode cX3_isIn 6 = .ok (.iload_n 2, 1) := by decide +kernel
theorem dX3_isIn_7 : decode cX3_isIn 7 = .ok (.if_icmp .gt 7, 3) := by decide +kernel
theorem dX3_isIn_10 : decode cX3_isIn 10 = .ok (.iconst 1, 1) := by decide +kernel
theorem dX3_isIn_11 : decode cX3_isIn 11 = .ok (.goto 4, 3) := by decide +kernel
theorem dX3_isIn_14 : decode cX3_isIn 14 = .ok (.iconst 0, 1) := by decide +kernel
theorem dX3_isIn_15 : decode cX3_isIn 15 = .ok (.ireturn, 1) := by decide +kernel
set_option maxRecDepth 20000 in
theorem ggX3_isFold_X3_isIn : GoodIn wsX3_isFold wsX3_isIn := goodIn_r _ [5] (by decide +kernel) (by decide +kernel)
set_option maxRecDepth 20000 in
theorem gX3_isFold_X3_isIn : GoodIn wsX3_isFold (va_wsS RX3 52 yX3_isIn wsX3_isIn) := goodIn_app (goodIn_of _ (by decide +kernel)) ggX3_isFold_X3_isIn
theorem dX3_isFold_0 : decode cX3_isFold 0 = .ok (.iload_n 1, 1) := by decide +kernel
theorem dX3_isFold_1 : decode cX3_isFold 1 = .ok (.iconst 0, 1) := by decide +kernel
theorem dX3_isFold_2 : decode cX3_isFold 2 = .ok (.bipush 11, 2) := by decide +kernel
theorem dX3_isFold_4 : decode cX3_isFold 4 = .ok (.invokestatic 52, 3) := by decide +kernel
theorem dX3_isFold_7 : decode cX3_isFold 7 = .ok (.ifCond .eq 16, 3) := by decide +kernel
theorem dX3_isFold_10 : decode cX3_isFold 10 = .ok (.aload_n 0, 1) := by decide +kernel
theorem dX3_isFold_11 : decode cX3_isFold 11 = .ok (.getfield 9, 3) := by decide +kernel
theorem dX3_isFold_14 : decode cX3_isFold 14 = .ok (.iload_n 1, 1) := by decide +kernel
theorem dX3_isFold_15 : decode cX3_isFold 15 = .ok (.baload, 1) := by decide +kernel
theorem dX3_isFold_16 : decode cX3_isFold 16 = .ok (.ifCond .eq 7, 3) := by decide +kernel
theorem dX3_isFold_19 : decode cX3_isFold 19 = .ok (.iconst 1, 1) := by decide +kernel
theorem dX3_isFold_20 : decode cX3_isFold 20 = .ok (.goto 4, 3) := by decide +kernel
theorem dX3_isFold_23 : decode cX3_isFold 23 = .ok (.iconst 0, 1) := by decide +kernel
theorem dX3_isFold_24 : decode cX3_isFold 24 = .ok (.ireturn, 1) := by decide +kernel
set_option maxRecDepth 20000 in
theorem ggX3_isQuestion_X3_isIn : GoodIn wsX3_isQuestion wsX3_isIn := goodIn_r _ [4] (by decide +kernel) (by decide +kernel)
set_option maxRecDepth 20000 in
theorem gX3_isQuestion_X3_isIn : GoodIn wsX3_isQuestion (va_wsS RX3 52 yX3_isIn wsX3_isIn) := goodIn_app (goodIn_of _ (by decide +kernel)) ggX3_isQuestion_X3_isIn
theorem dX3_isQuestion_0 : decode cX3_isQuestion 0 = .ok (.iload_n 0, 1) := by decide +kernel
theorem dX3_isQuestion_1 : decode cX3_isQuestion 1 = .ok (.iconst 0, 1) := by decide +kernel
theorem dX3_isQuestion_2 : decode cX3_isQuestion 2 = .ok (.bipush 7, 2) := by decide +kernel
theorem dX3_isQuestion_4 : decode cX3_isQuestion 4 = .ok (.invokestatic 52, 3) := by decide +kernel
theorem dX3_isQuestion_7 : decode cX3_isQuestion 7 = .ok (.ireturn, 1) := by decide +kernel
theorem dX3_yes_0 : decode cX3_yes 0 = .ok (.iload_n 0, 1) := by decide +kernel
theorem dX3_yes_1 : decode cX3_yes 1 = .ok (.iconst 5, 1) := by decide +kernel
theorem dX3_yes_2 : decode cX3_yes 2 = .ok (.if_icmp .le 23, 3) := by decide +kernel
theorem dX3_yes_5 : decode cX3_yes 5 = .ok (.iload_n 1, 1) := by decide +kernel
theorem dX3_yes_6 : decode cX3_yes 6 = .ok (.iload_n 0, 1) := by decide +kernel
theorem dX3_yes_7 : decode cX3_yes 7 = .ok (.bipush 6, 2) := by decide +kernel
theorem dX3_yes_9 : decode cX3_yes 9 = .ok (.isub, 1) := by decide +kernel
theorem dX3_yes_10 : decode cX3_yes 10 = .ok (.ishr, 1) := by decide +kernel
theorem dX3_yes_11 : decode cX3_yes 11 = .ok (.iconst 1, 1) := by decide +kernel
theorem dX3_yes_12 : decode cX3_yes 12 = .ok (.iand, 1) := by decide +kernel
theorem dX3_yes_13 : decode cX3_yes 13 = .ok (.iconst 1, 1) := by decide +kernel
theorem dX3_yes_14 : decode cX3_yes 14 = .ok (.if_icmp .ne 9, 3) := by decide +kernel
theorem dX3_yes_17 : decode cX3_yes 17 = .ok (.ldc2_w 56, 3) := by decide +kernel
theorem dX3_yes_20 : decode cX3_yes 20 = .ok (.goto 4, 3) := by decide +kernel
theorem dX3_yes_23 : decode cX3_yes 23 = .ok (.lconst 0, 1) := by decide +kernel
theorem dX3_yes_24 : decode cX3_yes 24 = .ok (.lreturn, 1) := by decide +kernel
theorem dX3_yes_25 : decode cX3_yes 25 = .ok (.lconst 0, 1) := by decide +kernel
theorem dX3_yes_26 : decode cX3_yes 26 = .ok (.lstore_n 2, 1) := by decide +kernel
theorem dX3_yes_27 : decode cX3_yes 27 = .ok (.iconst 0, 1) := by decide +kernel
theorem dX3_yes_28 : decode cX3_yes 28 = .ok (.istore 4, 2) := by decide +kernel
theorem dX3_yes_30 : decode cX3_yes 30 = .ok (.iload 4, 2) := by decide +kernel
theorem dX3_yes_32 : decode cX3_yes 32 = .ok (.bipush 64, 2) := by decide +kernel
theorem dX3_yes_34 : decode cX3_yes 34 = .ok (.if_icmp .ge 26, 3) := by decide +kernel
theorem dX3_yes_37 : decode cX3_yes 37 = .ok (.iload 4, 2) := by decide +kernel
theorem dX3_yes_39 : decode cX3_yes 39 = .ok (.iload_n 0, 1) := by decide +kernel
theorem dX3_yes_40 : decode cX3_yes 40 = .ok (.ishr, 1) := by decide +kernel
theorem dX3_yes_41 : decode cX3_yes 41 = .ok (.iconst 1, 1) := by decide +kernel
theorem dX3_yes_42 : decode cX3_yes 42 = .ok (.iand, 1) := by decide +kernel
theorem dX3_yes_43 : decode cX3_yes 43 = .ok (.iconst 1, 1) := by decide +kernel
theorem dX3_yes_44 : decode cX3_yes 44 = .ok (.if_icmp .ne 10, 3) := by decide +kernel
theorem dX3_yes_47 : decode cX3_yes 47 = .ok (.lload_n 2, 1) := by decide +kernel
theorem dX3_yes_48 : decode cX3_yes 48 = .ok (.lconst 1, 1) := by decide +kernel
theorem dX3_yes_49 : decode cX3_yes 49 = .ok (.iload 4, 2) := by decide +kernel
theorem dX3_yes_51 : decode cX3_yes 51 = .ok (.lshl, 1) := by decide +kernel
theorem dX3_yes_52 : decode cX3_yes 52 = .ok (.lor, 1) := by decide +kernel
theorem dX3_yes_53 : decode cX3_yes 53 = .ok (.lstore_n 2, 1) := by decide +kernel
theorem dX3_yes_54 : decode cX3_yes 54 = .ok (.iinc 4 1, 3) := by decide +kernel
theorem dX3_yes_57 : decode cX3_yes 57 = .ok (.goto (-27), 3) := by decide +kernel
theorem dX3_yes_60 : decode cX3_yes 60 = .ok (.lload_n 2, 1) := by decide +kernel
theorem dX3_yes_61 : decode cX3_yes 61 = .ok (.lreturn, 1) := by decide +kernel
set_option maxRecDepth 20000 in
theorem ggX3_give_X3_yes : GoodIn wsX3_give wsX3_yes := goodIn_r _ [5, 1] (by decide +kernel) (by decide +kernel)
set_option maxRecDepth 20000 in
theorem gX3_give_X3_yes : GoodIn wsX3_give (va_wsS RX3 58 yX3_yes wsX3_yes) := goodIn_app (goodIn_of _ (by decide +kernel)) ggX3_give_X3_yes
theorem dX3_give_0 : decode cX3_give 0 = .ok (.iconst 0, 1) := by decide +kernel
theorem dX3_give_1 : decode cX3_give 1 = .ok (.istore 6, 2) := by decide +kernel
theorem dX3_give_3 : decode cX3_give 3 = .ok (.iload 6, 2) := by decide +kernel
theorem dX3_give_5 : decode cX3_give 5 = .ok (.iconst 4, 1) := by decide +kernel
theorem dX3_give_6 : decode cX3_give 6 = .ok (.if_icmp .ge 134, 3) := by decide +kernel
theorem dX3_give_9 : decode cX3_give 9 = .ok (.iload 4, 2) := by decide +kernel
theorem dX3_give_11 : decode cX3_give 11 = .ok (.iconst 5, 1) := by decide +kernel
theorem dX3_give_12 : decode cX3_give 12 = .ok (.if_icmp .le 45, 3) := by decide +kernel
theorem dX3_give_15 : decode cX3_give 15 = .ok (.iconst 1, 1) := by decide +kernel
theorem dX3_give_16 : decode cX3_give 16 = .ok (.iload 4, 2) := by decide +kernel
theorem dX3_give_18 : decode cX3_give 18 = .ok (.bipush 6, 2) := by decide +kernel
theorem dX3_give_20 : decode cX3_give 20 = .ok (.isub, 1) := by decide +kernel
theorem dX3_give_21 : decode cX3_give 21 = .ok (.ishl, 1) := by decide +kernel
theorem dX3_give_22 : decode cX3_give 22 = .ok (.istore 7, 2) := by decide +kernel
theorem dX3_give_24 : decode cX3_give 24 = .ok (.aload_n 2, 1) := by decide +kernel
theorem dX3_give_25 : decode cX3_give 25 = .ok (.iload_n 3, 1) := by decide +kernel
theorem dX3_give_26 : decode cX3_give 26 = .ok (.iload 6, 2) := by decide +kernel
theorem dX3_give_28 : decode cX3_give 28 = .ok (.iadd, 1) := by decide +kernel
theorem dX3_give_29 : decode cX3_give 29 = .ok (.aload_n 0, 1) := by decide +kernel
theorem dX3_give_30 : decode cX3_give 30 = .ok (.iload_n 1, 1) := by decide +kernel
theorem dX3_give_31 : decode cX3_give 31 = .ok (.iload 5, 2) := by decide +kernel
theorem dX3_give_33 : decode cX3_give 33 = .ok (.ifCond .eq 11, 3) := by decide +kernel
theorem dX3_give_36 : decode cX3_give 36 = .ok (.iload 6, 2) := by decide +kernel
theorem dX3_give_38 : decode cX3_give 38 = .ok (.iload 7, 2) := by decide +kernel
theorem dX3_give_40 : decode cX3_give 40 = .ok (.ior, 1) := by decide +kernel
theorem dX3_give_41 : decode cX3_give 41 = .ok (.goto 10, 3) := by decide +kernel
theorem dX3_give_44 : decode cX3_give 44 = .ok (.iload 6, 2) := by decide +kernel
theorem dX3_give_46 : decode cX3_give 46 = .ok (.iload 7, 2) := by decide +kernel
theorem dX3_give_48 : decode cX3_give 48 = .ok (.iconst (-1), 1) := by decide +kernel
theorem dX3_give_49 : decode cX3_give 49 = .ok (.ixor, 1) := by decide +kernel
theorem dX3_give_50 : decode cX3_give 50 = .ok (.iand, 1) := by decide +kernel
theorem dX3_give_51 : decode cX3_give 51 = .ok (.iadd, 1) := by decide +kernel
theorem dX3_give_52 : decode cX3_give 52 = .ok (.laload, 1) := by decide +kernel
theorem dX3_give_53 : decode cX3_give 53 = .ok (.lastore, 1) := by decide +kernel
theorem dX3_give_54 : decode cX3_give 54 = .ok (.goto 80, 3) := by decide +kernel
theorem dX3_give_57 : decode cX3_give 57 = .ok (.iload 4, 2) := by decide +kernel
theorem dX3_give_59 : decode cX3_give 59 = .ok (.iload 6, 2) := by decide +kernel
theorem dX3_give_61 : decode cX3_give 61 = .ok (.invokestatic 58, 3) := by decide +kernel
theorem dX3_give_64 : decode cX3_give 64 = .ok (.lstore 7, 2) := by decide +kernel
theorem dX3_give_66 : decode cX3_give 66 = .ok (.iconst 1, 1) := by decide +kernel
theorem dX3_give_67 : decode cX3_give 67 = .ok (.iload 4, 2) := by decide +kernel
theorem dX3_give_69 : decode cX3_give 69 = .ok (.ishl, 1) := by decide +kernel
theorem dX3_give_70 : decode cX3_give 70 = .ok (.istore 9, 2) := by decide +kernel
theorem dX3_give_72 : decode cX3_give 72 = .ok (.iload 5, 2) := by decide +kernel
theorem dX3_give_74 : decode cX3_give 74 = .ok (.ifCond .eq 15, 3) := by decide +kernel
theorem dX3_give_77 : decode cX3_give 77 = .ok (.aload_n 0, 1) := by decide +kernel
theorem dX3_give_78 : decode cX3_give 78 = .ok (.iload_n 1, 1) := by decide +kernel
theorem dX3_give_79 : decode cX3_give 79 = .ok (.iload 6, 2) := by decide +kernel
theorem dX3_give_81 : decode cX3_give 81 = .ok (.iadd, 1) := by decide +kernel
theorem dX3_give_82 : decode cX3_give 82 = .ok (.laload, 1) := by decide +kernel
theorem dX3_give_83 : decode cX3_give 83 = .ok (.lload 7, 2) := by decide +kernel
theorem dX3_give_85 : decode cX3_give 85 = .ok (.land, 1) := by decide +kernel
theorem dX3_give_86 : decode cX3_give 86 = .ok (.goto 16, 3) := by decide +kernel
theorem dX3_give_89 : decode cX3_give 89 = .ok (.aload_n 0, 1) := by decide +kernel
theorem dX3_give_90 : decode cX3_give 90 = .ok (.iload_n 1, 1) := by decide +kernel
theorem dX3_give_91 : decode cX3_give 91 = .ok (.iload 6, 2) := by decide +kernel
theorem dX3_give_93 : decode cX3_give 93 = .ok (.iadd, 1) := by decide +kernel
theorem dX3_give_94 : decode cX3_give 94 = .ok (.laload, 1) := by decide +kernel
theorem dX3_give_95 : decode cX3_give 95 = .ok (.lload 7, 2) := by decide +kernel
theorem dX3_give_97 : decode cX3_give 97 = .ok (.ldc2_w 56, 3) := by decide +kernel
theorem dX3_give_100 : decode cX3_give 100 = .ok (.lxor, 1) := by decide +kernel
theorem dX3_give_101 : decode cX3_give 101 = .ok (.land, 1) := by decide +kernel
theorem dX3_give_102 : decode cX3_give 102 = .ok (.lstore 10, 2) := by decide +kernel
theorem dX3_give_104 : decode cX3_give 104 = .ok (.aload_n 2, 1) := by decide +kernel
theorem dX3_give_105 : decode cX3_give 105 = .ok (.iload_n 3, 1) := by decide +kernel
theorem dX3_give_106 : decode cX3_give 106 = .ok (.iload 6, 2) := by decide +kernel
theorem dX3_give_108 : decode cX3_give 108 = .ok (.iadd, 1) := by decide +kernel
theorem dX3_give_109 : decode cX3_give 109 = .ok (.iload 5, 2) := by decide +kernel
theorem dX3_give_111 : decode cX3_give 111 = .ok (.ifCond .eq 14, 3) := by decide +kernel
theorem dX3_give_114 : decode cX3_give 114 = .ok (.lload 10, 2) := by decide +kernel
theorem dX3_give_116 : decode cX3_give 116 = .ok (.lload 10, 2) := by decide +kernel
theorem dX3_give_118 : decode cX3_give 118 = .ok (.iload 9, 2) := by decide +kernel
theorem dX3_give_120 : decode cX3_give 120 = .ok (.lushr, 1) := by decide +kernel
theorem dX3_give_121 : decode cX3_give 121 = .ok (.lor, 1) := by decide +kernel
theorem dX3_give_122 : decode cX3_give 122 = .ok (.goto 11, 3) := by decide +kernel
theorem dX3_give_125 : decode cX3_give 125 = .ok (.lload 10, 2) := by decide +kernel
theorem dX3_give_127 : decode cX3_give 127 = .ok (.lload 10, 2) := by decide +kernel
theorem dX3_give_129 : decode cX3_give 129 = .ok (.iload 9, 2) := by decide +kernel
theorem dX3_give_131 : decode cX3_give 131 = .ok (.lshl, 1) := by decide +kernel
theorem dX3_give_132 : decode cX3_give 132 = .ok (.lor, 1) := by decide +kernel
theorem dX3_give_133 : decode cX3_give 133 = .ok (.lastore, 1) := by decide +kernel
theorem dX3_give_134 : decode cX3_give 134 = .ok (.iinc 6 1, 3) := by decide +kernel
theorem dX3_give_137 : decode cX3_give 137 = .ok (.goto (-134), 3) := by decide +kernel
theorem dX3_give_140 : decode cX3_give 140 = .ok (.return_, 1) := by decide +kernel
theorem dX3_isAll_0 : decode cX3_isAll 0 = .ok (.iconst 0, 1) := by decide +kernel
theorem dX3_isAll_1 : decode cX3_isAll 1 = .ok (.istore 4, 2) := by decide +kernel
theorem dX3_isAll_3 : decode cX3_isAll 3 = .ok (.iload 4, 2) := by decide +kernel
theorem dX3_isAll_5 : decode cX3_isAll 5 = .ok (.iconst 4, 1) := by decide +kernel
theorem dX3_isAll_6 : decode cX3_isAll 6 = .ok (.if_icmp .ge 22, 3) := by decide +kernel
theorem dX3_isAll_9 : decode cX3_isAll 9 = .ok (.aload_n 0, 1) := by decide +kernel
theorem dX3_isAll_10 : decode cX3_isAll 10 = .ok (.iload_n 1, 1) := by decide +kernel
theorem dX3_isAll_11 : decode cX3_isAll 11 = .ok (.iload 4, 2) := by decide +kernel
theorem dX3_isAll_13 : decode cX3_isAll 13 = .ok (.iadd, 1) := by decide +kernel
theorem dX3_isAll_14 : decode cX3_isAll 14 = .ok (.laload, 1) := by decide +kernel
theorem dX3_isAll_15 : decode cX3_isAll 15 = .ok (.lload_n 2, 1) := by decide +kernel
theorem dX3_isAll_16 : decode cX3_isAll 16 = .ok (.lcmp, 1) := by decide +kernel
theorem dX3_isAll_17 : decode cX3_isAll 17 = .ok (.ifCond .eq 5, 3) := by decide +kernel
theorem dX3_isAll_20 : decode cX3_isAll 20 = .ok (.iconst 0, 1) := by decide +kernel
theorem dX3_isAll_21 : decode cX3_isAll 21 = .ok (.ireturn, 1) := by decide +kernel
theorem dX3_isAll_22 : decode cX3_isAll 22 = .ok (.iinc 4 1, 3) := by decide +kernel
theorem dX3_isAll_25 : decode cX3_isAll 25 = .ok (.goto (-22), 3) := by decide +kernel
theorem dX3_isAll_28 : decode cX3_isAll 28 = .ok (.iconst 1, 1) := by decide +kernel
theorem dX3_isAll_29 : decode cX3_isAll 29 = .ok (.ireturn, 1) := by decide +kernel
theorem dX3_isSame_0 : decode cX3_isSame 0 = .ok (.iconst 0, 1) := by decide +kernel
theorem dX3_isSame_1 : decode cX3_isSame 1 = .ok (.istore 4, 2) := by decide +kernel
theorem dX3_isSame_3 : decode cX3_isSame 3 = .ok (.iload 4, 2) := by decide +kernel
theorem dX3_isSame_5 : decode cX3_isSame 5 = .ok (.iconst 4, 1) := by decide +kernel
theorem dX3_isSame_6 : decode cX3_isSame 6 = .ok (.if_icmp .ge 27, 3) := by decide +kernel
theorem dX3_isSame_9 : decode cX3_isSame 9 = .ok (.aload_n 0, 1) := by decide +kernel
theorem dX3_isSame_10 : decode cX3_isSame 10 = .ok (.iload_n 1, 1) := by decide +kernel
theorem dX3_isSame_11 : decode cX3_isSame 11 = .ok (.iload 4, 2) := by decide +kernel
theorem dX3_isSame_13 : decode cX3_isSame 13 = .ok (.iadd, 1) := by decide +kernel
theorem dX3_isSame_14 : decode cX3_isSame 14 = .ok (.laload, 1) := by decide +kernel
theorem dX3_isSame_15 : decode cX3_isSame 15 = .ok (.aload_n 2, 1) := by decide +kernel
theorem dX3_isSame_16 : decode cX3_isSame 16 = .ok (.iload_n 3, 1) := by decide +kernel
theorem dX3_isSame_17 : decode cX3_isSame 17 = .ok (.iload 4, 2) := by decide +kernel
theorem dX3_isSame_19 : decode cX3_isSame 19 = .ok (.iadd, 1) := by decide +kernel
theorem dX3_isSame_20 : decode cX3_isSame 20 = .ok (.laload, 1) := by decide +kernel
theorem dX3_isSame_21 : decode cX3_isSame 21 = .ok (.lcmp, 1) := by decide +kernel
theorem dX3_isSame_22 : decode cX3_isSame 22 = .ok (.ifCond .eq 5, 3) := by decide +kernel
theorem dX3_isSame_25 : decode cX3_isSame 25 = .ok (.iconst 0, 1) := by decide +kernel
theorem dX3_isSame_26 : decode cX3_isSame 26 = .ok (.ireturn, 1) := by decide +kernel
theorem dX3_isSame_27 : decode cX3_isSame 27 = .ok (.iinc 4 1, 3) := by decide +kernel
theorem dX3_isSame_30 : decode cX3_isSame 30 = .ok (.goto (-27), 3) := by decide +kernel
theorem dX3_isSame_33 : decode cX3_isSame 33 = .ok (.iconst 1, 1) := by decide +kernel
theorem dX3_isSame_34 : decode cX3_isSame 34 = .ok (.ireturn, 1) := by decide +kernel
set_option maxRecDepth 20000 in
theorem ggX3_matters_X3_yes : GoodIn wsX3_matters wsX3_yes := goodIn_r _ [5, 1] (by decide +kernel) (by decide +kernel)
set_option maxRecDepth 20000 in
theorem gX3_matters_X3_yes : GoodIn wsX3_matters (va_wsS RX3 58 yX3_yes wsX3_yes) := goodIn_app (goodIn_of _ (by decide +kernel)) ggX3_matters_X3_yes
theorem dX3_matters_0 : decode cX3_matters 0 = .ok (.iconst 1, 1) := by decide +kernel
theorem dX3_matters_1 : decode cX3_matters 1 = .ok (.iload_n 3, 1) := by decide +kernel
theorem dX3_matters_2 : decode cX3_matters 2 = .ok (.ishl, 1) := by decide +kernel
theorem dX3_matters_3 : decode cX3_matters 3 = .ok (.istore 4, 2) := by decide +kernel
theorem dX3_matters_5 : decode cX3_matters 5 = .ok (.iconst 0, 1) := by decide +kernel
theorem dX3_matters_6 : decode cX3_matters 6 = .ok (.istore 5, 2) := by decide +kernel
theorem dX3_matters_8 : decode cX3_matters 8 = .ok (.iload 5, 2) := by decide +kernel
theorem dX3_matters_10 : decode cX3_matters 10 = .ok (.iconst 4, 1) := by decide +kernel
theorem dX3_matters_11 : decode cX3_matters 11 = .ok (.if_icmp .ge 74, 3) := by decide +kernel
theorem dX3_matters_14 : decode cX3_matters 14 = .ok (.iload_n 3, 1) := by decide +kernel
theorem dX3_matters_15 : decode cX3_matters 15 = .ok (.iconst 5, 1) := by decide +kernel
theorem dX3_matters_16 : decode cX3_matters 16 = .ok (.if_icmp .le 29, 3) := by decide +kernel
theorem dX3_matters_19 : decode cX3_matters 19 = .ok (.aload_n 1, 1) := by decide +kernel
theorem dX3_matters_20 : decode cX3_matters 20 = .ok (.iload_n 2, 1) := by decide +kernel
theorem dX3_matters_21 : decode cX3_matters 21 = .ok (.iload 5, 2) := by decide +kernel
theorem dX3_matters_23 : decode cX3_matters 23 = .ok (.iadd, 1) := by decide +kernel
theorem dX3_matters_24 : decode cX3_matters 24 = .ok (.laload, 1) := by decide +kernel
theorem dX3_matters_25 : decode cX3_matters 25 = .ok (.aload_n 1, 1) := by decide +kernel
theorem dX3_matters_26 : decode cX3_matters 26 = .ok (.iload_n 2, 1) := by decide +kernel
theorem dX3_matters_27 : decode cX3_matters 27 = .ok (.iload 5, 2) := by decide +kernel
theorem dX3_matters_29 : decode cX3_matters 29 = .ok (.iconst 1, 1) := by decide +kernel
theorem dX3_matters_30 : decode cX3_matters 30 = .ok (.iload_n 3, 1) := by decide +kernel
theorem dX3_matters_31 : decode cX3_matters 31 = .ok (.bipush 6, 2) := by decide +kernel
theorem dX3_matters_33 : decode cX3_matters 33 = .ok (.isub, 1) := by decide +kernel
theorem dX3_matters_34 : decode cX3_matters 34 = .ok (.ishl, 1) := by decide +kernel
theorem dX3_matters_35 : decode cX3_matters 35 = .ok (.ixor, 1) := by decide +kernel
theorem dX3_matters_36 : decode cX3_matters 36 = .ok (.iadd, 1) := by decide +kernel
theorem dX3_matters_37 : decode cX3_matters 37 = .ok (.laload, 1) := by decide +kernel
theorem dX3_matters_38 : decode cX3_matters 38 = .ok (.lcmp, 1) := by decide +kernel
theorem dX3_matters_39 : decode cX3_matters 39 = .ok (.ifCond .eq 40, 3) := by decide +kernel
theorem dX3_matters_42 : decode cX3_matters 42 = .ok (.goto 35, 3) := by decide +kernel
theorem dX3_matters_45 : decode cX3_matters 45 = .ok (.aload_n 1, 1) := by decide +kernel
theorem dX3_matters_46 : decode cX3_matters 46 = .ok (.iload_n 2, 1) := by decide +kernel
theorem dX3_matters_47 : decode cX3_matters 47 = .ok (.iload 5, 2) := by decide +kernel
theorem dX3_matters_49 : decode cX3_matters 49 = .ok (.iadd, 1) := by decide +kernel
theorem dX3_matters_50 : decode cX3_matters 50 = .ok (.laload, 1) := by decide +kernel
theorem dX3_matters_51 : decode cX3_matters 51 = .ok (.aload_n 1, 1) := by decide +kernel
theorem dX3_matters_52 : decode cX3_matters 52 = .ok (.iload_n 2, 1) := by decide +kernel
theorem dX3_matters_53 : decode cX3_matters 53 = .ok (.iload 5, 2) := by decide +kernel
theorem dX3_matters_55 : decode cX3_matters 55 = .ok (.iadd, 1) := by decide +kernel
theorem dX3_matters_56 : decode cX3_matters 56 = .ok (.laload, 1) := by decide +kernel
theorem dX3_matters_57 : decode cX3_matters 57 = .ok (.iload 4, 2) := by decide +kernel
theorem dX3_matters_59 : decode cX3_matters 59 = .ok (.lushr, 1) := by decide +kernel
theorem dX3_matters_60 : decode cX3_matters 60 = .ok (.lxor, 1) := by decide +kernel
theorem dX3_matters_61 : decode cX3_matters 61 = .ok (.iload_n 3, 1) := by decide +kernel
theorem dX3_matters_62 : decode cX3_matters 62 = .ok (.iload 5, 2) := by decide +kernel
theorem dX3_matters_64 : decode cX3_matters 64 = .ok (.invokestatic 58, 3) := by decide +kernel
theorem dX3_matters_67 : decode cX3_matters 67 = .ok (.ldc2_w 56, 3) := by decide +kernel
theorem dX3_matters_70 : decode cX3_matters 70 = .ok (.lxor, 1) := by decide +kernel
theorem dX3_matters_71 : decode cX3_matters 71 = .ok (.land, 1) := by decide +kernel
theorem dX3_matters_72 : decode cX3_matters 72 = .ok (.lconst 0, 1) := by decide +kernel
theorem dX3_matters_73 : decode cX3_matters 73 = .ok (.lcmp, 1) := by decide +kernel
theorem dX3_matters_74 : decode cX3_matters 74 = .ok (.ifCond .eq 5, 3) := by decide +kernel
theorem dX3_matters_77 : decode cX3_matters 77 = .ok (.iconst 1, 1) := by decide +kernel
theorem dX3_matters_78 : decode cX3_matters 78 = .ok (.ireturn, 1) := by decide +kernel
theorem dX3_matters_79 : decode cX3_matters 79 = .ok (.iinc 5 1, 3) := by decide +kernel
theorem dX3_matters_82 : decode cX3_matters 82 = .ok (.goto (-74), 3) := by decide +kernel
theorem dX3_matters_85 : decode cX3_matters 85 = .ok (.iconst 0, 1) := by decide +kernel
theorem dX3_matters_86 : decode cX3_matters 86 = .ok (.ireturn, 1) := by decide +kernel
set_option maxRecDepth 20000 in
theorem ggX3_fork_X3_isAll : GoodIn wsX3_fork wsX3_isAll := goodIn_r _ [17] (by decide +kernel) (by decide +kernel)
set_option maxRecDepth 20000 in
theorem gX3_fork_X3_isAll : GoodIn wsX3_fork (va_wsS RX3 62 yX3_isAll wsX3_isAll) := goodIn_app (goodIn_of _ (by decide +kernel)) ggX3_fork_X3_isAll
set_option maxRecDepth 20000 in
theorem ggX3_fork_X3_isSame : GoodIn wsX3_fork wsX3_isSame := goodIn_r _ [20] (by decide +kernel) (by decide +kernel)
set_option maxRecDepth 20000 in
theorem gX3_fork_X3_isSame : GoodIn wsX3_fork (va_wsS RX3 69 yX3_isSame wsX3_isSame) := goodIn_app (goodIn_of _ (by decide +kernel)) ggX3_fork_X3_isSame
set_option maxRecDepth 20000 in
theorem ggX3_fork_X3_matters : GoodIn wsX3_fork wsX3_matters := goodIn_r _ [24, 2, 25, 26, 16, 27] (by decide +kernel) (by decide +kernel)
set_option maxRecDepth 20000 in
theorem gX3_fork_X3_matters : GoodIn wsX3_fork (wsV RX3 73 RX3 yX3_matters wsX3_matters) := goodIn_app (goodIn_of _ (by decide +kernel)) ggX3_fork_X3_matters
set_option maxRecDepth 20000 in
theorem ggX3_fork_X3_give : GoodIn wsX3_fork wsX3_give := goodIn_r _ [30, 2, 25, 26, 16, 27] (by decide +kernel) (by decide +kernel)
set_option maxRecDepth 20000 in
theorem gX3_fork_X3_give : GoodIn wsX3_fork (va_wsS RX3 77 yX3_give wsX3_give) := goodIn_app (goodIn_of _ (by decide +kernel)) ggX3_fork_X3_give
set_option maxRecDepth 20000 in
theorem ggX3_fork_X3_fork : GoodIn wsX3_fork wsX3_fork := goodIn_r _ [0, 1, 2, 3, 4, 5, 6, 7, 8, 9, 10, 11, 12, 13, 14, 15, 16, 17, 18, 19, 20, 21, 22, 23, 24, 25, 26, 27, 28, 29, 30, 31, 32, 33, 34, 35, 36, 37, 38, 39, 40, 41, 42, 43, 44, 45, 46, 47, 48] (by decide +kernel) (by decide +kernel)
set_option maxRecDepth 20000 in
theorem gX3_fork_X3_fork : GoodIn wsX3_fork (wsV RX3 81 RX3 yX3_fork wsX3_fork) := goodIn_app (goodIn_of _ (by decide +kernel)) ggX3_fork_X3_fork
theorem dX3_fork_0 : decode cX3_fork 0 = .ok (.iconst 4, 1) := by decide +kernel
theorem dX3_fork_1 : decode cX3_fork 1 = .ok (.iload_n 1, 1) := by decide +kernel
theorem dX3_fork_2 : decode cX3_fork 2 = .ok (.imul, 1) := by decide +kernel
theorem dX3_fork_3 : decode cX3_fork 3 = .ok (.istore_n 2, 1) := by decide +kernel
theorem dX3_fork_4 : decode cX3_fork 4 = .ok (.aload_n 0, 1) := by decide +kernel
theorem dX3_fork_5 : decode cX3_fork 5 = .ok (.getfield 39, 3) := by decide +kernel
theorem dX3_fork_8 : decode cX3_fork 8 = .ok (.iload_n 2, 1) := by decide +kernel
theorem dX3_fork_9 : decode cX3_fork 9 = .ok (.lconst 0, 1) := by decide +kernel
theorem dX3_fork_10 : decode cX3_fork 10 = .ok (.invokestatic 62, 3) := by decide +kernel
theorem dX3_fork_13 : decode cX3_fork 13 = .ok (.ifCond .eq 5, 3) := by decide +kernel
theorem dX3_fork_16 : decode cX3_fork 16 = .ok (.iconst (-1), 1) := by decide +kernel
theorem dX3_fork_17 : decode cX3_fork 17 = .ok (.ireturn, 1) := by decide +kernel
theorem dX3_fork_18 : decode cX3_fork 18 = .ok (.aload_n 0, 1) := by decide +kernel
theorem dX3_fork_19 : decode cX3_fork 19 = .ok (.getfield 39, 3) := by decide +kernel
theorem dX3_fork_22 : decode cX3_fork 22 = .ok (.iload_n 2, 1) := by decide +kernel
theorem dX3_fork_23 : decode cX3_fork 23 = .ok (.ldc2_w 56, 3) := by decide +kernel
theorem dX3_fork_26 : decode cX3_fork 26 = .ok (.invokestatic 62, 3) := by decide +kernel
theorem dX3_fork_29 : decode cX3_fork 29 = .ok (.ifCond .eq 6, 3) := by decide +kernel
theorem dX3_fork_32 : decode cX3_fork 32 = .ok (.bipush (-2), 2) := by decide +kernel
theorem dX3_fork_34 : decode cX3_fork 34 = .ok (.ireturn, 1) := by decide +kernel
theorem dX3_fork_35 : decode cX3_fork 35 = .ok (.iconst 0, 1) := by decide +kernel
theorem dX3_fork_36 : decode cX3_fork 36 = .ok (.istore_n 3, 1) := by decide +kernel
theorem dX3_fork_37 : decode cX3_fork 37 = .ok (.iload_n 3, 1) := by decide +kernel
theorem dX3_fork_38 : decode cX3_fork 38 = .ok (.aload_n 0, 1) := by decide +kernel
theorem dX3_fork_39 : decode cX3_fork 39 = .ok (.getfield 66, 3) := by decide +kernel
theorem dX3_fork_42 : decode cX3_fork 42 = .ok (.if_icmp .ge 29, 3) := by decide +kernel
theorem dX3_fork_45 : decode cX3_fork 45 = .ok (.aload_n 0, 1) := by decide +kernel
theorem dX3_fork_46 : decode cX3_fork 46 = .ok (.getfield 21, 3) := by decide +kernel
theorem dX3_fork_49 : decode cX3_fork 49 = .ok (.iconst 4, 1) := by decide +kernel
theorem dX3_fork_50 : decode cX3_fork 50 = .ok (.iload_n 3, 1) := by decide +kernel
theorem dX3_fork_51 : decode cX3_fork 51 = .ok (.imul, 1) := by decide +kernel
theorem dX3_fork_52 : decode cX3_fork 52 = .ok (.aload_n 0, 1) := by decide +kernel
theorem dX3_fork_53 : decode cX3_fork 53 = .ok (.getfield 39, 3) := by decide +kernel
theorem dX3_fork_56 : decode cX3_fork 56 = .ok (.iload_n 2, 1) := by decide +kernel
theorem dX3_fork_57 : decode cX3_fork 57 = .ok (.invokestatic 69, 3) := by decide +kernel
theorem dX3_fork_60 : decode cX3_fork 60 = .ok (.ifCond .eq 5, 3) := by decide +kernel
theorem dX3_fork_63 : decode cX3_fork 63 = .ok (.iload_n 3, 1) := by decide +kernel
theorem dX3_fork_64 : decode cX3_fork 64 = .ok (.ireturn, 1) := by decide +kernel
theorem dX3_fork_65 : decode cX3_fork 65 = .ok (.iinc 3 1, 3) := by decide +kernel
theorem dX3_fork_68 : decode cX3_fork 68 = .ok (.goto (-31), 3) := by decide +kernel
theorem dX3_fork_71 : decode cX3_fork 71 = .ok (.iconst 0, 1) := by decide +kernel
theorem dX3_fork_72 : decode cX3_fork 72 = .ok (.istore_n 3, 1) := by decide +kernel
theorem dX3_fork_73 : decode cX3_fork 73 = .ok (.aload_n 0, 1) := by decide +kernel
theorem dX3_fork_74 : decode cX3_fork 74 = .ok (.aload_n 0, 1) := by decide +kernel
theorem dX3_fork_75 : decode cX3_fork 75 = .ok (.getfield 39, 3) := by decide +kernel
theorem dX3_fork_78 : decode cX3_fork 78 = .ok (.iload_n 2, 1) := by decide +kernel
theorem dX3_fork_79 : decode cX3_fork 79 = .ok (.aload_n 0, 1) := by decide +kernel
theorem dX3_fork_80 : decode cX3_fork 80 = .ok (.getfield 17, 3) := by decide +kernel
theorem dX3_fork_83 : decode cX3_fork 83 = .ok (.iload_n 3, 1) := by decide +kernel
theorem dX3_fork_84 : decode cX3_fork 84 = .ok (.iaload, 1) := by decide +kernel
theorem dX3_fork_85 : decode cX3_fork 85 = .ok (.invokevirtual 73, 3) := by decide +kernel
theorem dX3_fork_88 : decode cX3_fork 88 = .ok (.ifCond .ne 9, 3) := by decide +kernel
theorem dX3_fork_91 : decode cX3_fork 91 = .ok (.iinc 3 1, 3) := by decide +kernel
theorem dX3_fork_94 : decode cX3_fork 94 = .ok (.goto (-21), 3) := by decide +kernel
theorem dX3_fork_97 : decode cX3_fork 97 = .ok (.aload_n 0, 1) := by decide +kernel
theorem dX3_fork_98 : decode cX3_fork 98 = .ok (.getfield 39, 3) := by decide +kernel
theorem dX3_fork_101 : decode cX3_fork 101 = .ok (.iload_n 2, 1) := by decide +kernel
theorem dX3_fork_102 : decode cX3_fork 102 = .ok (.aload_n 0, 1) := by decide +kernel
theorem dX3_fork_103 : decode cX3_fork 103 = .ok (.getfield 39, 3) := by decide +kernel
theorem dX3_fork_106 : decode cX3_fork 106 = .ok (.iload_n 2, 1) := by decide +kernel
theorem dX3_fork_107 : decode cX3_fork 107 = .ok (.iconst 4, 1) := by decide +kernel
theorem dX3_fork_108 : decode cX3_fork 108 = .ok (.iadd, 1) := by decide +kernel
theorem dX3_fork_109 : decode cX3_fork 109 = .ok (.aload_n 0, 1) := by decide +kernel
theorem dX3_fork_110 : decode cX3_fork 110 = .ok (.getfield 17, 3) := by decide +kernel
theorem dX3_fork_113 : decode cX3_fork 113 = .ok (.iload_n 3, 1) := by decide +kernel
theorem dX3_fork_114 : decode cX3_fork 114 = .ok (.iaload, 1) := by decide +kernel
theorem dX3_fork_115 : decode cX3_fork 115 = .ok (.iconst 0, 1) := by decide +kernel
theorem dX3_fork_116 : decode cX3_fork 116 = .ok (.invokestatic 77, 3) := by decide +kernel
theorem dX3_fork_119 : decode cX3_fork 119 = .ok (.aload_n 0, 1) := by decide +kernel
theorem dX3_fork_120 : decode cX3_fork 120 = .ok (.iload_n 1, 1) := by decide +kernel
theorem dX3_fork_121 : decode cX3_fork 121 = .ok (.iconst 1, 1) := by decide +kernel
theorem dX3_fork_122 : decode cX3_fork 122 = .ok (.iadd, 1) := by decide +kernel
theorem dX3_fork_123 : decode cX3_fork 123 = .ok (.invokevirtual 81, 3) := by decide +kernel
theorem dX3_fork_126 : decode cX3_fork 126 = .ok (.istore 4, 2) := by decide +kernel
theorem dX3_fork_128 : decode cX3_fork 128 = .ok (.aload_n 0, 1) := by decide +kernel
theorem dX3_fork_129 : decode cX3_fork 129 = .ok (.getfield 39, 3) := by decide +kernel
theorem dX3_fork_132 : decode cX3_fork 132 = .ok (.iload_n 2, 1) := by decide +kernel
theorem dX3_fork_133 : decode cX3_fork 133 = .ok (.aload_n 0, 1) := by decide +kernel
theorem dX3_fork_134 : decode cX3_fork 134 = .ok (.getfield 39, 3) := by decide +kernel
theorem dX3_fork_137 : decode cX3_fork 137 = .ok (.iload_n 2, 1) := by decide +kernel
theorem dX3_fork_138 : decode cX3_fork 138 = .ok (.iconst 4, 1) := by decide +kernel
theorem dX3_fork_139 : decode cX3_fork 139 = .ok (.iadd, 1) := by decide +kernel
theorem dX3_fork_140 : decode cX3_fork 140 = .ok (.aload_n 0, 1) := by decide +kernel
theorem dX3_fork_141 : decode cX3_fork 141 = .ok (.getfield 17, 3) := by decide +kernel
theorem dX3_fork_144 : decode cX3_fork 144 = .ok (.iload_n 3, 1) := by decide +kernel
theorem dX3_fork_145 : decode cX3_fork 145 = .ok (.iaload, 1) := by decide +kernel
theorem dX3_fork_146 : decode cX3_fork 146 = .ok (.iconst 1, 1) := by decide +kernel
theorem dX3_fork_147 : decode cX3_fork 147 = .ok (.invokestatic 77, 3) := by decide +kernel
theorem dX3_fork_150 : decode cX3_fork 150 = .ok (.aload_n 0, 1) := by decide +kernel
theorem dX3_fork_151 : decode cX3_fork 151 = .ok (.iload_n 1, 1) := by decide +kernel
theorem dX3_fork_152 : decode cX3_fork 152 = .ok (.iconst 1, 1) := by decide +kernel
theorem dX3_fork_153 : decode cX3_fork 153 = .ok (.iadd, 1) := by decide +kernel
theorem dX3_fork_154 : decode cX3_fork 154 = .ok (.invokevirtual 81, 3) := by decide +kernel
theorem dX3_fork_157 : decode cX3_fork 157 = .ok (.istore 5, 2) := by decide +kernel
theorem dX3_fork_159 : decode cX3_fork 159 = .ok (.aload_n 0, 1) := by decide +kernel
theorem dX3_fork_160 : decode cX3_fork 160 = .ok (.getfield 39, 3) := by decide +kernel
theorem dX3_fork_163 : decode cX3_fork 163 = .ok (.iload_n 2, 1) := by decide +kernel
theorem dX3_fork_164 : decode cX3_fork 164 = .ok (.aload_n 0, 1) := by decide +kernel
theorem dX3_fork_165 : decode cX3_fork 165 = .ok (.getfield 21, 3) := by decide +kernel
theorem dX3_fork_168 : decode cX3_fork 168 = .ok (.iconst 4, 1) := by decide +kernel
theorem dX3_fork_169 : decode cX3_fork 169 = .ok (.aload_n 0, 1) := by decide +kernel
theorem dX3_fork_170 : decode cX3_fork 170 = .ok (.getfield 66, 3) := by decide +kernel
theorem dX3_fork_173 : decode cX3_fork 173 = .ok (.imul, 1) := by decide +kernel
theorem dX3_fork_174 : decode cX3_fork 174 = .ok (.iconst 4, 1) := by decide +kernel
theorem dX3_fork_175 : decode cX3_fork 175 = .ok (.invokestatic 85, 3) := by decide +kernel
theorem dX3_fork_178 : decode cX3_fork 178 = .ok (.aload_n 0, 1) := by decide +kernel
theorem dX3_fork_179 : decode cX3_fork 179 = .ok (.getfield 24, 3) := by decide +kernel
theorem dX3_fork_182 : decode cX3_fork 182 = .ok (.aload_n 0, 1) := by decide +kernel
theorem dX3_fork_183 : decode cX3_fork 183 = .ok (.getfield 66, 3) := by decide +kernel
theorem dX3_fork_186 : decode cX3_fork 186 = .ok (.aload_n 0, 1) := by decide +kernel
theorem dX3_fork_187 : decode cX3_fork 187 = .ok (.getfield 17, 3) := by decide +kernel
theorem dX3_fork_190 : decode cX3_fork 190 = .ok (.iload_n 3, 1) := by decide +kernel
theorem dX3_fork_191 : decode cX3_fork 191 = .ok (.iaload, 1) := by decide +kernel
theorem dX3_fork_192 : decode cX3_fork 192 = .ok (.iastore, 1) := by decide +kernel
theorem dX3_fork_193 : decode cX3_fork 193 = .ok (.aload_n 0, 1) := by decide +kernel
theorem dX3_fork_194 : decode cX3_fork 194 = .ok (.getfield 27, 3) := by decide +kernel
theorem dX3_fork_197 : decode cX3_fork 197 = .ok (.aload_n 0, 1) := by decide +kernel
theorem dX3_fork_198 : decode cX3_fork 198 = .ok (.getfield 66, 3) := by decide +kernel
theorem dX3_fork_201 : decode cX3_fork 201 = .ok (.iload 4, 2) := by decide +kernel
theorem dX3_fork_203 : decode cX3_fork 203 = .ok (.iastore, 1) := by decide +kernel
theorem dX3_fork_204 : decode cX3_fork 204 = .ok (.aload_n 0, 1) := by decide +kernel
theorem dX3_fork_205 : decode cX3_fork 205 = .ok (.getfield 30, 3) := by decide +kernel
theorem dX3_fork_208 : decode cX3_fork 208 = .ok (.aload_n 0, 1) := by decide +kernel
theorem dX3_fork_209 : decode cX3_fork 209 = .ok (.getfield 66, 3) := by decide +kernel
theorem dX3_fork_212 : decode cX3_fork 212 = .ok (.iload 5, 2) := by decide +kernel
theorem dX3_fork_214 : decode cX3_fork 214 = .ok (.iastore, 1) := by decide +kernel
theorem dX3_fork_215 : decode cX3_fork 215 = .ok (.aload_n 0, 1) := by decide +kernel
theorem dX3_fork_216 : decode cX3_fork 216 = .ok (.getfield 33, 3) := by decide +kernel
theorem dX3_fork_219 : decode cX3_fork 219 = .ok (.aload_n 0, 1) := by decide +kernel
theorem dX3_fork_220 : decode cX3_fork 220 = .ok (.getfield 66, 3) := by decide +kernel
theorem dX3_fork_223 : decode cX3_fork 223 = .ok (.iconst 0, 1) := by decide +kernel
theorem dX3_fork_224 : decode cX3_fork 224 = .ok (.iastore, 1) := by decide +kernel
theorem dX3_fork_225 : decode cX3_fork 225 = .ok (.aload_n 0, 1) := by decide +kernel
theorem dX3_fork_226 : decode cX3_fork 226 = .ok (.dup, 1) := by decide +kernel
theorem dX3_fork_227 : decode cX3_fork 227 = .ok (.getfield 66, 3) := by decide +kernel
theorem dX3_fork_230 : decode cX3_fork 230 = .ok (.iconst 1, 1) := by decide +kernel
theorem dX3_fork_231 : decode cX3_fork 231 = .ok (.iadd, 1) := by decide +kernel
theorem dX3_fork_232 : decode cX3_fork 232 = .ok (.putfield 66, 3) := by decide +kernel
theorem dX3_fork_235 : decode cX3_fork 235 = .ok (.aload_n 0, 1) := by decide +kernel
theorem dX3_fork_236 : decode cX3_fork 236 = .ok (.getfield 66, 3) := by decide +kernel
theorem dX3_fork_239 : decode cX3_fork 239 = .ok (.iconst 1, 1) := by decide +kernel
theorem dX3_fork_240 : decode cX3_fork 240 = .ok (.isub, 1) := by decide +kernel
theorem dX3_fork_241 : decode cX3_fork 241 = .ok (.ireturn, 1) := by decide +kernel
set_option maxRecDepth 20000 in
theorem ggX3_own_X3_own : GoodIn wsX3_own wsX3_own := goodIn_r _ [0, 1, 2, 3, 4, 5, 6, 7, 8, 9, 10, 11, 12, 13, 14, 15, 16, 17, 18, 19, 20, 21, 22] (by decide +kernel) (by decide +kernel)
set_option maxRecDepth 20000 in
theorem gX3_own_X3_own : GoodIn wsX3_own (wsV RX3 91 RX3 yX3_own wsX3_own) := goodIn_app (goodIn_of _ (by decide +kernel)) ggX3_own_X3_own
theorem dX3_own_0 : decode cX3_own 0 = .ok (.iload_n 1, 1) := by decide +kernel
theorem dX3_own_1 : decode cX3_own 1 = .ok (.ifCond .lt 17, 3) := by decide +kernel
theorem dX3_own_4 : decode cX3_own 4 = .ok (.aload_n 0, 1) := by decide +kernel
theorem dX3_own_5 : decode cX3_own 5 = .ok (.getfield 33, 3) := by decide +kernel
theorem dX3_own_8 : decode cX3_own 8 = .ok (.iload_n 1, 1) := by decide +kernel
theorem dX3_own_9 : decode cX3_own 9 = .ok (.iaload, 1) := by decide +kernel
theorem dX3_own_10 : decode cX3_own 10 = .ok (.iload_n 2, 1) := by decide +kernel
theorem dX3_own_11 : decode cX3_own 11 = .ok (.ishr, 1) := by decide +kernel
theorem dX3_own_12 : decode cX3_own 12 = .ok (.iconst 1, 1) := by decide +kernel
theorem dX3_own_13 : decode cX3_own 13 = .ok (.iand, 1) := by decide +kernel
theorem dX3_own_14 : decode cX3_own 14 = .ok (.iconst 1, 1) := by decide +kernel
theorem dX3_own_15 : decode cX3_own 15 = .ok (.if_icmp .ne 4, 3) := by decide +kernel
theorem dX3_own_18 : decode cX3_own 18 = .ok (.return_, 1) := by decide +kernel
theorem dX3_own_19 : decode cX3_own 19 = .ok (.aload_n 0, 1) := by decide +kernel
theorem dX3_own_20 : decode cX3_own 20 = .ok (.getfield 33, 3) := by decide +kernel
theorem dX3_own_23 : decode cX3_own 23 = .ok (.iload_n 1, 1) := by decide +kernel
theorem dX3_own_24 : decode cX3_own 24 = .ok (.dup2, 1) := by decide +kernel
theorem dX3_own_25 : decode cX3_own 25 = .ok (.iaload, 1) := by decide +kernel
theorem dX3_own_26 : decode cX3_own 26 = .ok (.iconst 1, 1) := by decide +kernel
theorem dX3_own_27 : decode cX3_own 27 = .ok (.iload_n 2, 1) := by decide +kernel
theorem dX3_own_28 : decode cX3_own 28 = .ok (.ishl, 1) := by decide +kernel
theorem dX3_own_29 : decode cX3_own 29 = .ok (.ior, 1) := by decide +kernel
theorem dX3_own_30 : decode cX3_own 30 = .ok (.iastore, 1) := by decide +kernel
theorem dX3_own_31 : decode cX3_own 31 = .ok (.aload_n 0, 1) := by decide +kernel
theorem dX3_own_32 : decode cX3_own 32 = .ok (.aload_n 0, 1) := by decide +kernel
theorem dX3_own_33 : decode cX3_own 33 = .ok (.getfield 27, 3) := by decide +kernel
theorem dX3_own_36 : decode cX3_own 36 = .ok (.iload_n 1, 1) := by decide +kernel
theorem dX3_own_37 : decode cX3_own 37 = .ok (.iaload, 1) := by decide +kernel
theorem dX3_own_38 : decode cX3_own 38 = .ok (.iload_n 2, 1) := by decide +kernel
theorem dX3_own_39 : decode cX3_own 39 = .ok (.invokevirtual 91, 3) := by decide +kernel
theorem dX3_own_42 : decode cX3_own 42 = .ok (.aload_n 0, 1) := by decide +kernel
theorem dX3_own_43 : decode cX3_own 43 = .ok (.aload_n 0, 1) := by decide +kernel
theorem dX3_own_44 : decode cX3_own 44 = .ok (.getfield 30, 3) := by decide +kernel
theorem dX3_own_47 : decode cX3_own 47 = .ok (.iload_n 1, 1) := by decide +kernel
theorem dX3_own_48 : decode cX3_own 48 = .ok (.iaload, 1) := by decide +kernel
theorem dX3_own_49 : decode cX3_own 49 = .ok (.iload_n 2, 1) := by decide +kernel
theorem dX3_own_50 : decode cX3_own 50 = .ok (.invokevirtual 91, 3) := by decide +kernel
theorem dX3_own_53 : decode cX3_own 53 = .ok (.return_, 1) := by decide +kernel
set_option maxRecDepth 20000 in
theorem ggX3_make_X3_fork : GoodIn wsX3_make wsX3_fork := goodIn_r _ [14, 4, 15, 1, 16, 17, 5, 6, 7, 8, 18, 19, 20, 21, 22, 23, 13, 24, 25, 26, 27, 28, 29, 30, 31, 32, 33, 34, 35, 36, 37, 10, 11, 12, 42, 43, 44, 45, 46, 47, 48, 49, 50, 51, 52, 53, 54, 55, 56] (by decide +kernel) (by decide +kernel)
set_option maxRecDepth 20000 in
theorem gX3_make_X3_fork : GoodIn wsX3_make (wsV RX3 81 RX3 yX3_fork wsX3_fork) := goodIn_app (goodIn_of _ (by decide +kernel)) ggX3_make_X3_fork
set_option maxRecDepth 20000 in
theorem ggX3_make_X3_own : GoodIn wsX3_make wsX3_own := goodIn_r _ [41, 21, 19, 20, 38, 39, 40, 13, 42, 43, 44, 45, 46, 47, 48, 49, 50, 51, 52, 53, 54, 55, 56] (by decide +kernel) (by decide +kernel)
set_option maxRecDepth 20000 in
theorem gX3_make_X3_own : GoodIn wsX3_make (wsV RX3 91 RX3 yX3_own wsX3_own) := goodIn_app (goodIn_of _ (by decide +kernel)) ggX3_make_X3_own
theorem dX3_make_0 : decode cX3_make 0 = .ok (.aload_n 0, 1) := by decide +kernel
theorem dX3_make_1 : decode cX3_make 1 = .ok (.iconst 0, 1) := by decide +kernel
theorem dX3_make_2 : decode cX3_make 2 = .ok (.putfield 66, 3) := by decide +kernel
theorem dX3_make_5 : decode cX3_make 5 = .ok (.iconst 0, 1) := by decide +kernel
theorem dX3_make_6 : decode cX3_make 6 = .ok (.istore_n 1, 1) := by decide +kernel
theorem dX3_make_7 : decode cX3_make 7 = .ok (.iload_n 1, 1) := by decide +kernel
theorem dX3_make_8 : decode cX3_make 8 = .ok (.bipush 12, 2) := by decide +kernel
theorem dX3_make_10 : decode cX3_make 10 = .ok (.if_icmp .ge 48, 3) := by decide +kernel
theorem dX3_make_13 : decode cX3_make 13 = .ok (.aload_n 0, 1) := by decide +kernel
theorem dX3_make_14 : decode cX3_make 14 = .ok (.getfield 9, 3) := by decide +kernel
theorem dX3_make_17 : decode cX3_make 17 = .ok (.iload_n 1, 1) := by decide +kernel
theorem dX3_make_18 : decode cX3_make 18 = .ok (.baload, 1) := by decide +kernel
theorem dX3_make_19 : decode cX3_make 19 = .ok (.ifCond .ne 6, 3) := by decide +kernel
theorem dX3_make_22 : decode cX3_make 22 = .ok (.goto 30, 3) := by decide +kernel
theorem dX3_make_25 : decode cX3_make 25 = .ok (.aload_n 0, 1) := by decide +kernel
theorem dX3_make_26 : decode cX3_make 26 = .ok (.getfield 13, 3) := by decide +kernel
theorem dX3_make_29 : decode cX3_make 29 = .ok (.iconst 4, 1) := by decide +kernel
theorem dX3_make_30 : decode cX3_make 30 = .ok (.iload_n 1, 1) := by decide +kernel
theorem dX3_make_31 : decode cX3_make 31 = .ok (.imul, 1) := by decide +kernel
theorem dX3_make_32 : decode cX3_make 32 = .ok (.aload_n 0, 1) := by decide +kernel
theorem dX3_make_33 : decode cX3_make 33 = .ok (.getfield 39, 3) := by decide +kernel
theorem dX3_make_36 : decode cX3_make 36 = .ok (.iconst 0, 1) := by decide +kernel
theorem dX3_make_37 : decode cX3_make 37 = .ok (.iconst 4, 1) := by decide +kernel
theorem dX3_make_38 : decode cX3_make 38 = .ok (.invokestatic 85, 3) := by decide +kernel
theorem dX3_make_41 : decode cX3_make 41 = .ok (.aload_n 0, 1) := by decide +kernel
theorem dX3_make_42 : decode cX3_make 42 = .ok (.getfield 36, 3) := by decide +kernel
theorem dX3_make_45 : decode cX3_make 45 = .ok (.iload_n 1, 1) := by decide +kernel
theorem dX3_make_46 : decode cX3_make 46 = .ok (.aload_n 0, 1) := by decide +kernel
theorem dX3_make_47 : decode cX3_make 47 = .ok (.iconst 0, 1) := by decide +kernel
theorem dX3_make_48 : decode cX3_make 48 = .ok (.invokevirtual 81, 3) := by decide +kernel
theorem dX3_make_51 : decode cX3_make 51 = .ok (.iastore, 1) := by decide +kernel
theorem dX3_make_52 : decode cX3_make 52 = .ok (.iinc 1 1, 3) := by decide +kernel
theorem dX3_make_55 : decode cX3_make 55 = .ok (.goto (-48), 3) := by decide +kernel
theorem dX3_make_58 : decode cX3_make 58 = .ok (.iconst 0, 1) := by decide +kernel
theorem dX3_make_59 : decode cX3_make 59 = .ok (.istore_n 1, 1) := by decide +kernel
theorem dX3_make_60 : decode cX3_make 60 = .ok (.iload_n 1, 1) := by decide +kernel
theorem dX3_make_61 : decode cX3_make 61 = .ok (.bipush 12, 2) := by decide +kernel
theorem dX3_make_63 : decode cX3_make 63 = .ok (.if_icmp .ge 29, 3) := by decide +kernel
theorem dX3_make_66 : decode cX3_make 66 = .ok (.aload_n 0, 1) := by decide +kernel
theorem dX3_make_67 : decode cX3_make 67 = .ok (.getfield 9, 3) := by decide +kernel
theorem dX3_make_70 : decode cX3_make 70 = .ok (.iload_n 1, 1) := by decide +kernel
theorem dX3_make_71 : decode cX3_make 71 = .ok (.baload, 1) := by decide +kernel
theorem dX3_make_72 : decode cX3_make 72 = .ok (.ifCond .eq 14, 3) := by decide +kernel
theorem dX3_make_75 : decode cX3_make 75 = .ok (.aload_n 0, 1) := by decide +kernel
theorem dX3_make_76 : decode cX3_make 76 = .ok (.aload_n 0, 1) := by decide +kernel
theorem dX3_make_77 : decode cX3_make 77 = .ok (.getfield 36, 3) := by decide +kernel
theorem dX3_make_80 : decode cX3_make 80 = .ok (.iload_n 1, 1) := by decide +kernel
theorem dX3_make_81 : decode cX3_make 81 = .ok (.iaload, 1) := by decide +kernel
theorem dX3_make_82 : decode cX3_make 82 = .ok (.iload_n 1, 1) := by decide +kernel
theorem dX3_make_83 : decode cX3_make 83 = .ok (.invokevirtual 91, 3) := by decide +kernel
theorem dX3_make_86 : decode cX3_make 86 = .ok (.iinc 1 1, 3) := by decide +kernel
theorem dX3_make_89 : decode cX3_make 89 = .ok (.goto (-29), 3) := by decide +kernel
theorem dX3_make_92 : decode cX3_make 92 = .ok (.return_, 1) := by decide +kernel
set_option maxRecDepth 20000 in
theorem ggX3_stand_X3_stand : GoodIn wsX3_stand wsX3_stand := goodIn_r _ [0, 1, 2, 3, 4, 5, 6, 7, 8, 9, 10, 11, 12, 13, 14, 15, 16, 17, 18, 19, 20, 21, 22, 23, 24] (by decide +kernel) (by decide +kernel)
set_option maxRecDepth 20000 in
theorem gX3_stand_X3_stand : GoodIn wsX3_stand (wsV RX3 98 RX3 yX3_stand wsX3_stand) := goodIn_app (goodIn_of _ (by decide +kernel)) ggX3_stand_X3_stand
theorem dX3_stand_0 : decode cX3_stand 0 = .ok (.iload_n 1, 1) := by decide +kernel
theorem dX3_stand_1 : decode cX3_stand 1 = .ok (.ifCond .lt 13, 3) := by decide +kernel
theorem dX3_stand_4 : decode cX3_stand 4 = .ok (.aload_n 0, 1) := by decide +kernel
theorem dX3_stand_5 : decode cX3_stand 5 = .ok (.getfield 45, 3) := by decide +kernel
theorem dX3_stand_8 : decode cX3_stand 8 = .ok (.iload_n 1, 1) := by decide +kernel
theorem dX3_stand_9 : decode cX3_stand 9 = .ok (.iaload, 1) := by decide +kernel
theorem dX3_stand_10 : decode cX3_stand 10 = .ok (.iconst (-1), 1) := by decide +kernel
theorem dX3_stand_11 : decode cX3_stand 11 = .ok (.if_icmp .eq 4, 3) := by decide +kernel
theorem dX3_stand_14 : decode cX3_stand 14 = .ok (.return_, 1) := by decide +kernel
theorem dX3_stand_15 : decode cX3_stand 15 = .ok (.aload_n 0, 1) := by decide +kernel
theorem dX3_stand_16 : decode cX3_stand 16 = .ok (.getfield 45, 3) := by decide +kernel
theorem dX3_stand_19 : decode cX3_stand 19 = .ok (.iload_n 1, 1) := by decide +kernel
theorem dX3_stand_20 : decode cX3_stand 20 = .ok (.aload_n 0, 1) := by decide +kernel
theorem dX3_stand_21 : decode cX3_stand 21 = .ok (.getfield 95, 3) := by decide +kernel
theorem dX3_stand_24 : decode cX3_stand 24 = .ok (.iastore, 1) := by decide +kernel
theorem dX3_stand_25 : decode cX3_stand 25 = .ok (.aload_n 0, 1) := by decide +kernel
theorem dX3_stand_26 : decode cX3_stand 26 = .ok (.getfield 42, 3) := by decide +kernel
theorem dX3_stand_29 : decode cX3_stand 29 = .ok (.aload_n 0, 1) := by decide +kernel
theorem dX3_stand_30 : decode cX3_stand 30 = .ok (.getfield 95, 3) := by decide +kernel
theorem dX3_stand_33 : decode cX3_stand 33 = .ok (.iload_n 1, 1) := by decide +kernel
theorem dX3_stand_34 : decode cX3_stand 34 = .ok (.iastore, 1) := by decide +kernel
theorem dX3_stand_35 : decode cX3_stand 35 = .ok (.aload_n 0, 1) := by decide +kernel
theorem dX3_stand_36 : decode cX3_stand 36 = .ok (.dup, 1) := by decide +kernel
theorem dX3_stand_37 : decode cX3_stand 37 = .ok (.getfield 95, 3) := by decide +kernel
theorem dX3_stand_40 : decode cX3_stand 40 = .ok (.iconst 1, 1) := by decide +kernel
theorem dX3_stand_41 : decode cX3_stand 41 = .ok (.iadd, 1) := by decide +kernel
theorem dX3_stand_42 : decode cX3_stand 42 = .ok (.putfield 95, 3) := by decide +kernel
theorem dX3_stand_45 : decode cX3_stand 45 = .ok (.aload_n 0, 1) := by decide +kernel
theorem dX3_stand_46 : decode cX3_stand 46 = .ok (.aload_n 0, 1) := by decide +kernel
theorem dX3_stand_47 : decode cX3_stand 47 = .ok (.getfield 27, 3) := by decide +kernel
theorem dX3_stand_50 : decode cX3_stand 50 = .ok (.iload_n 1, 1) := by decide +kernel
theorem dX3_stand_51 : decode cX3_stand 51 = .ok (.iaload, 1) := by decide +kernel
theorem dX3_stand_52 : decode cX3_stand 52 = .ok (.invokevirtual 98, 3) := by decide +kernel
theorem dX3_stand_55 : decode cX3_stand 55 = .ok (.aload_n 0, 1) := by decide +kernel
theorem dX3_stand_56 : decode cX3_stand 56 = .ok (.aload_n 0, 1) := by decide +kernel
theorem dX3_stand_57 : decode cX3_stand 57 = .ok (.getfield 30, 3) := by decide +kernel
theorem dX3_stand_60 : decode cX3_stand 60 = .ok (.iload_n 1, 1) := by decide +kernel
theorem dX3_stand_61 : decode cX3_stand 61 = .ok (.iaload, 1) := by decide +kernel
theorem dX3_stand_62 : decode cX3_stand 62 = .ok (.invokevirtual 98, 3) := by decide +kernel
theorem dX3_stand_65 : decode cX3_stand 65 = .ok (.return_, 1) := by decide +kernel
set_option maxRecDepth 20000 in
theorem ggX3_line_X3_stand : GoodIn wsX3_line wsX3_stand := goodIn_r _ [8, 2, 3, 9, 10, 11, 4, 5, 6, 7, 12, 13, 14, 15, 16, 17, 18, 19, 20, 21, 22, 23, 24, 25, 26] (by decide +kernel) (by decide +kernel)
set_option maxRecDepth 20000 in
theorem gX3_line_X3_stand : GoodIn wsX3_line (wsV RX3 98 RX3 yX3_stand wsX3_stand) := goodIn_app (goodIn_of _ (by decide +kernel)) ggX3_line_X3_stand
theorem dX3_line_0 : decode cX3_line 0 = .ok (.iconst 0, 1) := by decide +kernel
theorem dX3_line_1 : decode cX3_line 1 = .ok (.istore_n 2, 1) := by decide +kernel
theorem dX3_line_2 : decode cX3_line 2 = .ok (.iload_n 2, 1) := by decide +kernel
theorem dX3_line_3 : decode cX3_line 3 = .ok (.aload_n 0, 1) := by decide +kernel
theorem dX3_line_4 : decode cX3_line 4 = .ok (.getfield 66, 3) := by decide +kernel
theorem dX3_line_7 : decode cX3_line 7 = .ok (.if_icmp .ge 16, 3) := by decide +kernel
theorem dX3_line_10 : decode cX3_line 10 = .ok (.aload_n 0, 1) := by decide +kernel
theorem dX3_line_11 : decode cX3_line 11 = .ok (.getfield 45, 3) := by decide +kernel
theorem dX3_line_14 : decode cX3_line 14 = .ok (.iload_n 2, 1) := by decide +kernel
theorem dX3_line_15 : decode cX3_line 15 = .ok (.iconst (-1), 1) := by decide +kernel
theorem dX3_line_16 : decode cX3_line 16 = .ok (.iastore, 1) := by decide +kernel
theorem dX3_line_17 : decode cX3_line 17 = .ok (.iinc 2 1, 3) := by decide +kernel
theorem dX3_line_20 : decode cX3_line 20 = .ok (.goto (-18), 3) := by decide +kernel
theorem dX3_line_23 : decode cX3_line 23 = .ok (.aload_n 0, 1) := by decide +kernel
theorem dX3_line_24 : decode cX3_line 24 = .ok (.iconst 0, 1) := by decide +kernel
theorem dX3_line_25 : decode cX3_line 25 = .ok (.putfield 95, 3) := by decide +kernel
theorem dX3_line_28 : decode cX3_line 28 = .ok (.aload_n 0, 1) := by decide +kernel
theorem dX3_line_29 : decode cX3_line 29 = .ok (.iload_n 1, 1) := by decide +kernel
theorem dX3_line_30 : decode cX3_line 30 = .ok (.invokevirtual 98, 3) := by decide +kernel
theorem dX3_line_33 : decode cX3_line 33 = .ok (.return_, 1) := by decide +kernel
theorem dX3_placeOf_0 : decode cX3_placeOf 0 = .ok (.iload_n 1, 1) := by decide +kernel
theorem dX3_placeOf_1 : decode cX3_placeOf 1 = .ok (.ifCond .ge 7, 3) := by decide +kernel
theorem dX3_placeOf_4 : decode cX3_placeOf 4 = .ok (.iload_n 1, 1) := by decide +kernel
theorem dX3_placeOf_5 : decode cX3_placeOf 5 = .ok (.goto 9, 3) := by decide +kernel
theorem dX3_placeOf_8 : decode cX3_placeOf 8 = .ok (.aload_n 0, 1) := by decide +kernel
theorem dX3_placeOf_9 : decode cX3_placeOf 9 = .ok (.getfield 45, 3) := by decide +kernel
theorem dX3_placeOf_12 : decode cX3_placeOf 12 = .ok (.iload_n 1, 1) := by decide +kernel
theorem dX3_placeOf_13 : decode cX3_placeOf 13 = .ok (.iaload, 1) := by decide +kernel
theorem dX3_placeOf_14 : decode cX3_placeOf 14 = .ok (.ireturn, 1) := by decide +kernel
set_option maxRecDepth 20000 in
theorem ggX3_far_X3_far : GoodIn wsX3_far wsX3_far := goodIn_r _ [0, 1, 2, 3, 4, 5, 6, 7, 8, 9, 10, 11, 12, 13, 14, 15, 16, 17, 18, 19, 20, 21, 22, 23, 24, 25, 26, 27, 28] (by decide +kernel) (by decide +kernel)
set_option maxRecDepth 20000 in
theorem gX3_far_X3_far : GoodIn wsX3_far (wsV RX3 102 RX3 yX3_far wsX3_far) := goodIn_app (goodIn_of _ (by decide +kernel)) ggX3_far_X3_far
theorem dX3_far_0 : decode cX3_far 0 = .ok (.iload_n 1, 1) := by decide +kernel
theorem dX3_far_1 : decode cX3_far 1 = .ok (.ifCond .ge 5, 3) := by decide +kernel
theorem dX3_far_4 : decode cX3_far 4 = .ok (.iconst 0, 1) := by decide +kernel
theorem dX3_far_5 : decode cX3_far 5 = .ok (.ireturn, 1) := by decide +kernel
theorem dX3_far_6 : decode cX3_far 6 = .ok (.aload_n 0, 1) := by decide +kernel
theorem dX3_far_7 : decode cX3_far 7 = .ok (.aload_n 0, 1) := by decide +kernel
theorem dX3_far_8 : decode cX3_far 8 = .ok (.getfield 27, 3) := by decide +kernel
theorem dX3_far_11 : decode cX3_far 11 = .ok (.iload_n 1, 1) := by decide +kernel
theorem dX3_far_12 : decode cX3_far 12 = .ok (.iaload, 1) := by decide +kernel
theorem dX3_far_13 : decode cX3_far 13 = .ok (.iload_n 2, 1) := by decide +kernel
theorem dX3_far_14 : decode cX3_far 14 = .ok (.invokevirtual 102, 3) := by decide +kernel
theorem dX3_far_17 : decode cX3_far 17 = .ok (.istore_n 3, 1) := by decide +kernel
theorem dX3_far_18 : decode cX3_far 18 = .ok (.aload_n 0, 1) := by decide +kernel
theorem dX3_far_19 : decode cX3_far 19 = .ok (.aload_n 0, 1) := by decide +kernel
theorem dX3_far_20 : decode cX3_far 20 = .ok (.getfield 30, 3) := by decide +kernel
theorem dX3_far_23 : decode cX3_far 23 = .ok (.iload_n 1, 1) := by decide +kernel
theorem dX3_far_24 : decode cX3_far 24 = .ok (.iaload, 1) := by decide +kernel
theorem dX3_far_25 : decode cX3_far 25 = .ok (.iload_n 2, 1) := by decide +kernel
theorem dX3_far_26 : decode cX3_far 26 = .ok (.invokevirtual 102, 3) := by decide +kernel
theorem dX3_far_29 : decode cX3_far 29 = .ok (.istore 4, 2) := by decide +kernel
theorem dX3_far_31 : decode cX3_far 31 = .ok (.iconst 1, 1) := by decide +kernel
theorem dX3_far_32 : decode cX3_far 32 = .ok (.iload_n 2, 1) := by decide +kernel
theorem dX3_far_33 : decode cX3_far 33 = .ok (.ifCond .eq 12, 3) := by decide +kernel
theorem dX3_far_36 : decode cX3_far 36 = .ok (.iload_n 3, 1) := by decide +kernel
theorem dX3_far_37 : decode cX3_far 37 = .ok (.iload 4, 2) := by decide +kernel
theorem dX3_far_39 : decode cX3_far 39 = .ok (.invokestatic 106, 3) := by decide +kernel
theorem dX3_far_42 : decode cX3_far 42 = .ok (.goto 9, 3) := by decide +kernel
theorem dX3_far_45 : decode cX3_far 45 = .ok (.iload_n 3, 1) := by decide +kernel
theorem dX3_far_46 : decode cX3_far 46 = .ok (.iload 4, 2) := by decide +kernel
theorem dX3_far_48 : decode cX3_far 48 = .ok (.invokestatic 112, 3) := by decide +kernel
theorem dX3_far_51 : decode cX3_far 51 = .ok (.iadd, 1) := by decide +kernel
theorem dX3_far_52 : decode cX3_far 52 = .ok (.ireturn, 1) := by decide +kernel
set_option maxRecDepth 20000 in
theorem ggX3_ahead_X3_placeOf : GoodIn wsX3_ahead wsX3_placeOf := goodIn_r _ [15, 10, 16, 17, 18, 19, 20, 21, 22, 23, 24, 25, 26, 27, 28, 29, 30] (by decide +kernel) (by decide +kernel)
set_option maxRecDepth 20000 in
theorem gX3_ahead_X3_placeOf : GoodIn wsX3_ahead (wsV RX3 115 RX3 yX3_placeOf wsX3_placeOf) := goodIn_app (goodIn_of _ (by decide +kernel)) ggX3_ahead_X3_placeOf
theorem dX3_ahead_0 : decode cX3_ahead 0 = .ok (.aload_n 0, 1) := by decide +kernel
theorem dX3_ahead_1 : decode cX3_ahead 1 = .ok (.getfield 95, 3) := by decide +kernel
theorem dX3_ahead_4 : decode cX3_ahead 4 = .ok (.newarray .int, 2) := by decide +kernel
theorem dX3_ahead_6 : decode cX3_ahead 6 = .ok (.astore_n 2, 1) := by decide +kernel
theorem dX3_ahead_7 : decode cX3_ahead 7 = .ok (.iconst 1, 1) := by decide +kernel
theorem dX3_ahead_8 : decode cX3_ahead 8 = .ok (.istore_n 3, 1) := by decide +kernel
theorem dX3_ahead_9 : decode cX3_ahead 9 = .ok (.iload_n 3, 1) := by decide +kernel
theorem dX3_ahead_10 : decode cX3_ahead 10 = .ok (.aload_n 0, 1) := by decide +kernel
theorem dX3_ahead_11 : decode cX3_ahead 11 = .ok (.getfield 95, 3) := by decide +kernel
theorem dX3_ahead_14 : decode cX3_ahead 14 = .ok (.if_icmp .ge 14, 3) := by decide +kernel
theorem dX3_ahead_17 : decode cX3_ahead 17 = .ok (.aload_n 2, 1) := by decide +kernel
theorem dX3_ahead_18 : decode cX3_ahead 18 = .ok (.iload_n 3, 1) := by decide +kernel
theorem dX3_ahead_19 : decode cX3_ahead 19 = .ok (.bipush 8, 2) := by decide +kernel
theorem dX3_ahead_21 : decode cX3_ahead 21 = .ok (.iastore, 1) := by decide +kernel
theorem dX3_ahead_22 : decode cX3_ahead 22 = .ok (.iinc 3 1, 3) := by decide +kernel
theorem dX3_ahead_25 : decode cX3_ahead 25 = .ok (.goto (-16), 3) := by decide +kernel
theorem dX3_ahead_28 : decode cX3_ahead 28 = .ok (.iconst 0, 1) := by decide +kernel
theorem dX3_ahead_29 : decode cX3_ahead 29 = .ok (.istore_n 3, 1) := by decide +kernel
theorem dX3_ahead_30 : decode cX3_ahead 30 = .ok (.iload_n 3, 1) := by decide +kernel
theorem dX3_ahead_31 : decode cX3_ahead 31 = .ok (.bipush 8, 2) := by decide +kernel
theorem dX3_ahead_33 : decode cX3_ahead 33 = .ok (.if_icmp .ge 107, 3) := by decide +kernel
theorem dX3_ahead_36 : decode cX3_ahead 36 = .ok (.iconst 0, 1) := by decide +kernel
theorem dX3_ahead_37 : decode cX3_ahead 37 = .ok (.istore 4, 2) := by decide +kernel
theorem dX3_ahead_39 : decode cX3_ahead 39 = .ok (.iload 4, 2) := by decide +kernel
theorem dX3_ahead_41 : decode cX3_ahead 41 = .ok (.aload_n 0, 1) := by decide +kernel
theorem dX3_ahead_42 : decode cX3_ahead 42 = .ok (.getfield 95, 3) := by decide +kernel
theorem dX3_ahead_45 : decode cX3_ahead 45 = .ok (.if_icmp .ge 89, 3) := by decide +kernel
theorem dX3_ahead_48 : decode cX3_ahead 48 = .ok (.aload_n 0, 1) := by decide +kernel
theorem dX3_ahead_49 : decode cX3_ahead 49 = .ok (.aload_n 0, 1) := by decide +kernel
theorem dX3_ahead_50 : decode cX3_ahead 50 = .ok (.getfield 27, 3) := by decide +kernel
theorem dX3_ahead_53 : decode cX3_ahead 53 = .ok (.aload_n 0, 1) := by decide +kernel
theorem dX3_ahead_54 : decode cX3_ahead 54 = .ok (.getfield 42, 3) := by decide +kernel
theorem dX3_ahead_57 : decode cX3_ahead 57 = .ok (.iload 4, 2) := by decide +kernel
theorem dX3_ahead_59 : decode cX3_ahead 59 = .ok (.iaload, 1) := by decide +kernel
theorem dX3_ahead_60 : decode cX3_ahead 60 = .ok (.iaload, 1) := by decide +kernel
theorem dX3_ahead_61 : decode cX3_ahead 61 = .ok (.invokevirtual 115, 3) := by decide +kernel
theorem dX3_ahead_64 : decode cX3_ahead 64 = .ok (.istore 5, 2) := by decide +kernel
theorem dX3_ahead_66 : decode cX3_ahead 66 = .ok (.aload_n 0, 1) := by decide +kernel
theorem dX3_ahead_67 : decode cX3_ahead 67 = .ok (.aload_n 0, 1) := by decide +kernel
theorem dX3_ahead_68 : decode cX3_ahead 68 = .ok (.getfield 30, 3) := by decide +kernel
theorem dX3_ahead_71 : decode cX3_ahead 71 = .ok (.aload_n 0, 1) := by decide +kernel
theorem dX3_ahead_72 : decode cX3_ahead 72 = .ok (.getfield 42, 3) := by decide +kernel
theorem dX3_ahead_75 : decode cX3_ahead 75 = .ok (.iload 4, 2) := by decide +kernel
theorem dX3_ahead_77 : decode cX3_ahead 77 = .ok (.iaload, 1) := by decide +kernel
theorem dX3_ahead_78 : decode cX3_ahead 78 = .ok (.iaload, 1) := by decide +kernel
theorem dX3_ahead_79 : decode cX3_ahead 79 = .ok (.invokevirtual 115, 3) := by decide +kernel
theorem dX3_ahead_82 : decode cX3_ahead 82 = .ok (.istore 6, 2) := by decide +kernel
theorem dX3_ahead_84 : decode cX3_ahead 84 = .ok (.iload 5, 2) := by decide +kernel
theorem dX3_ahead_86 : decode cX3_ahead 86 = .ok (.ifCond .lt 20, 3) := by decide +kernel
theorem dX3_ahead_89 : decode cX3_ahead 89 = .ok (.aload_n 2, 1) := by decide +kernel
theorem dX3_ahead_90 : decode cX3_ahead 90 = .ok (.iload 5, 2) := by decide +kernel
theorem dX3_ahead_92 : decode cX3_ahead 92 = .ok (.aload_n 2, 1) := by decide +kernel
theorem dX3_ahead_93 : decode cX3_ahead 93 = .ok (.iload 5, 2) := by decide +kernel
theorem dX3_ahead_95 : decode cX3_ahead 95 = .ok (.iaload, 1) := by decide +kernel
theorem dX3_ahead_96 : decode cX3_ahead 96 = .ok (.aload_n 2, 1) := by decide +kernel
theorem dX3_ahead_97 : decode cX3_ahead 97 = .ok (.iload 4, 2) := by decide +kernel
theorem dX3_ahead_99 : decode cX3_ahead 99 = .ok (.iaload, 1) := by decide +kernel
theorem dX3_ahead_100 : decode cX3_ahead 100 = .ok (.iconst 1, 1) := by decide +kernel
theorem dX3_ahead_101 : decode cX3_ahead 101 = .ok (.iadd, 1) := by decide +kernel
theorem dX3_ahead_102 : decode cX3_ahead 102 = .ok (.invokestatic 106, 3) := by decide +kernel
theorem dX3_ahead_105 : decode cX3_ahead 105 = .ok (.iastore, 1) := by decide +kernel
theorem dX3_ahead_106 : decode cX3_ahead 106 = .ok (.iload 6, 2) := by decide +kernel
theorem dX3_ahead_108 : decode cX3_ahead 108 = .ok (.ifCond .lt 20, 3) := by decide +kernel
theorem dX3_ahead_111 : decode cX3_ahead 111 = .ok (.aload_n 2, 1) := by decide +kernel
theorem dX3_ahead_112 : decode cX3_ahead 112 = .ok (.iload 6, 2) := by decide +kernel
theorem dX3_ahead_114 : decode cX3_ahead 114 = .ok (.aload_n 2, 1) := by decide +kernel
theorem dX3_ahead_115 : decode cX3_ahead 115 = .ok (.iload 6, 2) := by decide +kernel
theorem dX3_ahead_117 : decode cX3_ahead 117 = .ok (.iaload, 1) := by decide +kernel
theorem dX3_ahead_118 : decode cX3_ahead 118 = .ok (.aload_n 2, 1) := by decide +kernel
theorem dX3_ahead_119 : decode cX3_ahead 119 = .ok (.iload 4, 2) := by decide +kernel
theorem dX3_ahead_121 : decode cX3_ahead 121 = .ok (.iaload, 1) := by decide +kernel
theorem dX3_ahead_122 : decode cX3_ahead 122 = .ok (.iconst 1, 1) := by decide +kernel
theorem dX3_ahead_123 : decode cX3_ahead 123 = .ok (.iadd, 1) := by decide +kernel
theorem dX3_ahead_124 : decode cX3_ahead 124 = .ok (.invokestatic 106, 3) := by decide +kernel
theorem dX3_ahead_127 : decode cX3_ahead 127 = .ok (.iastore, 1) := by decide +kernel
theorem dX3_ahead_128 : decode cX3_ahead 128 = .ok (.iinc 4 1, 3) := by decide +kernel
theorem dX3_ahead_131 : decode cX3_ahead 131 = .ok (.goto (-92), 3) := by decide +kernel
theorem dX3_ahead_134 : decode cX3_ahead 134 = .ok (.iinc 3 1, 3) := by decide +kernel
theorem dX3_ahead_137 : decode cX3_ahead 137 = .ok (.goto (-107), 3) := by decide +kernel
theorem dX3_ahead_140 : decode cX3_ahead 140 = .ok (.aload_n 2, 1) := by decide +kernel
theorem dX3_ahead_141 : decode cX3_ahead 141 = .ok (.aload_n 0, 1) := by decide +kernel
theorem dX3_ahead_142 : decode cX3_ahead 142 = .ok (.getfield 45, 3) := by decide +kernel
theorem dX3_ahead_145 : decode cX3_ahead 145 = .ok (.iload_n 1, 1) := by decide +kernel
theorem dX3_ahead_146 : decode cX3_ahead 146 = .ok (.iaload, 1) := by decide +kernel
theorem dX3_ahead_147 : decode cX3_ahead 147 = .ok (.iaload, 1) := by decide +kernel
theorem dX3_ahead_148 : decode cX3_ahead 148 = .ok (.ireturn, 1) := by decide +kernel
set_option maxRecDepth 20000 in
theorem ggX3_all_X3_line : GoodIn wsX3_all wsX3_line := goodIn_r _ [7, 8, 9, 2, 10, 11, 12, 6, 13, 14, 15, 16, 17, 18, 19, 20, 21, 22, 23, 24, 25, 26, 27, 28, 29, 30, 31] (by decide +kernel) (by decide +kernel)
set_option maxRecDepth 20000 in
theorem gX3_all_X3_line : GoodIn wsX3_all (wsV RX3 118 RX3 yX3_line wsX3_line) := goodIn_app (goodIn_of _ (by decide +kernel)) ggX3_all_X3_line
theorem dX3_all_0 : decode cX3_all 0 = .ok (.aload_n 0, 1) := by decide +kernel
theorem dX3_all_1 : decode cX3_all 1 = .ok (.aload_n 0, 1) := by decide +kernel
theorem dX3_all_2 : decode cX3_all 2 = .ok (.getfield 36, 3) := by decide +kernel
theorem dX3_all_5 : decode cX3_all 5 = .ok (.iload_n 1, 1) := by decide +kernel
theorem dX3_all_6 : decode cX3_all 6 = .ok (.iaload, 1) := by decide +kernel
theorem dX3_all_7 : decode cX3_all 7 = .ok (.invokevirtual 118, 3) := by decide +kernel
theorem dX3_all_10 : decode cX3_all 10 = .ok (.aload_n 0, 1) := by decide +kernel
theorem dX3_all_11 : decode cX3_all 11 = .ok (.getfield 95, 3) := by decide +kernel
theorem dX3_all_14 : decode cX3_all 14 = .ok (.ireturn, 1) := by decide +kernel
theorem dX3_free_0 : decode cX3_free 0 = .ok (.iconst 0, 1) := by decide +kernel
theorem dX3_free_1 : decode cX3_free 1 = .ok (.istore_n 1, 1) := by decide +kernel
theorem dX3_free_2 : decode cX3_free 2 = .ok (.iload_n 1, 1) := by decide +kernel
theorem dX3_free_3 : decode cX3_free 3 = .ok (.bipush 12, 2) := by decide +kernel
theorem dX3_free_5 : decode cX3_free 5 = .ok (.if_icmp .ge 18, 3) := by decide +kernel
theorem dX3_free_8 : decode cX3_free 8 = .ok (.aload_n 0, 1) := by decide +kernel
theorem dX3_free_9 : decode cX3_free 9 = .ok (.getfield 9, 3) := by decide +kernel
theorem dX3_free_12 : decode cX3_free 12 = .ok (.iload_n 1, 1) := by decide +kernel
theorem dX3_free_13 : decode cX3_free 13 = .ok (.baload, 1) := by decide +kernel
theorem dX3_free_14 : decode cX3_free 14 = .ok (.ifCond .eq 9, 3) := by decide +kernel
theorem dX3_free_17 : decode cX3_free 17 = .ok (.iinc 1 1, 3) := by decide +kernel
theorem dX3_free_20 : decode cX3_free 20 = .ok (.goto (-18), 3) := by decide +kernel
theorem dX3_free_23 : decode cX3_free 23 = .ok (.iload_n 1, 1) := by decide +kernel
theorem dX3_free_24 : decode cX3_free 24 = .ok (.ireturn, 1) := by decide +kernel
set_option maxRecDepth 20000 in
theorem ggX3_kept_X3_make : GoodIn wsX3_kept wsX3_make := goodIn_r _ [6, 7, 1, 8, 9, 10, 11, 12, 13, 14, 15, 16, 17, 5, 18, 19, 20, 21, 22, 23, 24, 25, 26, 27, 28, 29, 30, 31, 32, 33, 34, 35, 36, 37, 38, 39, 40, 41, 42, 43, 44, 45, 46, 47, 48, 49, 50, 51, 52, 53, 54, 55, 56, 57, 58, 59, 60] (by decide +kernel) (by decide +kernel)
set_option maxRecDepth 20000 in
theorem gX3_kept_X3_make : GoodIn wsX3_kept (wsV RX3 121 RX3 yX3_make wsX3_make) := goodIn_app (goodIn_of _ (by decide +kernel)) ggX3_kept_X3_make
theorem dX3_kept_0 : decode cX3_kept 0 = .ok (.aload_n 0, 1) := by decide +kernel
theorem dX3_kept_1 : decode cX3_kept 1 = .ok (.getfield 9, 3) := by decide +kernel
theorem dX3_kept_4 : decode cX3_kept 4 = .ok (.iload_n 1, 1) := by decide +kernel
theorem dX3_kept_5 : decode cX3_kept 5 = .ok (.iconst 1, 1) := by decide +kernel
theorem dX3_kept_6 : decode cX3_kept 6 = .ok (.bastore, 1) := by decide +kernel
theorem dX3_kept_7 : decode cX3_kept 7 = .ok (.aload_n 0, 1) := by decide +kernel
theorem dX3_kept_8 : decode cX3_kept 8 = .ok (.invokevirtual 121, 3) := by decide +kernel
theorem dX3_kept_11 : decode cX3_kept 11 = .ok (.iload_n 1, 1) := by decide +kernel
theorem dX3_kept_12 : decode cX3_kept 12 = .ok (.ireturn, 1) := by decide +kernel
set_option maxRecDepth 20000 in
theorem ggX3_leaf_X3_free : GoodIn wsX3_leaf wsX3_free := goodIn_r _ [8, 9, 59, 60, 61, 62, 63, 64, 65, 66, 67, 68, 69, 70, 71, 72, 73] (by decide +kernel) (by decide +kernel)
set_option maxRecDepth 20000 in
theorem gX3_leaf_X3_free : GoodIn wsX3_leaf (wsV RX3 124 RX3 yX3_free wsX3_free) := goodIn_app (goodIn_of _ (by decide +kernel)) ggX3_leaf_X3_free
set_option maxRecDepth 20000 in
theorem ggX3_leaf_X3_fail : GoodIn wsX3_leaf wsX3_fail := goodIn_r _ [13, 1, 59, 60, 61, 62, 63, 64, 65, 66, 67, 68, 69, 70, 71, 72, 73] (by decide +kernel) (by decide +kernel)
set_option maxRecDepth 20000 in
theorem gX3_leaf_X3_fail : GoodIn wsX3_leaf (wsV RX3 128 RX3 yX3_fail wsX3_fail) := goodIn_app (goodIn_of _ (by decide +kernel)) ggX3_leaf_X3_fail
set_option maxRecDepth 20000 in
theorem ggX3_leaf_X3_kept : GoodIn wsX3_leaf wsX3_kept := goodIn_r _ [17, 9, 18, 19, 20, 7, 21, 22, 2, 23, 24, 25, 26, 27, 28, 29, 30, 31, 32, 3, 33, 34, 35, 36, 37, 38, 39, 40, 41, 42, 43, 44, 45, 46, 47, 48, 49, 50, 51, 52, 53, 54, 55, 56, 57, 58, 59, 60, 61, 62, 63, 64, 65, 66, 67, 68, 69, 70, 71, 72, 73] (by decide +kernel) (by decide +kernel)
set_option maxRecDepth 20000 in
theorem gX3_leaf_X3_kept : GoodIn wsX3_leaf (wsV RX3 131 RX3 yX3_kept wsX3_kept) := goodIn_app (goodIn_of _ (by decide +kernel)) ggX3_leaf_X3_kept
theorem dX3_leaf_0 : decode cX3_leaf 0 = .ok (.aload_n 0, 1) := by decide +kernel
theorem dX3_leaf_1 : decode cX3_leaf 1 = .ok (.iconst 0, 1) := by decide +kernel
theorem dX3_leaf_2 : decode cX3_leaf 2 = .ok (.putfield 48, 3) := by decide +kernel
theorem dX3_leaf_5 : decode cX3_leaf 5 = .ok (.aload_n 0, 1) := by decide +kernel
theorem dX3_leaf_6 : decode cX3_leaf 6 = .ok (.invokevirtual 124, 3) := by decide +kernel
theorem dX3_leaf_9 : decode cX3_leaf 9 = .ok (.istore_n 2, 1) := by decide +kernel
theorem dX3_leaf_10 : decode cX3_leaf 10 = .ok (.iload_n 2, 1) := by decide +kernel
theorem dX3_leaf_11 : decode cX3_leaf 11 = .ok (.bipush 12, 2) := by decide +kernel
theorem dX3_leaf_13 : decode cX3_leaf 13 = .ok (.if_icmp .ne 9, 3) := by decide +kernel
theorem dX3_leaf_16 : decode cX3_leaf 16 = .ok (.aload_n 0, 1) := by decide +kernel
theorem dX3_leaf_17 : decode cX3_leaf 17 = .ok (.iconst 1, 1) := by decide +kernel
theorem dX3_leaf_18 : decode cX3_leaf 18 = .ok (.invokevirtual 128, 3) := by decide +kernel
theorem dX3_leaf_21 : decode cX3_leaf 21 = .ok (.ireturn, 1) := by decide +kernel
theorem dX3_leaf_22 : decode cX3_leaf 22 = .ok (.iconst 0, 1) := by decide +kernel
theorem dX3_leaf_23 : decode cX3_leaf 23 = .ok (.istore_n 3, 1) := by decide +kernel
theorem dX3_leaf_24 : decode cX3_leaf 24 = .ok (.iload_n 3, 1) := by decide +kernel
theorem dX3_leaf_25 : decode cX3_leaf 25 = .ok (.iconst 4, 1) := by decide +kernel
theorem dX3_leaf_26 : decode cX3_leaf 26 = .ok (.if_icmp .ge 30, 3) := by decide +kernel
theorem dX3_leaf_29 : decode cX3_leaf 29 = .ok (.aload_n 0, 1) := by decide +kernel
theorem dX3_leaf_30 : decode cX3_leaf 30 = .ok (.getfield 13, 3) := by decide +kernel
theorem dX3_leaf_33 : decode cX3_leaf 33 = .ok (.iconst 4, 1) := by decide +kernel
theorem dX3_leaf_34 : decode cX3_leaf 34 = .ok (.iload_n 2, 1) := by decide +kernel
theorem dX3_leaf_35 : decode cX3_leaf 35 = .ok (.imul, 1) := by decide +kernel
theorem dX3_leaf_36 : decode cX3_leaf 36 = .ok (.iload_n 3, 1) := by decide +kernel
theorem dX3_leaf_37 : decode cX3_leaf 37 = .ok (.iadd, 1) := by decide +kernel
theorem dX3_leaf_38 : decode cX3_leaf 38 = .ok (.iload_n 1, 1) := by decide +kernel
theorem dX3_leaf_39 : decode cX3_leaf 39 = .ok (.ifCond .eq 9, 3) := by decide +kernel
theorem dX3_leaf_42 : decode cX3_leaf 42 = .ok (.ldc2_w 56, 3) := by decide +kernel
theorem dX3_leaf_45 : decode cX3_leaf 45 = .ok (.goto 4, 3) := by decide +kernel
theorem dX3_leaf_48 : decode cX3_leaf 48 = .ok (.lconst 0, 1) := by decide +kernel
theorem dX3_leaf_49 : decode cX3_leaf 49 = .ok (.lastore, 1) := by decide +kernel
theorem dX3_leaf_50 : decode cX3_leaf 50 = .ok (.iinc 3 1, 3) := by decide +kernel
theorem dX3_leaf_53 : decode cX3_leaf 53 = .ok (.goto (-29), 3) := by decide +kernel
theorem dX3_leaf_56 : decode cX3_leaf 56 = .ok (.aload_n 0, 1) := by decide +kernel
theorem dX3_leaf_57 : decode cX3_leaf 57 = .ok (.iload_n 2, 1) := by decide +kernel
theorem dX3_leaf_58 : decode cX3_leaf 58 = .ok (.invokevirtual 131, 3) := by decide +kernel
theorem dX3_leaf_61 : decode cX3_leaf 61 = .ok (.ireturn, 1) := by decide +kernel
set_option maxRecDepth 20000 in
theorem ggX3_ask_X3_isQuestion : GoodIn wsX3_ask wsX3_isQuestion := goodIn_r _ [6, 7, 8, 5, 9] (by decide +kernel) (by decide +kernel)
set_option maxRecDepth 20000 in
theorem gX3_ask_X3_isQuestion : GoodIn wsX3_ask (va_wsS RX3 134 yX3_isQuestion wsX3_isQuestion) := goodIn_app (goodIn_of _ (by decide +kernel)) ggX3_ask_X3_isQuestion
set_option maxRecDepth 20000 in
theorem ggX3_ask_X3_fail : GoodIn wsX3_ask wsX3_fail := goodIn_r _ [13, 1, 65, 66, 67, 68, 69, 70, 71, 72, 73, 74, 75, 76, 77, 78, 79] (by decide +kernel) (by decide +kernel)
set_option maxRecDepth 20000 in
theorem gX3_ask_X3_fail : GoodIn wsX3_ask (wsV RX3 128 RX3 yX3_fail wsX3_fail) := goodIn_app (goodIn_of _ (by decide +kernel)) ggX3_ask_X3_fail
set_option maxRecDepth 20000 in
theorem ggX3_ask_X3_free : GoodIn wsX3_ask wsX3_free := goodIn_r _ [17, 18, 65, 66, 67, 68, 69, 70, 71, 72, 73, 74, 75, 76, 77, 78, 79] (by decide +kernel) (by decide +kernel)
set_option maxRecDepth 20000 in
theorem gX3_ask_X3_free : GoodIn wsX3_ask (wsV RX3 124 RX3 yX3_free wsX3_free) := goodIn_app (goodIn_of _ (by decide +kernel)) ggX3_ask_X3_free
set_option maxRecDepth 20000 in
theorem ggX3_ask_X3_yes : GoodIn wsX3_ask wsX3_yes := goodIn_r _ [21, 22] (by decide +kernel) (by decide +kernel)
set_option maxRecDepth 20000 in
theorem gX3_ask_X3_yes : GoodIn wsX3_ask (va_wsS RX3 58 yX3_yes wsX3_yes) := goodIn_app (goodIn_of _ (by decide +kernel)) ggX3_ask_X3_yes
set_option maxRecDepth 20000 in
theorem ggX3_ask_X3_kept : GoodIn wsX3_ask wsX3_kept := goodIn_r _ [26, 18, 27, 28, 29, 5, 30, 31, 2, 32, 33, 34, 35, 36, 37, 38, 39, 40, 41, 22, 42, 43, 44, 45, 46, 47, 48, 49, 50, 51, 52, 53, 54, 55, 56, 57, 19, 20, 21, 58, 59, 60, 61, 62, 63, 64, 65, 66, 67, 68, 69, 70, 71, 72, 73, 74, 75, 76, 77, 78, 79] (by decide +kernel) (by decide +kernel)
set_option maxRecDepth 20000 in
theorem gX3_ask_X3_kept : GoodIn wsX3_ask (wsV RX3 131 RX3 yX3_kept wsX3_kept) := goodIn_app (goodIn_of _ (by decide +kernel)) ggX3_ask_X3_kept
theorem dX3_ask_0 : decode cX3_ask 0 = .ok (.aload_n 0, 1) := by decide +kernel
theorem dX3_ask_1 : decode cX3_ask 1 = .ok (.iconst 0, 1) := by decide +kernel
theorem dX3_ask_2 : decode cX3_ask 2 = .ok (.putfield 48, 3) := by decide +kernel
theorem dX3_ask_5 : decode cX3_ask 5 = .ok (.iload_n 1, 1) := by decide +kernel
theorem dX3_ask_6 : decode cX3_ask 6 = .ok (.invokestatic 134, 3) := by decide +kernel
theorem dX3_ask_9 : decode cX3_ask 9 = .ok (.ifCond .ne 9, 3) := by decide +kernel
theorem dX3_ask_12 : decode cX3_ask 12 = .ok (.aload_n 0, 1) := by decide +kernel
theorem dX3_ask_13 : decode cX3_ask 13 = .ok (.iconst 1, 1) := by decide +kernel
theorem dX3_ask_14 : decode cX3_ask 14 = .ok (.invokevirtual 128, 3) := by decide +kernel
theorem dX3_ask_17 : decode cX3_ask 17 = .ok (.ireturn, 1) := by decide +kernel
theorem dX3_ask_18 : decode cX3_ask 18 = .ok (.aload_n 0, 1) := by decide +kernel
theorem dX3_ask_19 : decode cX3_ask 19 = .ok (.invokevirtual 124, 3) := by decide +kernel
theorem dX3_ask_22 : decode cX3_ask 22 = .ok (.istore_n 2, 1) := by decide +kernel
theorem dX3_ask_23 : decode cX3_ask 23 = .ok (.iload_n 2, 1) := by decide +kernel
theorem dX3_ask_24 : decode cX3_ask 24 = .ok (.bipush 12, 2) := by decide +kernel
theorem dX3_ask_26 : decode cX3_ask 26 = .ok (.if_icmp .ne 9, 3) := by decide +kernel
theorem dX3_ask_29 : decode cX3_ask 29 = .ok (.aload_n 0, 1) := by decide +kernel
theorem dX3_ask_30 : decode cX3_ask 30 = .ok (.iconst 2, 1) := by decide +kernel
theorem dX3_ask_31 : decode cX3_ask 31 = .ok (.invokevirtual 128, 3) := by decide +kernel
theorem dX3_ask_34 : decode cX3_ask 34 = .ok (.ireturn, 1) := by decide +kernel
theorem dX3_ask_35 : decode cX3_ask 35 = .ok (.iconst 0, 1) := by decide +kernel
theorem dX3_ask_36 : decode cX3_ask 36 = .ok (.istore_n 3, 1) := by decide +kernel
theorem dX3_ask_37 : decode cX3_ask 37 = .ok (.iload_n 3, 1) := by decide +kernel
theorem dX3_ask_38 : decode cX3_ask 38 = .ok (.iconst 4, 1) := by decide +kernel
theorem dX3_ask_39 : decode cX3_ask 39 = .ok (.if_icmp .ge 24, 3) := by decide +kernel
theorem dX3_ask_42 : decode cX3_ask 42 = .ok (.aload_n 0, 1) := by decide +kernel
theorem dX3_ask_43 : decode cX3_ask 43 = .ok (.getfield 13, 3) := by decide +kernel
theorem dX3_ask_46 : decode cX3_ask 46 = .ok (.iconst 4, 1) := by decide +kernel
theorem dX3_ask_47 : decode cX3_ask 47 = .ok (.iload_n 2, 1) := by decide +kernel
theorem dX3_ask_48 : decode cX3_ask 48 = .ok (.imul, 1) := by decide +kernel
theorem dX3_ask_49 : decode cX3_ask 49 = .ok (.iload_n 3, 1) := by decide +kernel
theorem dX3_ask_50 : decode cX3_ask 50 = .ok (.iadd, 1) := by decide +kernel
theorem dX3_ask_51 : decode cX3_ask 51 = .ok (.iload_n 1, 1) := by decide +kernel
theorem dX3_ask_52 : decode cX3_ask 52 = .ok (.iload_n 3, 1) := by decide +kernel
theorem dX3_ask_53 : decode cX3_ask 53 = .ok (.invokestatic 58, 3) := by decide +kernel
theorem dX3_ask_56 : decode cX3_ask 56 = .ok (.lastore, 1) := by decide +kernel
theorem dX3_ask_57 : decode cX3_ask 57 = .ok (.iinc 3 1, 3) := by decide +kernel
theorem dX3_ask_60 : decode cX3_ask 60 = .ok (.goto (-23), 3) := by decide +kernel
theorem dX3_ask_63 : decode cX3_ask 63 = .ok (.aload_n 0, 1) := by decide +kernel
theorem dX3_ask_64 : decode cX3_ask 64 = .ok (.iload_n 2, 1) := by decide +kernel
theorem dX3_ask_65 : decode cX3_ask 65 = .ok (.invokevirtual 131, 3) := by decide +kernel
theorem dX3_ask_68 : decode cX3_ask 68 = .ok (.ireturn, 1) := by decide +kernel
theorem dX3_joined_0 : decode cX3_joined 0 = .ok (.iload 4, 2) := by decide +kernel
theorem dX3_joined_2 : decode cX3_joined 2 = .ok (.tableswitch 62 0 4 #[34, 38, 42, 46, 54], 34) := by decide +kernel
theorem dX3_joined_36 : decode cX3_joined 36 = .ok (.lload_n 0, 1) := by decide +kernel
theorem dX3_joined_37 : decode cX3_joined 37 = .ok (.lload_n 2, 1) := by decide +kernel
theorem dX3_joined_38 : decode cX3_joined 38 = .ok (.land, 1) := by decide +kernel
theorem dX3_joined_39 : decode cX3_joined 39 = .ok (.lreturn, 1) := by decide +kernel
theorem dX3_joined_40 : decode cX3_joined 40 = .ok (.lload_n 0, 1) := by decide +kernel
theorem dX3_joined_41 : decode cX3_joined 41 = .ok (.lload_n 2, 1) := by decide +kernel
theorem dX3_joined_42 : decode cX3_joined 42 = .ok (.lor, 1) := by decide +kernel
theorem dX3_joined_43 : decode cX3_joined 43 = .ok (.lreturn, 1) := by decide +kernel
theorem dX3_joined_44 : decode cX3_joined 44 = .ok (.lload_n 0, 1) := by decide +kernel
theorem dX3_joined_45 : decode cX3_joined 45 = .ok (.lload_n 2, 1) := by decide +kernel
theorem dX3_joined_46 : decode cX3_joined 46 = .ok (.lxor, 1) := by decide +kernel
theorem dX3_joined_47 : decode cX3_joined 47 = .ok (.lreturn, 1) := by decide +kernel
theorem dX3_joined_48 : decode cX3_joined 48 = .ok (.lload_n 0, 1) := by decide +kernel
theorem dX3_joined_49 : decode cX3_joined 49 = .ok (.lload_n 2, 1) := by decide +kernel
theorem dX3_joined_50 : decode cX3_joined 50 = .ok (.land, 1) := by decide +kernel
theorem dX3_joined_51 : decode cX3_joined 51 = .ok (.ldc2_w 56, 3) := by decide +kernel
theorem dX3_joined_54 : decode cX3_joined 54 = .ok (.lxor, 1) := by decide +kernel
theorem dX3_joined_55 : decode cX3_joined 55 = .ok (.lreturn, 1) := by decide +kernel
theorem dX3_joined_56 : decode cX3_joined 56 = .ok (.lload_n 0, 1) := by decide +kernel
theorem dX3_joined_57 : decode cX3_joined 57 = .ok (.lload_n 2, 1) := by decide +kernel
theorem dX3_joined_58 : decode cX3_joined 58 = .ok (.lor, 1) := by decide +kernel
theorem dX3_joined_59 : decode cX3_joined 59 = .ok (.ldc2_w 56, 3) := by decide +kernel
theorem dX3_joined_62 : decode cX3_joined 62 = .ok (.lxor, 1) := by decide +kernel
theorem dX3_joined_63 : decode cX3_joined 63 = .ok (.lreturn, 1) := by decide +kernel
theorem dX3_joined_64 : decode cX3_joined 64 = .ok (.lload_n 0, 1) := by decide +kernel
theorem dX3_joined_65 : decode cX3_joined 65 = .ok (.lload_n 2, 1) := by decide +kernel
theorem dX3_joined_66 : decode cX3_joined 66 = .ok (.lxor, 1) := by decide +kernel
theorem dX3_joined_67 : decode cX3_joined 67 = .ok (.ldc2_w 56, 3) := by decide +kernel
theorem dX3_joined_70 : decode cX3_joined 70 = .ok (.lxor, 1) := by decide +kernel
theorem dX3_joined_71 : decode cX3_joined 71 = .ok (.lreturn, 1) := by decide +kernel
set_option maxRecDepth 20000 in
theorem ggX3_join_X3_isFold : GoodIn wsX3_join wsX3_isFold := goodIn_r _ [7, 8, 9, 10, 6, 11, 69, 70, 71, 72, 73, 74, 75, 76, 77, 78, 79, 80, 81, 82, 83] (by decide +kernel) (by decide +kernel)
set_option maxRecDepth 20000 in
theorem gX3_join_X3_isFold : GoodIn wsX3_join (wsV RX3 138 RX3 yX3_isFold wsX3_isFold) := goodIn_app (goodIn_of _ (by decide +kernel)) ggX3_join_X3_isFold
set_option maxRecDepth 20000 in
theorem ggX3_join_X3_isIn : GoodIn wsX3_join wsX3_isIn := goodIn_r _ [11] (by decide +kernel) (by decide +kernel)
set_option maxRecDepth 20000 in
theorem gX3_join_X3_isIn : GoodIn wsX3_join (va_wsS RX3 52 yX3_isIn wsX3_isIn) := goodIn_app (goodIn_of _ (by decide +kernel)) ggX3_join_X3_isIn
set_option maxRecDepth 20000 in
theorem ggX3_join_X3_fail : GoodIn wsX3_join wsX3_fail := goodIn_r _ [15, 1, 69, 70, 71, 72, 73, 74, 75, 76, 77, 78, 79, 80, 81, 82, 83] (by decide +kernel) (by decide +kernel)
set_option maxRecDepth 20000 in
theorem gX3_join_X3_fail : GoodIn wsX3_join (wsV RX3 128 RX3 yX3_fail wsX3_fail) := goodIn_app (goodIn_of _ (by decide +kernel)) ggX3_join_X3_fail
set_option maxRecDepth 20000 in
theorem ggX3_join_X3_free : GoodIn wsX3_join wsX3_free := goodIn_r _ [19, 8, 69, 70, 71, 72, 73, 74, 75, 76, 77, 78, 79, 80, 81, 82, 83] (by decide +kernel) (by decide +kernel)
set_option maxRecDepth 20000 in
theorem gX3_join_X3_free : GoodIn wsX3_join (wsV RX3 124 RX3 yX3_free wsX3_free) := goodIn_app (goodIn_of _ (by decide +kernel)) ggX3_join_X3_free
set_option maxRecDepth 20000 in
theorem ggX3_join_X3_joined : GoodIn wsX3_join wsX3_joined := goodIn_r _ [22, 23] (by decide +kernel) (by decide +kernel)
set_option maxRecDepth 20000 in
theorem gX3_join_X3_joined : GoodIn wsX3_join (va_wsS RX3 141 yX3_joined wsX3_joined) := goodIn_app (goodIn_of _ (by decide +kernel)) ggX3_join_X3_joined
set_option maxRecDepth 20000 in
theorem ggX3_join_X3_kept : GoodIn wsX3_join wsX3_kept := goodIn_r _ [27, 8, 28, 29, 30, 6, 31, 32, 2, 33, 34, 35, 36, 37, 38, 39, 40, 41, 42, 23, 43, 44, 45, 46, 47, 48, 49, 50, 51, 52, 53, 54, 55, 56, 57, 58, 59, 60, 61, 62, 63, 64, 65, 66, 67, 68, 69, 70, 71, 72, 73, 74, 75, 76, 77, 78, 79, 80, 81, 82, 83] (by decide +kernel) (by decide +kernel)
set_option maxRecDepth 20000 in
theorem gX3_join_X3_kept : GoodIn wsX3_join (wsV RX3 131 RX3 yX3_kept wsX3_kept) := goodIn_app (goodIn_of _ (by decide +kernel)) ggX3_join_X3_kept
theorem dX3_join_0 : decode cX3_join 0 = .ok (.aload_n 0, 1) := by decide +kernel
theorem dX3_join_1 : decode cX3_join 1 = .ok (.iconst 0, 1) := by decide +kernel
theorem dX3_join_2 : decode cX3_join 2 = .ok (.putfield 48, 3) := by decide +kernel
theorem dX3_join_5 : decode cX3_join 5 = .ok (.aload_n 0, 1) := by decide +kernel
theorem dX3_join_6 : decode cX3_join 6 = .ok (.iload_n 1, 1) := by decide +kernel
theorem dX3_join_7 : decode cX3_join 7 = .ok (.invokevirtual 138, 3) := by decide +kernel
theorem dX3_join_10 : decode cX3_join 10 = .ok (.ifCond .eq 20, 3) := by decide +kernel
theorem dX3_join_13 : decode cX3_join 13 = .ok (.aload_n 0, 1) := by decide +kernel
theorem dX3_join_14 : decode cX3_join 14 = .ok (.iload_n 2, 1) := by decide +kernel
theorem dX3_join_15 : decode cX3_join 15 = .ok (.invokevirtual 138, 3) := by decide +kernel
theorem dX3_join_18 : decode cX3_join 18 = .ok (.ifCond .eq 12, 3) := by decide +kernel
theorem dX3_join_21 : decode cX3_join 21 = .ok (.iload_n 3, 1) := by decide +kernel
theorem dX3_join_22 : decode cX3_join 22 = .ok (.iconst 0, 1) := by decide +kernel
theorem dX3_join_23 : decode cX3_join 23 = .ok (.iconst 5, 1) := by decide +kernel
theorem dX3_join_24 : decode cX3_join 24 = .ok (.invokestatic 52, 3) := by decide +kernel
theorem dX3_join_27 : decode cX3_join 27 = .ok (.ifCond .ne 9, 3) := by decide +kernel
theorem dX3_join_30 : decode cX3_join 30 = .ok (.aload_n 0, 1) := by decide +kernel
theorem dX3_join_31 : decode cX3_join 31 = .ok (.iconst 1, 1) := by decide +kernel
theorem dX3_join_32 : decode cX3_join 32 = .ok (.invokevirtual 128, 3) := by decide +kernel
theorem dX3_join_35 : decode cX3_join 35 = .ok (.ireturn, 1) := by decide +kernel
theorem dX3_join_36 : decode cX3_join 36 = .ok (.aload_n 0, 1) := by decide +kernel
theorem dX3_join_37 : decode cX3_join 37 = .ok (.invokevirtual 124, 3) := by decide +kernel
theorem dX3_join_40 : decode cX3_join 40 = .ok (.istore 4, 2) := by decide +kernel
theorem dX3_join_42 : decode cX3_join 42 = .ok (.iload 4, 2) := by decide +kernel
theorem dX3_join_44 : decode cX3_join 44 = .ok (.bipush 12, 2) := by decide +kernel
theorem dX3_join_46 : decode cX3_join 46 = .ok (.if_icmp .ne 9, 3) := by decide +kernel
theorem dX3_join_49 : decode cX3_join 49 = .ok (.aload_n 0, 1) := by decide +kernel
theorem dX3_join_50 : decode cX3_join 50 = .ok (.iconst 2, 1) := by decide +kernel
theorem dX3_join_51 : decode cX3_join 51 = .ok (.invokevirtual 128, 3) := by decide +kernel
theorem dX3_join_54 : decode cX3_join 54 = .ok (.ireturn, 1) := by decide +kernel
theorem dX3_join_55 : decode cX3_join 55 = .ok (.iconst 0, 1) := by decide +kernel
theorem dX3_join_56 : decode cX3_join 56 = .ok (.istore 5, 2) := by decide +kernel
theorem dX3_join_58 : decode cX3_join 58 = .ok (.iload 5, 2) := by decide +kernel
theorem dX3_join_60 : decode cX3_join 60 = .ok (.iconst 4, 1) := by decide +kernel
theorem dX3_join_61 : decode cX3_join 61 = .ok (.if_icmp .ge 47, 3) := by decide +kernel
theorem dX3_join_64 : decode cX3_join 64 = .ok (.aload_n 0, 1) := by decide +kernel
theorem dX3_join_65 : decode cX3_join 65 = .ok (.getfield 13, 3) := by decide +kernel
theorem dX3_join_68 : decode cX3_join 68 = .ok (.iconst 4, 1) := by decide +kernel
theorem dX3_join_69 : decode cX3_join 69 = .ok (.iload 4, 2) := by decide +kernel
theorem dX3_join_71 : decode cX3_join 71 = .ok (.imul, 1) := by decide +kernel
theorem dX3_join_72 : decode cX3_join 72 = .ok (.iload 5, 2) := by decide +kernel
theorem dX3_join_74 : decode cX3_join 74 = .ok (.iadd, 1) := by decide +kernel
theorem dX3_join_75 : decode cX3_join 75 = .ok (.aload_n 0, 1) := by decide +kernel
theorem dX3_join_76 : decode cX3_join 76 = .ok (.getfield 13, 3) := by decide +kernel
theorem dX3_join_79 : decode cX3_join 79 = .ok (.iconst 4, 1) := by decide +kernel
theorem dX3_join_80 : decode cX3_join 80 = .ok (.iload_n 1, 1) := by decide +kernel
theorem dX3_join_81 : decode cX3_join 81 = .ok (.imul, 1) := by decide +kernel
theorem dX3_join_82 : decode cX3_join 82 = .ok (.iload 5, 2) := by decide +kernel
theorem dX3_join_84 : decode cX3_join 84 = .ok (.iadd, 1) := by decide +kernel
theorem dX3_join_85 : decode cX3_join 85 = .ok (.laload, 1) := by decide +kernel
theorem dX3_join_86 : decode cX3_join 86 = .ok (.aload_n 0, 1) := by decide +kernel
theorem dX3_join_87 : decode cX3_join 87 = .ok (.getfield 13, 3) := by decide +kernel
theorem dX3_join_90 : decode cX3_join 90 = .ok (.iconst 4, 1) := by decide +kernel
theorem dX3_join_91 : decode cX3_join 91 = .ok (.iload_n 2, 1) := by decide +kernel
theorem dX3_join_92 : decode cX3_join 92 = .ok (.imul, 1) := by decide +kernel
theorem dX3_join_93 : decode cX3_join 93 = .ok (.iload 5, 2) := by decide +kernel
theorem dX3_join_95 : decode cX3_join 95 = .ok (.iadd, 1) := by decide +kernel
theorem dX3_join_96 : decode cX3_join 96 = .ok (.laload, 1) := by decide +kernel
theorem dX3_join_97 : decode cX3_join 97 = .ok (.iload_n 3, 1) := by decide +kernel
theorem dX3_join_98 : decode cX3_join 98 = .ok (.invokestatic 141, 3) := by decide +kernel
theorem dX3_join_101 : decode cX3_join 101 = .ok (.lastore, 1) := by decide +kernel
theorem dX3_join_102 : decode cX3_join 102 = .ok (.iinc 5 1, 3) := by decide +kernel
theorem dX3_join_105 : decode cX3_join 105 = .ok (.goto (-47), 3) := by decide +kernel
theorem dX3_join_108 : decode cX3_join 108 = .ok (.aload_n 0, 1) := by decide +kernel
theorem dX3_join_109 : decode cX3_join 109 = .ok (.iload 4, 2) := by decide +kernel
theorem dX3_join_111 : decode cX3_join 111 = .ok (.invokevirtual 131, 3) := by decide +kernel
theorem dX3_join_114 : decode cX3_join 114 = .ok (.ireturn, 1) := by decide +kernel
set_option maxRecDepth 20000 in
theorem ggX3_choose_X3_isFold : GoodIn wsX3_choose wsX3_isFold := goodIn_r _ [8, 9, 10, 11, 7, 12, 66, 67, 68, 69, 70, 71, 72, 73, 74, 75, 76, 77, 78, 79, 80] (by decide +kernel) (by decide +kernel)
set_option maxRecDepth 20000 in
theorem gX3_choose_X3_isFold : GoodIn wsX3_choose (wsV RX3 138 RX3 yX3_isFold wsX3_isFold) := goodIn_app (goodIn_of _ (by decide +kernel)) ggX3_choose_X3_isFold
set_option maxRecDepth 20000 in
theorem ggX3_choose_X3_fail : GoodIn wsX3_choose wsX3_fail := goodIn_r _ [16, 1, 66, 67, 68, 69, 70, 71, 72, 73, 74, 75, 76, 77, 78, 79, 80] (by decide +kernel) (by decide +kernel)
set_option maxRecDepth 20000 in
theorem gX3_choose_X3_fail : GoodIn wsX3_choose (wsV RX3 128 RX3 yX3_fail wsX3_fail) := goodIn_app (goodIn_of _ (by decide +kernel)) ggX3_choose_X3_fail
set_option maxRecDepth 20000 in
theorem ggX3_choose_X3_free : GoodIn wsX3_choose wsX3_free := goodIn_r _ [20, 9, 66, 67, 68, 69, 70, 71, 72, 73, 74, 75, 76, 77, 78, 79, 80] (by decide +kernel) (by decide +kernel)
set_option maxRecDepth 20000 in
theorem gX3_choose_X3_free : GoodIn wsX3_choose (wsV RX3 124 RX3 yX3_free wsX3_free) := goodIn_app (goodIn_of _ (by decide +kernel)) ggX3_choose_X3_free
set_option maxRecDepth 20000 in
theorem ggX3_choose_X3_kept : GoodIn wsX3_choose wsX3_kept := goodIn_r _ [24, 9, 25, 26, 27, 7, 28, 29, 2, 30, 31, 32, 33, 34, 35, 36, 37, 38, 39, 3, 40, 41, 42, 43, 44, 45, 46, 47, 48, 49, 50, 51, 52, 53, 54, 55, 56, 57, 58, 59, 60, 61, 62, 63, 64, 65, 66, 67, 68, 69, 70, 71, 72, 73, 74, 75, 76, 77, 78, 79, 80] (by decide +kernel) (by decide +kernel)
set_option maxRecDepth 20000 in
theorem gX3_choose_X3_kept : GoodIn wsX3_choose (wsV RX3 131 RX3 yX3_kept wsX3_kept) := goodIn_app (goodIn_of _ (by decide +kernel)) ggX3_choose_X3_kept
theorem dX3_choose_0 : decode cX3_choose 0 = .ok (.aload_n 0, 1) := by decide +kernel
theorem dX3_choose_1 : decode cX3_choose 1 = .ok (.iconst 0, 1) := by decide +kernel
theorem dX3_choose_2 : decode cX3_choose 2 = .ok (.putfield 48, 3) := by decide +kernel
theorem dX3_choose_5 : decode cX3_choose 5 = .ok (.aload_n 0, 1) := by decide +kernel
theorem dX3_choose_6 : decode cX3_choose 6 = .ok (.iload_n 1, 1) := by decide +kernel
theorem dX3_choose_7 : decode cX3_choose 7 = .ok (.invokevirtual 138, 3) := by decide +kernel
theorem dX3_choose_10 : decode cX3_choose 10 = .ok (.ifCond .eq 19, 3) := by decide +kernel
theorem dX3_choose_13 : decode cX3_choose 13 = .ok (.aload_n 0, 1) := by decide +kernel
theorem dX3_choose_14 : decode cX3_choose 14 = .ok (.iload_n 2, 1) := by decide +kernel
theorem dX3_choose_15 : decode cX3_choose 15 = .ok (.invokevirtual 138, 3) := by decide +kernel
theorem dX3_choose_18 : decode cX3_choose 18 = .ok (.ifCond .eq 11, 3) := by decide +kernel
theorem dX3_choose_21 : decode cX3_choose 21 = .ok (.aload_n 0, 1) := by decide +kernel
theorem dX3_choose_22 : decode cX3_choose 22 = .ok (.iload_n 3, 1) := by decide +kernel
theorem dX3_choose_23 : decode cX3_choose 23 = .ok (.invokevirtual 138, 3) := by decide +kernel
theorem dX3_choose_26 : decode cX3_choose 26 = .ok (.ifCond .ne 9, 3) := by decide +kernel
theorem dX3_choose_29 : decode cX3_choose 29 = .ok (.aload_n 0, 1) := by decide +kernel
theorem dX3_choose_30 : decode cX3_choose 30 = .ok (.iconst 1, 1) := by decide +kernel
theorem dX3_choose_31 : decode cX3_choose 31 = .ok (.invokevirtual 128, 3) := by decide +kernel
theorem dX3_choose_34 : decode cX3_choose 34 = .ok (.ireturn, 1) := by decide +kernel
theorem dX3_choose_35 : decode cX3_choose 35 = .ok (.aload_n 0, 1) := by decide +kernel
theorem dX3_choose_36 : decode cX3_choose 36 = .ok (.invokevirtual 124, 3) := by decide +kernel
theorem dX3_choose_39 : decode cX3_choose 39 = .ok (.istore 4, 2) := by decide +kernel
theorem dX3_choose_41 : decode cX3_choose 41 = .ok (.iload 4, 2) := by decide +kernel
theorem dX3_choose_43 : decode cX3_choose 43 = .ok (.bipush 12, 2) := by decide +kernel
theorem dX3_choose_45 : decode cX3_choose 45 = .ok (.if_icmp .ne 9, 3) := by decide +kernel
theorem dX3_choose_48 : decode cX3_choose 48 = .ok (.aload_n 0, 1) := by decide +kernel
theorem dX3_choose_49 : decode cX3_choose 49 = .ok (.iconst 2, 1) := by decide +kernel
theorem dX3_choose_50 : decode cX3_choose 50 = .ok (.invokevirtual 128, 3) := by decide +kernel
theorem dX3_choose_53 : decode cX3_choose 53 = .ok (.ireturn, 1) := by decide +kernel
theorem dX3_choose_54 : decode cX3_choose 54 = .ok (.iconst 0, 1) := by decide +kernel
theorem dX3_choose_55 : decode cX3_choose 55 = .ok (.istore 5, 2) := by decide +kernel
theorem dX3_choose_57 : decode cX3_choose 57 = .ok (.iload 5, 2) := by decide +kernel
theorem dX3_choose_59 : decode cX3_choose 59 = .ok (.iconst 4, 1) := by decide +kernel
theorem dX3_choose_60 : decode cX3_choose 60 = .ok (.if_icmp .ge 72, 3) := by decide +kernel
theorem dX3_choose_63 : decode cX3_choose 63 = .ok (.aload_n 0, 1) := by decide +kernel
theorem dX3_choose_64 : decode cX3_choose 64 = .ok (.getfield 13, 3) := by decide +kernel
theorem dX3_choose_67 : decode cX3_choose 67 = .ok (.iconst 4, 1) := by decide +kernel
theorem dX3_choose_68 : decode cX3_choose 68 = .ok (.iload 4, 2) := by decide +kernel
theorem dX3_choose_70 : decode cX3_choose 70 = .ok (.imul, 1) := by decide +kernel
theorem dX3_choose_71 : decode cX3_choose 71 = .ok (.iload 5, 2) := by decide +kernel
theorem dX3_choose_73 : decode cX3_choose 73 = .ok (.iadd, 1) := by decide +kernel
theorem dX3_choose_74 : decode cX3_choose 74 = .ok (.aload_n 0, 1) := by decide +kernel
theorem dX3_choose_75 : decode cX3_choose 75 = .ok (.getfield 13, 3) := by decide +kernel
theorem dX3_choose_78 : decode cX3_choose 78 = .ok (.iconst 4, 1) := by decide +kernel
theorem dX3_choose_79 : decode cX3_choose 79 = .ok (.iload_n 1, 1) := by decide +kernel
theorem dX3_choose_80 : decode cX3_choose 80 = .ok (.imul, 1) := by decide +kernel
theorem dX3_choose_81 : decode cX3_choose 81 = .ok (.iload 5, 2) := by decide +kernel
theorem dX3_choose_83 : decode cX3_choose 83 = .ok (.iadd, 1) := by decide +kernel
theorem dX3_choose_84 : decode cX3_choose 84 = .ok (.laload, 1) := by decide +kernel
theorem dX3_choose_85 : decode cX3_choose 85 = .ok (.aload_n 0, 1) := by decide +kernel
theorem dX3_choose_86 : decode cX3_choose 86 = .ok (.getfield 13, 3) := by decide +kernel
theorem dX3_choose_89 : decode cX3_choose 89 = .ok (.iconst 4, 1) := by decide +kernel
theorem dX3_choose_90 : decode cX3_choose 90 = .ok (.iload_n 2, 1) := by decide +kernel
theorem dX3_choose_91 : decode cX3_choose 91 = .ok (.imul, 1) := by decide +kernel
theorem dX3_choose_92 : decode cX3_choose 92 = .ok (.iload 5, 2) := by decide +kernel
theorem dX3_choose_94 : decode cX3_choose 94 = .ok (.iadd, 1) := by decide +kernel
theorem dX3_choose_95 : decode cX3_choose 95 = .ok (.laload, 1) := by decide +kernel
theorem dX3_choose_96 : decode cX3_choose 96 = .ok (.land, 1) := by decide +kernel
theorem dX3_choose_97 : decode cX3_choose 97 = .ok (.aload_n 0, 1) := by decide +kernel
theorem dX3_choose_98 : decode cX3_choose 98 = .ok (.getfield 13, 3) := by decide +kernel
theorem dX3_choose_101 : decode cX3_choose 101 = .ok (.iconst 4, 1) := by decide +kernel
theorem dX3_choose_102 : decode cX3_choose 102 = .ok (.iload_n 1, 1) := by decide +kernel
theorem dX3_choose_103 : decode cX3_choose 103 = .ok (.imul, 1) := by decide +kernel
theorem dX3_choose_104 : decode cX3_choose 104 = .ok (.iload 5, 2) := by decide +kernel
theorem dX3_choose_106 : decode cX3_choose 106 = .ok (.iadd, 1) := by decide +kernel
theorem dX3_choose_107 : decode cX3_choose 107 = .ok (.laload, 1) := by decide +kernel
theorem dX3_choose_108 : decode cX3_choose 108 = .ok (.ldc2_w 56, 3) := by decide +kernel
theorem dX3_choose_111 : decode cX3_choose 111 = .ok (.lxor, 1) := by decide +kernel
theorem dX3_choose_112 : decode cX3_choose 112 = .ok (.aload_n 0, 1) := by decide +kernel
theorem dX3_choose_113 : decode cX3_choose 113 = .ok (.getfield 13, 3) := by decide +kernel
theorem dX3_choose_116 : decode cX3_choose 116 = .ok (.iconst 4, 1) := by decide +kernel
theorem dX3_choose_117 : decode cX3_choose 117 = .ok (.iload_n 3, 1) := by decide +kernel
theorem dX3_choose_118 : decode cX3_choose 118 = .ok (.imul, 1) := by decide +kernel
theorem dX3_choose_119 : decode cX3_choose 119 = .ok (.iload 5, 2) := by decide +kernel
theorem dX3_choose_121 : decode cX3_choose 121 = .ok (.iadd, 1) := by decide +kernel
theorem dX3_choose_122 : decode cX3_choose 122 = .ok (.laload, 1) := by decide +kernel
theorem dX3_choose_123 : decode cX3_choose 123 = .ok (.land, 1) := by decide +kernel
theorem dX3_choose_124 : decode cX3_choose 124 = .ok (.lor, 1) := by decide +kernel
theorem dX3_choose_125 : decode cX3_choose 125 = .ok (.lastore, 1) := by decide +kernel
theorem dX3_choose_126 : decode cX3_choose 126 = .ok (.iinc 5 1, 3) := by decide +kernel
theorem dX3_choose_129 : decode cX3_choose 129 = .ok (.goto (-72), 3) := by decide +kernel
theorem dX3_choose_132 : decode cX3_choose 132 = .ok (.aload_n 0, 1) := by decide +kernel
theorem dX3_choose_133 : decode cX3_choose 133 = .ok (.iload 4, 2) := by decide +kernel
theorem dX3_choose_135 : decode cX3_choose 135 = .ok (.invokevirtual 131, 3) := by decide +kernel
theorem dX3_choose_138 : decode cX3_choose 138 = .ok (.ireturn, 1) := by decide +kernel
set_option maxRecDepth 20000 in
theorem ggX3_given_X3_isFold : GoodIn wsX3_given wsX3_isFold := goodIn_r _ [7, 8, 9, 10, 6, 11, 69, 70, 71, 72, 73, 74, 75, 76, 77, 78, 79, 80, 81, 82, 83] (by decide +kernel) (by decide +kernel)
set_option maxRecDepth 20000 in
theorem gX3_given_X3_isFold : GoodIn wsX3_given (wsV RX3 138 RX3 yX3_isFold wsX3_isFold) := goodIn_app (goodIn_of _ (by decide +kernel)) ggX3_given_X3_isFold
set_option maxRecDepth 20000 in
theorem ggX3_given_X3_isQuestion : GoodIn wsX3_given wsX3_isQuestion := goodIn_r _ [14, 9, 10, 6, 11] (by decide +kernel) (by decide +kernel)
set_option maxRecDepth 20000 in
theorem gX3_given_X3_isQuestion : GoodIn wsX3_given (va_wsS RX3 134 yX3_isQuestion wsX3_isQuestion) := goodIn_app (goodIn_of _ (by decide +kernel)) ggX3_given_X3_isQuestion
set_option maxRecDepth 20000 in
theorem ggX3_given_X3_fail : GoodIn wsX3_given wsX3_fail := goodIn_r _ [18, 1, 69, 70, 71, 72, 73, 74, 75, 76, 77, 78, 79, 80, 81, 82, 83] (by decide +kernel) (by decide +kernel)
set_option maxRecDepth 20000 in
theorem gX3_given_X3_fail : GoodIn wsX3_given (wsV RX3 128 RX3 yX3_fail wsX3_fail) := goodIn_app (goodIn_of _ (by decide +kernel)) ggX3_given_X3_fail
set_option maxRecDepth 20000 in
theorem ggX3_given_X3_free : GoodIn wsX3_given wsX3_free := goodIn_r _ [22, 8, 69, 70, 71, 72, 73, 74, 75, 76, 77, 78, 79, 80, 81, 82, 83] (by decide +kernel) (by decide +kernel)
set_option maxRecDepth 20000 in
theorem gX3_given_X3_free : GoodIn wsX3_given (wsV RX3 124 RX3 yX3_free wsX3_free) := goodIn_app (goodIn_of _ (by decide +kernel)) ggX3_given_X3_free
set_option maxRecDepth 20000 in
theorem ggX3_given_X3_give : GoodIn wsX3_given wsX3_give := goodIn_r _ [25, 26, 27, 28, 6, 29] (by decide +kernel) (by decide +kernel)
set_option maxRecDepth 20000 in
theorem gX3_given_X3_give : GoodIn wsX3_given (va_wsS RX3 77 yX3_give wsX3_give) := goodIn_app (goodIn_of _ (by decide +kernel)) ggX3_given_X3_give
set_option maxRecDepth 20000 in
theorem ggX3_given_X3_kept : GoodIn wsX3_given wsX3_kept := goodIn_r _ [33, 8, 34, 35, 36, 6, 37, 38, 2, 39, 40, 41, 42, 43, 44, 45, 46, 47, 48, 26, 49, 50, 51, 52, 53, 54, 55, 56, 57, 58, 59, 60, 61, 62, 63, 64, 27, 28, 29, 23, 24, 25, 65, 66, 67, 68, 69, 70, 71, 72, 73, 74, 75, 76, 77, 78, 79, 80, 81, 82, 83] (by decide +kernel) (by decide +kernel)
set_option maxRecDepth 20000 in
theorem gX3_given_X3_kept : GoodIn wsX3_given (wsV RX3 131 RX3 yX3_kept wsX3_kept) := goodIn_app (goodIn_of _ (by decide +kernel)) ggX3_given_X3_kept
theorem dX3_given_0 : decode cX3_given 0 = .ok (.aload_n 0, 1) := by decide +kernel
theorem dX3_given_1 : decode cX3_given 1 = .ok (.iconst 0, 1) := by decide +kernel
theorem dX3_given_2 : decode cX3_given 2 = .ok (.putfield 48, 3) := by decide +kernel
theorem dX3_given_5 : decode cX3_given 5 = .ok (.aload_n 0, 1) := by decide +kernel
theorem dX3_given_6 : decode cX3_given 6 = .ok (.iload_n 1, 1) := by decide +kernel
theorem dX3_given_7 : decode cX3_given 7 = .ok (.invokevirtual 138, 3) := by decide +kernel
theorem dX3_given_10 : decode cX3_given 10 = .ok (.ifCond .eq 10, 3) := by decide +kernel
theorem dX3_given_13 : decode cX3_given 13 = .ok (.iload_n 2, 1) := by decide +kernel
theorem dX3_given_14 : decode cX3_given 14 = .ok (.invokestatic 134, 3) := by decide +kernel
theorem dX3_given_17 : decode cX3_given 17 = .ok (.ifCond .ne 9, 3) := by decide +kernel
theorem dX3_given_20 : decode cX3_given 20 = .ok (.aload_n 0, 1) := by decide +kernel
theorem dX3_given_21 : decode cX3_given 21 = .ok (.iconst 1, 1) := by decide +kernel
theorem dX3_given_22 : decode cX3_given 22 = .ok (.invokevirtual 128, 3) := by decide +kernel
theorem dX3_given_25 : decode cX3_given 25 = .ok (.ireturn, 1) := by decide +kernel
theorem dX3_given_26 : decode cX3_given 26 = .ok (.aload_n 0, 1) := by decide +kernel
theorem dX3_given_27 : decode cX3_given 27 = .ok (.invokevirtual 124, 3) := by decide +kernel
theorem dX3_given_30 : decode cX3_given 30 = .ok (.istore 4, 2) := by decide +kernel
theorem dX3_given_32 : decode cX3_given 32 = .ok (.iload 4, 2) := by decide +kernel
theorem dX3_given_34 : decode cX3_given 34 = .ok (.bipush 12, 2) := by decide +kernel
theorem dX3_given_36 : decode cX3_given 36 = .ok (.if_icmp .ne 9, 3) := by decide +kernel
theorem dX3_given_39 : decode cX3_given 39 = .ok (.aload_n 0, 1) := by decide +kernel
theorem dX3_given_40 : decode cX3_given 40 = .ok (.iconst 2, 1) := by decide +kernel
theorem dX3_given_41 : decode cX3_given 41 = .ok (.invokevirtual 128, 3) := by decide +kernel
theorem dX3_given_44 : decode cX3_given 44 = .ok (.ireturn, 1) := by decide +kernel
theorem dX3_given_45 : decode cX3_given 45 = .ok (.aload_n 0, 1) := by decide +kernel
theorem dX3_given_46 : decode cX3_given 46 = .ok (.getfield 13, 3) := by decide +kernel
theorem dX3_given_49 : decode cX3_given 49 = .ok (.iconst 4, 1) := by decide +kernel
theorem dX3_given_50 : decode cX3_given 50 = .ok (.iload_n 1, 1) := by decide +kernel
theorem dX3_given_51 : decode cX3_given 51 = .ok (.imul, 1) := by decide +kernel
theorem dX3_given_52 : decode cX3_given 52 = .ok (.aload_n 0, 1) := by decide +kernel
theorem dX3_given_53 : decode cX3_given 53 = .ok (.getfield 13, 3) := by decide +kernel
theorem dX3_given_56 : decode cX3_given 56 = .ok (.iconst 4, 1) := by decide +kernel
theorem dX3_given_57 : decode cX3_given 57 = .ok (.iload 4, 2) := by decide +kernel
theorem dX3_given_59 : decode cX3_given 59 = .ok (.imul, 1) := by decide +kernel
theorem dX3_given_60 : decode cX3_given 60 = .ok (.iload_n 2, 1) := by decide +kernel
theorem dX3_given_61 : decode cX3_given 61 = .ok (.iload_n 3, 1) := by decide +kernel
theorem dX3_given_62 : decode cX3_given 62 = .ok (.invokestatic 77, 3) := by decide +kernel
theorem dX3_given_65 : decode cX3_given 65 = .ok (.aload_n 0, 1) := by decide +kernel
theorem dX3_given_66 : decode cX3_given 66 = .ok (.iload 4, 2) := by decide +kernel
theorem dX3_given_68 : decode cX3_given 68 = .ok (.invokevirtual 131, 3) := by decide +kernel
theorem dX3_given_71 : decode cX3_given 71 = .ok (.ireturn, 1) := by decide +kernel
set_option maxRecDepth 20000 in
theorem ggX3_without_X3_isFold : GoodIn wsX3_without wsX3_isFold := goodIn_r _ [8, 9, 10, 11, 7, 12, 69, 70, 71, 72, 73, 74, 75, 76, 77, 78, 79, 80, 81, 82, 83] (by decide +kernel) (by decide +kernel)
set_option maxRecDepth 20000 in
theorem gX3_without_X3_isFold : GoodIn wsX3_without (wsV RX3 138 RX3 yX3_isFold wsX3_isFold) := goodIn_app (goodIn_of _ (by decide +kernel)) ggX3_without_X3_isFold
set_option maxRecDepth 20000 in
theorem ggX3_without_X3_isQuestion : GoodIn wsX3_without wsX3_isQuestion := goodIn_r _ [15, 10, 11, 7, 12] (by decide +kernel) (by decide +kernel)
set_option maxRecDepth 20000 in
theorem gX3_without_X3_isQuestion : GoodIn wsX3_without (va_wsS RX3 134 yX3_isQuestion wsX3_isQuestion) := goodIn_app (goodIn_of _ (by decide +kernel)) ggX3_without_X3_isQuestion
set_option maxRecDepth 20000 in
theorem ggX3_without_X3_fail : GoodIn wsX3_without wsX3_fail := goodIn_r _ [19, 1, 69, 70, 71, 72, 73, 74, 75, 76, 77, 78, 79, 80, 81, 82, 83] (by decide +kernel) (by decide +kernel)
set_option maxRecDepth 20000 in
theorem gX3_without_X3_fail : GoodIn wsX3_without (wsV RX3 128 RX3 yX3_fail wsX3_fail) := goodIn_app (goodIn_of _ (by decide +kernel)) ggX3_without_X3_fail
set_option maxRecDepth 20000 in
theorem ggX3_without_X3_free : GoodIn wsX3_without wsX3_free := goodIn_r _ [23, 9, 69, 70, 71, 72, 73, 74, 75, 76, 77, 78, 79, 80, 81, 82, 83] (by decide +kernel) (by decide +kernel)
set_option maxRecDepth 20000 in
theorem gX3_without_X3_free : GoodIn wsX3_without (wsV RX3 124 RX3 yX3_free wsX3_free) := goodIn_app (goodIn_of _ (by decide +kernel)) ggX3_without_X3_free
set_option maxRecDepth 20000 in
theorem ggX3_without_X3_give : GoodIn wsX3_without wsX3_give := goodIn_r _ [26, 27, 28, 29, 7, 30] (by decide +kernel) (by decide +kernel)
set_option maxRecDepth 20000 in
theorem gX3_without_X3_give : GoodIn wsX3_without (va_wsS RX3 77 yX3_give wsX3_give) := goodIn_app (goodIn_of _ (by decide +kernel)) ggX3_without_X3_give
set_option maxRecDepth 20000 in
theorem ggX3_without_X3_kept : GoodIn wsX3_without wsX3_kept := goodIn_r _ [34, 9, 35, 36, 37, 7, 38, 39, 2, 3, 40, 41, 42, 43, 44, 45, 46, 47, 48, 27, 49, 50, 51, 52, 53, 54, 55, 56, 57, 58, 59, 60, 61, 62, 63, 64, 28, 29, 30, 24, 25, 26, 65, 66, 67, 68, 69, 70, 71, 72, 73, 74, 75, 76, 77, 78, 79, 80, 81, 82, 83] (by decide +kernel) (by decide +kernel)
set_option maxRecDepth 20000 in
theorem gX3_without_X3_kept : GoodIn wsX3_without (wsV RX3 131 RX3 yX3_kept wsX3_kept) := goodIn_app (goodIn_of _ (by decide +kernel)) ggX3_without_X3_kept
theorem dX3_without_0 : decode cX3_without 0 = .ok (.aload_n 0, 1) := by decide +kernel
theorem dX3_without_1 : decode cX3_without 1 = .ok (.iconst 0, 1) := by decide +kernel
theorem dX3_without_2 : decode cX3_without 2 = .ok (.putfield 48, 3) := by decide +kernel
theorem dX3_without_5 : decode cX3_without 5 = .ok (.aload_n 0, 1) := by decide +kernel
theorem dX3_without_6 : decode cX3_without 6 = .ok (.iload_n 1, 1) := by decide +kernel
theorem dX3_without_7 : decode cX3_without 7 = .ok (.invokevirtual 138, 3) := by decide +kernel
theorem dX3_without_10 : decode cX3_without 10 = .ok (.ifCond .eq 10, 3) := by decide +kernel
theorem dX3_without_13 : decode cX3_without 13 = .ok (.iload_n 2, 1) := by decide +kernel
theorem dX3_without_14 : decode cX3_without 14 = .ok (.invokestatic 134, 3) := by decide +kernel
theorem dX3_without_17 : decode cX3_without 17 = .ok (.ifCond .ne 9, 3) := by decide +kernel
theorem dX3_without_20 : decode cX3_without 20 = .ok (.aload_n 0, 1) := by decide +kernel
theorem dX3_without_21 : decode cX3_without 21 = .ok (.iconst 1, 1) := by decide +kernel
theorem dX3_without_22 : decode cX3_without 22 = .ok (.invokevirtual 128, 3) := by decide +kernel
theorem dX3_without_25 : decode cX3_without 25 = .ok (.ireturn, 1) := by decide +kernel
theorem dX3_without_26 : decode cX3_without 26 = .ok (.aload_n 0, 1) := by decide +kernel
theorem dX3_without_27 : decode cX3_without 27 = .ok (.invokevirtual 124, 3) := by decide +kernel
theorem dX3_without_30 : decode cX3_without 30 = .ok (.istore 4, 2) := by decide +kernel
theorem dX3_without_32 : decode cX3_without 32 = .ok (.iload 4, 2) := by decide +kernel
theorem dX3_without_34 : decode cX3_without 34 = .ok (.bipush 12, 2) := by decide +kernel
theorem dX3_without_36 : decode cX3_without 36 = .ok (.if_icmp .ne 9, 3) := by decide +kernel
theorem dX3_without_39 : decode cX3_without 39 = .ok (.aload_n 0, 1) := by decide +kernel
theorem dX3_without_40 : decode cX3_without 40 = .ok (.iconst 2, 1) := by decide +kernel
theorem dX3_without_41 : decode cX3_without 41 = .ok (.invokevirtual 128, 3) := by decide +kernel
theorem dX3_without_44 : decode cX3_without 44 = .ok (.ireturn, 1) := by decide +kernel
theorem dX3_without_45 : decode cX3_without 45 = .ok (.aload_n 0, 1) := by decide +kernel
theorem dX3_without_46 : decode cX3_without 46 = .ok (.getfield 13, 3) := by decide +kernel
theorem dX3_without_49 : decode cX3_without 49 = .ok (.iconst 4, 1) := by decide +kernel
theorem dX3_without_50 : decode cX3_without 50 = .ok (.iload_n 1, 1) := by decide +kernel
theorem dX3_without_51 : decode cX3_without 51 = .ok (.imul, 1) := by decide +kernel
theorem dX3_without_52 : decode cX3_without 52 = .ok (.aload_n 0, 1) := by decide +kernel
theorem dX3_without_53 : decode cX3_without 53 = .ok (.getfield 39, 3) := by decide +kernel
theorem dX3_without_56 : decode cX3_without 56 = .ok (.iconst 0, 1) := by decide +kernel
theorem dX3_without_57 : decode cX3_without 57 = .ok (.iload_n 2, 1) := by decide +kernel
theorem dX3_without_58 : decode cX3_without 58 = .ok (.iconst 0, 1) := by decide +kernel
theorem dX3_without_59 : decode cX3_without 59 = .ok (.invokestatic 77, 3) := by decide +kernel
theorem dX3_without_62 : decode cX3_without 62 = .ok (.aload_n 0, 1) := by decide +kernel
theorem dX3_without_63 : decode cX3_without 63 = .ok (.getfield 13, 3) := by decide +kernel
theorem dX3_without_66 : decode cX3_without 66 = .ok (.iconst 4, 1) := by decide +kernel
theorem dX3_without_67 : decode cX3_without 67 = .ok (.iload_n 1, 1) := by decide +kernel
theorem dX3_without_68 : decode cX3_without 68 = .ok (.imul, 1) := by decide +kernel
theorem dX3_without_69 : decode cX3_without 69 = .ok (.aload_n 0, 1) := by decide +kernel
theorem dX3_without_70 : decode cX3_without 70 = .ok (.getfield 39, 3) := by decide +kernel
theorem dX3_without_73 : decode cX3_without 73 = .ok (.iconst 4, 1) := by decide +kernel
theorem dX3_without_74 : decode cX3_without 74 = .ok (.iload_n 2, 1) := by decide +kernel
theorem dX3_without_75 : decode cX3_without 75 = .ok (.iconst 1, 1) := by decide +kernel
theorem dX3_without_76 : decode cX3_without 76 = .ok (.invokestatic 77, 3) := by decide +kernel
theorem dX3_without_79 : decode cX3_without 79 = .ok (.iconst 0, 1) := by decide +kernel
theorem dX3_without_80 : decode cX3_without 80 = .ok (.istore 5, 2) := by decide +kernel
theorem dX3_without_82 : decode cX3_without 82 = .ok (.iload 5, 2) := by decide +kernel
theorem dX3_without_84 : decode cX3_without 84 = .ok (.iconst 4, 1) := by decide +kernel
theorem dX3_without_85 : decode cX3_without 85 = .ok (.if_icmp .ge 62, 3) := by decide +kernel
theorem dX3_without_88 : decode cX3_without 88 = .ok (.aload_n 0, 1) := by decide +kernel
theorem dX3_without_89 : decode cX3_without 89 = .ok (.getfield 13, 3) := by decide +kernel
theorem dX3_without_92 : decode cX3_without 92 = .ok (.iconst 4, 1) := by decide +kernel
theorem dX3_without_93 : decode cX3_without 93 = .ok (.iload 4, 2) := by decide +kernel
theorem dX3_without_95 : decode cX3_without 95 = .ok (.imul, 1) := by decide +kernel
theorem dX3_without_96 : decode cX3_without 96 = .ok (.iload 5, 2) := by decide +kernel
theorem dX3_without_98 : decode cX3_without 98 = .ok (.iadd, 1) := by decide +kernel
theorem dX3_without_99 : decode cX3_without 99 = .ok (.iload_n 3, 1) := by decide +kernel
theorem dX3_without_100 : decode cX3_without 100 = .ok (.ifCond .eq 23, 3) := by decide +kernel
theorem dX3_without_103 : decode cX3_without 103 = .ok (.aload_n 0, 1) := by decide +kernel
theorem dX3_without_104 : decode cX3_without 104 = .ok (.getfield 39, 3) := by decide +kernel
theorem dX3_without_107 : decode cX3_without 107 = .ok (.iload 5, 2) := by decide +kernel
theorem dX3_without_109 : decode cX3_without 109 = .ok (.laload, 1) := by decide +kernel
theorem dX3_without_110 : decode cX3_without 110 = .ok (.aload_n 0, 1) := by decide +kernel
theorem dX3_without_111 : decode cX3_without 111 = .ok (.getfield 39, 3) := by decide +kernel
theorem dX3_without_114 : decode cX3_without 114 = .ok (.iconst 4, 1) := by decide +kernel
theorem dX3_without_115 : decode cX3_without 115 = .ok (.iload 5, 2) := by decide +kernel
theorem dX3_without_117 : decode cX3_without 117 = .ok (.iadd, 1) := by decide +kernel
theorem dX3_without_118 : decode cX3_without 118 = .ok (.laload, 1) := by decide +kernel
theorem dX3_without_119 : decode cX3_without 119 = .ok (.land, 1) := by decide +kernel
theorem dX3_without_120 : decode cX3_without 120 = .ok (.goto 20, 3) := by decide +kernel
theorem dX3_without_123 : decode cX3_without 123 = .ok (.aload_n 0, 1) := by decide +kernel
theorem dX3_without_124 : decode cX3_without 124 = .ok (.getfield 39, 3) := by decide +kernel
theorem dX3_without_127 : decode cX3_without 127 = .ok (.iload 5, 2) := by decide +kernel
theorem dX3_without_129 : decode cX3_without 129 = .ok (.laload, 1) := by decide +kernel
theorem dX3_without_130 : decode cX3_without 130 = .ok (.aload_n 0, 1) := by decide +kernel
theorem dX3_without_131 : decode cX3_without 131 = .ok (.getfield 39, 3) := by decide +kernel
theorem dX3_without_134 : decode cX3_without 134 = .ok (.iconst 4, 1) := by decide +kernel
theorem dX3_without_135 : decode cX3_without 135 = .ok (.iload 5, 2) := by decide +kernel
theorem dX3_without_137 : decode cX3_without 137 = .ok (.iadd, 1) := by decide +kernel
theorem dX3_without_138 : decode cX3_without 138 = .ok (.laload, 1) := by decide +kernel
theorem dX3_without_139 : decode cX3_without 139 = .ok (.lor, 1) := by decide +kernel
theorem dX3_without_140 : decode cX3_without 140 = .ok (.lastore, 1) := by decide +kernel
theorem dX3_without_141 : decode cX3_without 141 = .ok (.iinc 5 1, 3) := by decide +kernel
theorem dX3_without_144 : decode cX3_without 144 = .ok (.goto (-62), 3) := by decide +kernel
theorem dX3_without_147 : decode cX3_without 147 = .ok (.aload_n 0, 1) := by decide +kernel
theorem dX3_without_148 : decode cX3_without 148 = .ok (.iload 4, 2) := by decide +kernel
theorem dX3_without_150 : decode cX3_without 150 = .ok (.invokevirtual 131, 3) := by decide +kernel
theorem dX3_without_153 : decode cX3_without 153 = .ok (.ireturn, 1) := by decide +kernel
theorem dX3_folds_0 : decode cX3_folds 0 = .ok (.iconst 0, 1) := by decide +kernel
theorem dX3_folds_1 : decode cX3_folds 1 = .ok (.istore_n 1, 1) := by decide +kernel
theorem dX3_folds_2 : decode cX3_folds 2 = .ok (.aload_n 0, 1) := by decide +kernel
theorem dX3_folds_3 : decode cX3_folds 3 = .ok (.getfield 9, 3) := by decide +kernel
theorem dX3_folds_6 : decode cX3_folds 6 = .ok (.astore_n 2, 1) := by decide +kernel
theorem dX3_folds_7 : decode cX3_folds 7 = .ok (.aload_n 2, 1) := by decide +kernel
theorem dX3_folds_8 : decode cX3_folds 8 = .ok (.arraylength, 1) := by decide +kernel
theorem dX3_folds_9 : decode cX3_folds 9 = .ok (.istore_n 3, 1) := by decide +kernel
theorem dX3_folds_10 : decode cX3_folds 10 = .ok (.iconst 0, 1) := by decide +kernel
theorem dX3_folds_11 : decode cX3_folds 11 = .ok (.istore 4, 2) := by decide +kernel
theorem dX3_folds_13 : decode cX3_folds 13 = .ok (.iload 4, 2) := by decide +kernel
theorem dX3_folds_15 : decode cX3_folds 15 = .ok (.iload_n 3, 1) := by decide +kernel
theorem dX3_folds_16 : decode cX3_folds 16 = .ok (.if_icmp .ge 28, 3) := by decide +kernel
theorem dX3_folds_19 : decode cX3_folds 19 = .ok (.aload_n 2, 1) := by decide +kernel
theorem dX3_folds_20 : decode cX3_folds 20 = .ok (.iload 4, 2) := by decide +kernel
theorem dX3_folds_22 : decode cX3_folds 22 = .ok (.baload, 1) := by decide +kernel
theorem dX3_folds_23 : decode cX3_folds 23 = .ok (.istore 5, 2) := by decide +kernel
theorem dX3_folds_25 : decode cX3_folds 25 = .ok (.iload_n 1, 1) := by decide +kernel
theorem dX3_folds_26 : decode cX3_folds 26 = .ok (.iload 5, 2) := by decide +kernel
theorem dX3_folds_28 : decode cX3_folds 28 = .ok (.ifCond .eq 7, 3) := by decide +kernel
theorem dX3_folds_31 : decode cX3_folds 31 = .ok (.iconst 1, 1) := by decide +kernel
theorem dX3_folds_32 : decode cX3_folds 32 = .ok (.goto 4, 3) := by decide +kernel
theorem dX3_folds_35 : decode cX3_folds 35 = .ok (.iconst 0, 1) := by decide +kernel
theorem dX3_folds_36 : decode cX3_folds 36 = .ok (.iadd, 1) := by decide +kernel
theorem dX3_folds_37 : decode cX3_folds 37 = .ok (.istore_n 1, 1) := by decide +kernel
theorem dX3_folds_38 : decode cX3_folds 38 = .ok (.iinc 4 1, 3) := by decide +kernel
theorem dX3_folds_41 : decode cX3_folds 41 = .ok (.goto (-28), 3) := by decide +kernel
theorem dX3_folds_44 : decode cX3_folds 44 = .ok (.iload_n 1, 1) := by decide +kernel
theorem dX3_folds_45 : decode cX3_folds 45 = .ok (.ireturn, 1) := by decide +kernel
set_option maxRecDepth 20000 in
theorem ggX3_drop_X3_isFold : GoodIn wsX3_drop wsX3_isFold := goodIn_r _ [7, 2, 8, 9, 6, 10, 62, 63, 64, 65, 66, 67, 68, 69, 70, 71, 72, 73, 74, 75, 76] (by decide +kernel) (by decide +kernel)
set_option maxRecDepth 20000 in
theorem gX3_drop_X3_isFold : GoodIn wsX3_drop (wsV RX3 138 RX3 yX3_isFold wsX3_isFold) := goodIn_app (goodIn_of _ (by decide +kernel)) ggX3_drop_X3_isFold
set_option maxRecDepth 20000 in
theorem ggX3_drop_X3_fail : GoodIn wsX3_drop wsX3_fail := goodIn_r _ [14, 1, 62, 63, 64, 65, 66, 67, 68, 69, 70, 71, 72, 73, 74, 75, 76] (by decide +kernel) (by decide +kernel)
set_option maxRecDepth 20000 in
theorem gX3_drop_X3_fail : GoodIn wsX3_drop (wsV RX3 128 RX3 yX3_fail wsX3_fail) := goodIn_app (goodIn_of _ (by decide +kernel)) ggX3_drop_X3_fail
set_option maxRecDepth 20000 in
theorem ggX3_drop_X3_make : GoodIn wsX3_drop wsX3_make := goodIn_r _ [18, 19, 2, 20, 21, 22, 23, 24, 25, 26, 27, 28, 29, 6, 30, 31, 32, 33, 34, 35, 36, 37, 38, 39, 40, 41, 42, 43, 44, 45, 46, 47, 48, 49, 50, 51, 52, 53, 54, 55, 56, 57, 62, 63, 64, 65, 66, 67, 68, 69, 70, 71, 72, 73, 74, 75, 76] (by decide +kernel) (by decide +kernel)
set_option maxRecDepth 20000 in
theorem gX3_drop_X3_make : GoodIn wsX3_drop (wsV RX3 121 RX3 yX3_make wsX3_make) := goodIn_app (goodIn_of _ (by decide +kernel)) ggX3_drop_X3_make
set_option maxRecDepth 20000 in
theorem ggX3_drop_X3_folds : GoodIn wsX3_drop wsX3_folds := goodIn_r _ [61, 2, 62, 63, 64, 65, 66, 67, 68, 69, 70, 71, 72, 73, 74, 75, 76] (by decide +kernel) (by decide +kernel)
set_option maxRecDepth 20000 in
theorem gX3_drop_X3_folds : GoodIn wsX3_drop (wsV RX3 145 RX3 yX3_folds wsX3_folds) := goodIn_app (goodIn_of _ (by decide +kernel)) ggX3_drop_X3_folds
theorem dX3_drop_0 : decode cX3_drop 0 = .ok (.aload_n 0, 1) := by decide +kernel
theorem dX3_drop_1 : decode cX3_drop 1 = .ok (.iconst 0, 1) := by decide +kernel
theorem dX3_drop_2 : decode cX3_drop 2 = .ok (.putfield 48, 3) := by decide +kernel
theorem dX3_drop_5 : decode cX3_drop 5 = .ok (.aload_n 0, 1) := by decide +kernel
theorem dX3_drop_6 : decode cX3_drop 6 = .ok (.iload_n 1, 1) := by decide +kernel
theorem dX3_drop_7 : decode cX3_drop 7 = .ok (.invokevirtual 138, 3) := by decide +kernel
theorem dX3_drop_10 : decode cX3_drop 10 = .ok (.ifCond .ne 9, 3) := by decide +kernel
theorem dX3_drop_13 : decode cX3_drop 13 = .ok (.aload_n 0, 1) := by decide +kernel
theorem dX3_drop_14 : decode cX3_drop 14 = .ok (.iconst 1, 1) := by decide +kernel
theorem dX3_drop_15 : decode cX3_drop 15 = .ok (.invokevirtual 128, 3) := by decide +kernel
theorem dX3_drop_18 : decode cX3_drop 18 = .ok (.ireturn, 1) := by decide +kernel
theorem dX3_drop_19 : decode cX3_drop 19 = .ok (.aload_n 0, 1) := by decide +kernel
theorem dX3_drop_20 : decode cX3_drop 20 = .ok (.getfield 9, 3) := by decide +kernel
theorem dX3_drop_23 : decode cX3_drop 23 = .ok (.iload_n 1, 1) := by decide +kernel
theorem dX3_drop_24 : decode cX3_drop 24 = .ok (.iconst 0, 1) := by decide +kernel
theorem dX3_drop_25 : decode cX3_drop 25 = .ok (.bastore, 1) := by decide +kernel
theorem dX3_drop_26 : decode cX3_drop 26 = .ok (.aload_n 0, 1) := by decide +kernel
theorem dX3_drop_27 : decode cX3_drop 27 = .ok (.invokevirtual 121, 3) := by decide +kernel
theorem dX3_drop_30 : decode cX3_drop 30 = .ok (.aload_n 0, 1) := by decide +kernel
theorem dX3_drop_31 : decode cX3_drop 31 = .ok (.invokevirtual 145, 3) := by decide +kernel
theorem dX3_drop_34 : decode cX3_drop 34 = .ok (.ireturn, 1) := by decide +kernel
set_option maxRecDepth 20000 in
theorem ggX3_exchange_X3_make : GoodIn wsX3_exchange wsX3_make := goodIn_r _ [6, 7, 8, 9, 10, 11, 12, 13, 14, 15, 16, 17, 18, 5, 19, 20, 21, 1, 22, 23, 24, 25, 26, 27, 28, 29, 30, 31, 32, 33, 34, 35, 36, 37, 38, 39, 40, 41, 42, 43, 44, 45, 46, 47, 48, 49, 50, 51, 52, 53, 54, 55, 56, 57, 58, 59, 60] (by decide +kernel) (by decide +kernel)
set_option maxRecDepth 20000 in
theorem gX3_exchange_X3_make : GoodIn wsX3_exchange (wsV RX3 121 RX3 yX3_make wsX3_make) := goodIn_app (goodIn_of _ (by decide +kernel)) ggX3_exchange_X3_make
theorem dX3_exchange_0 : decode cX3_exchange 0 = .ok (.aload_n 0, 1) := by decide +kernel
theorem dX3_exchange_1 : decode cX3_exchange 1 = .ok (.getfield 17, 3) := by decide +kernel
theorem dX3_exchange_4 : decode cX3_exchange 4 = .ok (.iload_n 1, 1) := by decide +kernel
theorem dX3_exchange_5 : decode cX3_exchange 5 = .ok (.iaload, 1) := by decide +kernel
theorem dX3_exchange_6 : decode cX3_exchange 6 = .ok (.istore_n 2, 1) := by decide +kernel
theorem dX3_exchange_7 : decode cX3_exchange 7 = .ok (.aload_n 0, 1) := by decide +kernel
theorem dX3_exchange_8 : decode cX3_exchange 8 = .ok (.getfield 17, 3) := by decide +kernel
theorem dX3_exchange_11 : decode cX3_exchange 11 = .ok (.iload_n 1, 1) := by decide +kernel
theorem dX3_exchange_12 : decode cX3_exchange 12 = .ok (.aload_n 0, 1) := by decide +kernel
theorem dX3_exchange_13 : decode cX3_exchange 13 = .ok (.getfield 17, 3) := by decide +kernel
theorem dX3_exchange_16 : decode cX3_exchange 16 = .ok (.iload_n 1, 1) := by decide +kernel
theorem dX3_exchange_17 : decode cX3_exchange 17 = .ok (.iconst 1, 1) := by decide +kernel
theorem dX3_exchange_18 : decode cX3_exchange 18 = .ok (.iadd, 1) := by decide +kernel
theorem dX3_exchange_19 : decode cX3_exchange 19 = .ok (.iaload, 1) := by decide +kernel
theorem dX3_exchange_20 : decode cX3_exchange 20 = .ok (.iastore, 1) := by decide +kernel
theorem dX3_exchange_21 : decode cX3_exchange 21 = .ok (.aload_n 0, 1) := by decide +kernel
theorem dX3_exchange_22 : decode cX3_exchange 22 = .ok (.getfield 17, 3) := by decide +kernel
theorem dX3_exchange_25 : decode cX3_exchange 25 = .ok (.iload_n 1, 1) := by decide +kernel
theorem dX3_exchange_26 : decode cX3_exchange 26 = .ok (.iconst 1, 1) := by decide +kernel
theorem dX3_exchange_27 : decode cX3_exchange 27 = .ok (.iadd, 1) := by decide +kernel
theorem dX3_exchange_28 : decode cX3_exchange 28 = .ok (.iload_n 2, 1) := by decide +kernel
theorem dX3_exchange_29 : decode cX3_exchange 29 = .ok (.iastore, 1) := by decide +kernel
theorem dX3_exchange_30 : decode cX3_exchange 30 = .ok (.aload_n 0, 1) := by decide +kernel
theorem dX3_exchange_31 : decode cX3_exchange 31 = .ok (.invokevirtual 121, 3) := by decide +kernel
theorem dX3_exchange_34 : decode cX3_exchange 34 = .ok (.return_, 1) := by decide +kernel
set_option maxRecDepth 20000 in
theorem ggX3_swap_X3_isIn : GoodIn wsX3_swap wsX3_isIn := goodIn_r _ [6] (by decide +kernel) (by decide +kernel)
set_option maxRecDepth 20000 in
theorem gX3_swap_X3_isIn : GoodIn wsX3_swap (va_wsS RX3 52 yX3_isIn wsX3_isIn) := goodIn_app (goodIn_of _ (by decide +kernel)) ggX3_swap_X3_isIn
set_option maxRecDepth 20000 in
theorem ggX3_swap_X3_fail : GoodIn wsX3_swap wsX3_fail := goodIn_r _ [10, 1, 58, 59, 60, 61, 62, 63, 64, 65, 66, 67, 68, 69, 70, 71, 72] (by decide +kernel) (by decide +kernel)
set_option maxRecDepth 20000 in
theorem gX3_swap_X3_fail : GoodIn wsX3_swap (wsV RX3 128 RX3 yX3_fail wsX3_fail) := goodIn_app (goodIn_of _ (by decide +kernel)) ggX3_swap_X3_fail
set_option maxRecDepth 20000 in
theorem ggX3_swap_X3_exchange : GoodIn wsX3_swap wsX3_exchange := goodIn_r _ [14, 15, 16, 17, 18, 5, 19, 2, 20, 21, 22, 23, 24, 25, 26, 27, 28, 29, 30, 31, 32, 33, 34, 35, 36, 37, 38, 39, 40, 41, 42, 43, 44, 45, 46, 47, 48, 49, 50, 51, 52, 53, 54, 55, 56, 57, 58, 59, 60, 61, 62, 63, 64, 65, 66, 67, 68, 69, 70, 71, 72] (by decide +kernel) (by decide +kernel)
set_option maxRecDepth 20000 in
theorem gX3_swap_X3_exchange : GoodIn wsX3_swap (wsV RX3 148 RX3 yX3_exchange wsX3_exchange) := goodIn_app (goodIn_of _ (by decide +kernel)) ggX3_swap_X3_exchange
theorem dX3_swap_0 : decode cX3_swap 0 = .ok (.aload_n 0, 1) := by decide +kernel
theorem dX3_swap_1 : decode cX3_swap 1 = .ok (.iconst 0, 1) := by decide +kernel
theorem dX3_swap_2 : decode cX3_swap 2 = .ok (.putfield 48, 3) := by decide +kernel
theorem dX3_swap_5 : decode cX3_swap 5 = .ok (.iload_n 1, 1) := by decide +kernel
theorem dX3_swap_6 : decode cX3_swap 6 = .ok (.iconst 0, 1) := by decide +kernel
theorem dX3_swap_7 : decode cX3_swap 7 = .ok (.bipush 6, 2) := by decide +kernel
theorem dX3_swap_9 : decode cX3_swap 9 = .ok (.invokestatic 52, 3) := by decide +kernel
theorem dX3_swap_12 : decode cX3_swap 12 = .ok (.ifCond .ne 9, 3) := by decide +kernel
theorem dX3_swap_15 : decode cX3_swap 15 = .ok (.aload_n 0, 1) := by decide +kernel
theorem dX3_swap_16 : decode cX3_swap 16 = .ok (.iconst 1, 1) := by decide +kernel
theorem dX3_swap_17 : decode cX3_swap 17 = .ok (.invokevirtual 128, 3) := by decide +kernel
theorem dX3_swap_20 : decode cX3_swap 20 = .ok (.ireturn, 1) := by decide +kernel
theorem dX3_swap_21 : decode cX3_swap 21 = .ok (.aload_n 0, 1) := by decide +kernel
theorem dX3_swap_22 : decode cX3_swap 22 = .ok (.iload_n 1, 1) := by decide +kernel
theorem dX3_swap_23 : decode cX3_swap 23 = .ok (.invokevirtual 148, 3) := by decide +kernel
theorem dX3_swap_26 : decode cX3_swap 26 = .ok (.aload_n 0, 1) := by decide +kernel
theorem dX3_swap_27 : decode cX3_swap 27 = .ok (.getfield 66, 3) := by decide +kernel
theorem dX3_swap_30 : decode cX3_swap 30 = .ok (.ireturn, 1) := by decide +kernel
set_option maxRecDepth 20000 in
theorem ggX3_order_X3_isQuestion : GoodIn wsX3_order wsX3_isQuestion := goodIn_r _ [6, 7, 8, 5, 9] (by decide +kernel) (by decide +kernel)
set_option maxRecDepth 20000 in
theorem gX3_order_X3_isQuestion : GoodIn wsX3_order (va_wsS RX3 134 yX3_isQuestion wsX3_isQuestion) := goodIn_app (goodIn_of _ (by decide +kernel)) ggX3_order_X3_isQuestion
set_option maxRecDepth 20000 in
theorem ggX3_order_X3_fail : GoodIn wsX3_order wsX3_fail := goodIn_r _ [13, 1, 14, 15, 16, 17, 18, 19, 20, 21, 22, 23, 24, 25, 26, 27, 28] (by decide +kernel) (by decide +kernel)
set_option maxRecDepth 20000 in
theorem gX3_order_X3_fail : GoodIn wsX3_order (wsV RX3 128 RX3 yX3_fail wsX3_fail) := goodIn_app (goodIn_of _ (by decide +kernel)) ggX3_order_X3_fail
theorem dX3_order_0 : decode cX3_order 0 = .ok (.aload_n 0, 1) := by decide +kernel
theorem dX3_order_1 : decode cX3_order 1 = .ok (.iconst 0, 1) := by decide +kernel
theorem dX3_order_2 : decode cX3_order 2 = .ok (.putfield 48, 3) := by decide +kernel
theorem dX3_order_5 : decode cX3_order 5 = .ok (.iload_n 1, 1) := by decide +kernel
theorem dX3_order_6 : decode cX3_order 6 = .ok (.invokestatic 134, 3) := by decide +kernel
theorem dX3_order_9 : decode cX3_order 9 = .ok (.ifCond .eq 12, 3) := by decide +kernel
theorem dX3_order_12 : decode cX3_order 12 = .ok (.aload_n 0, 1) := by decide +kernel
theorem dX3_order_13 : decode cX3_order 13 = .ok (.getfield 17, 3) := by decide +kernel
theorem dX3_order_16 : decode cX3_order 16 = .ok (.iload_n 1, 1) := by decide +kernel
theorem dX3_order_17 : decode cX3_order 17 = .ok (.iaload, 1) := by decide +kernel
theorem dX3_order_18 : decode cX3_order 18 = .ok (.goto 8, 3) := by decide +kernel
theorem dX3_order_21 : decode cX3_order 21 = .ok (.aload_n 0, 1) := by decide +kernel
theorem dX3_order_22 : decode cX3_order 22 = .ok (.iconst 1, 1) := by decide +kernel
theorem dX3_order_23 : decode cX3_order 23 = .ok (.invokevirtual 128, 3) := by decide +kernel
theorem dX3_order_26 : decode cX3_order 26 = .ok (.ireturn, 1) := by decide +kernel
theorem dX3_saysSo_0 : decode cX3_saysSo 0 = .ok (.aload_n 0, 1) := by decide +kernel
theorem dX3_saysSo_1 : decode cX3_saysSo 1 = .ok (.getfield 13, 3) := by decide +kernel
theorem dX3_saysSo_4 : decode cX3_saysSo 4 = .ok (.iconst 4, 1) := by decide +kernel
theorem dX3_saysSo_5 : decode cX3_saysSo 5 = .ok (.iload_n 1, 1) := by decide +kernel
theorem dX3_saysSo_6 : decode cX3_saysSo 6 = .ok (.imul, 1) := by decide +kernel
theorem dX3_saysSo_7 : decode cX3_saysSo 7 = .ok (.iload_n 2, 1) := by decide +kernel
theorem dX3_saysSo_8 : decode cX3_saysSo 8 = .ok (.bipush 64, 2) := by decide +kernel
theorem dX3_saysSo_10 : decode cX3_saysSo 10 = .ok (.idiv, 1) := by decide +kernel
theorem dX3_saysSo_11 : decode cX3_saysSo 11 = .ok (.iadd, 1) := by decide +kernel
theorem dX3_saysSo_12 : decode cX3_saysSo 12 = .ok (.laload, 1) := by decide +kernel
theorem dX3_saysSo_13 : decode cX3_saysSo 13 = .ok (.iload_n 2, 1) := by decide +kernel
theorem dX3_saysSo_14 : decode cX3_saysSo 14 = .ok (.bipush 64, 2) := by decide +kernel
theorem dX3_saysSo_16 : decode cX3_saysSo 16 = .ok (.irem, 1) := by decide +kernel
theorem dX3_saysSo_17 : decode cX3_saysSo 17 = .ok (.lushr, 1) := by decide +kernel
theorem dX3_saysSo_18 : decode cX3_saysSo 18 = .ok (.lconst 1, 1) := by decide +kernel
theorem dX3_saysSo_19 : decode cX3_saysSo 19 = .ok (.land, 1) := by decide +kernel
theorem dX3_saysSo_20 : decode cX3_saysSo 20 = .ok (.lconst 1, 1) := by decide +kernel
theorem dX3_saysSo_21 : decode cX3_saysSo 21 = .ok (.lcmp, 1) := by decide +kernel
theorem dX3_saysSo_22 : decode cX3_saysSo 22 = .ok (.ifCond .ne 7, 3) := by decide +kernel
theorem dX3_saysSo_25 : decode cX3_saysSo 25 = .ok (.iconst 1, 1) := by decide +kernel
theorem dX3_saysSo_26 : decode cX3_saysSo 26 = .ok (.goto 4, 3) := by decide +kernel
theorem dX3_saysSo_29 : decode cX3_saysSo 29 = .ok (.iconst 0, 1) := by decide +kernel
theorem dX3_saysSo_30 : decode cX3_saysSo 30 = .ok (.ireturn, 1) := by decide +kernel
set_option maxRecDepth 20000 in
theorem ggX3_says_X3_isFold : GoodIn wsX3_says wsX3_isFold := goodIn_r _ [6, 7, 8, 9, 5, 10, 16, 17, 18, 19, 20, 21, 22, 23, 24, 25, 26, 27, 28, 29, 30] (by decide +kernel) (by decide +kernel)
set_option maxRecDepth 20000 in
theorem gX3_says_X3_isFold : GoodIn wsX3_says (wsV RX3 138 RX3 yX3_isFold wsX3_isFold) := goodIn_app (goodIn_of _ (by decide +kernel)) ggX3_says_X3_isFold
set_option maxRecDepth 20000 in
theorem ggX3_says_X3_isIn : GoodIn wsX3_says wsX3_isIn := goodIn_r _ [10] (by decide +kernel) (by decide +kernel)
set_option maxRecDepth 20000 in
theorem gX3_says_X3_isIn : GoodIn wsX3_says (va_wsS RX3 52 yX3_isIn wsX3_isIn) := goodIn_app (goodIn_of _ (by decide +kernel)) ggX3_says_X3_isIn
set_option maxRecDepth 20000 in
theorem ggX3_says_X3_saysSo : GoodIn wsX3_says wsX3_saysSo := goodIn_r _ [14, 15, 16, 17, 18, 19, 20, 21, 22, 23, 24, 25, 26, 27, 28, 29, 30] (by decide +kernel) (by decide +kernel)
set_option maxRecDepth 20000 in
theorem gX3_says_X3_saysSo : GoodIn wsX3_says (wsV RX3 151 RX3 yX3_saysSo wsX3_saysSo) := goodIn_app (goodIn_of _ (by decide +kernel)) ggX3_says_X3_saysSo
theorem dX3_says_0 : decode cX3_says 0 = .ok (.aload_n 0, 1) := by decide +kernel
theorem dX3_says_1 : decode cX3_says 1 = .ok (.aload_n 0, 1) := by decide +kernel
theorem dX3_says_2 : decode cX3_says 2 = .ok (.iload_n 1, 1) := by decide +kernel
theorem dX3_says_3 : decode cX3_says 3 = .ok (.invokevirtual 138, 3) := by decide +kernel
theorem dX3_says_6 : decode cX3_says 6 = .ok (.ifCond .ne 7, 3) := by decide +kernel
theorem dX3_says_9 : decode cX3_says 9 = .ok (.iconst 1, 1) := by decide +kernel
theorem dX3_says_10 : decode cX3_says 10 = .ok (.goto 19, 3) := by decide +kernel
theorem dX3_says_13 : decode cX3_says 13 = .ok (.iload_n 2, 1) := by decide +kernel
theorem dX3_says_14 : decode cX3_says 14 = .ok (.iconst 0, 1) := by decide +kernel
theorem dX3_says_15 : decode cX3_says 15 = .ok (.sipush 255, 3) := by decide +kernel
theorem dX3_says_18 : decode cX3_says 18 = .ok (.invokestatic 52, 3) := by decide +kernel
theorem dX3_says_21 : decode cX3_says 21 = .ok (.ifCond .eq 7, 3) := by decide +kernel
theorem dX3_says_24 : decode cX3_says 24 = .ok (.iconst 0, 1) := by decide +kernel
theorem dX3_says_25 : decode cX3_says 25 = .ok (.goto 4, 3) := by decide +kernel
theorem dX3_says_28 : decode cX3_says 28 = .ok (.iconst 2, 1) := by decide +kernel
theorem dX3_says_29 : decode cX3_says 29 = .ok (.putfield 48, 3) := by decide +kernel
theorem dX3_says_32 : decode cX3_says 32 = .ok (.aload_n 0, 1) := by decide +kernel
theorem dX3_says_33 : decode cX3_says 33 = .ok (.getfield 48, 3) := by decide +kernel
theorem dX3_says_36 : decode cX3_says 36 = .ok (.ifCond .ne 16, 3) := by decide +kernel
theorem dX3_says_39 : decode cX3_says 39 = .ok (.aload_n 0, 1) := by decide +kernel
theorem dX3_says_40 : decode cX3_says 40 = .ok (.iload_n 1, 1) := by decide +kernel
theorem dX3_says_41 : decode cX3_says 41 = .ok (.iload_n 2, 1) := by decide +kernel
theorem dX3_says_42 : decode cX3_says 42 = .ok (.invokevirtual 151, 3) := by decide +kernel
theorem dX3_says_45 : decode cX3_says 45 = .ok (.ifCond .eq 7, 3) := by decide +kernel
theorem dX3_says_48 : decode cX3_says 48 = .ok (.iconst 1, 1) := by decide +kernel
theorem dX3_says_49 : decode cX3_says 49 = .ok (.goto 4, 3) := by decide +kernel
theorem dX3_says_52 : decode cX3_says 52 = .ok (.iconst 0, 1) := by decide +kernel
theorem dX3_says_53 : decode cX3_says 53 = .ok (.ireturn, 1) := by decide +kernel
theorem dX3_many_0 : decode cX3_many 0 = .ok (.iconst 0, 1) := by decide +kernel
theorem dX3_many_1 : decode cX3_many 1 = .ok (.istore_n 1, 1) := by decide +kernel
theorem dX3_many_2 : decode cX3_many 2 = .ok (.iload_n 0, 1) := by decide +kernel
theorem dX3_many_3 : decode cX3_many 3 = .ok (.istore_n 2, 1) := by decide +kernel
theorem dX3_many_4 : decode cX3_many 4 = .ok (.iload_n 2, 1) := by decide +kernel
theorem dX3_many_5 : decode cX3_many 5 = .ok (.ifCond .eq 15, 3) := by decide +kernel
theorem dX3_many_8 : decode cX3_many 8 = .ok (.iinc 1 1, 3) := by decide +kernel
theorem dX3_many_11 : decode cX3_many 11 = .ok (.iload_n 2, 1) := by decide +kernel
theorem dX3_many_12 : decode cX3_many 12 = .ok (.iload_n 2, 1) := by decide +kernel
theorem dX3_many_13 : decode cX3_many 13 = .ok (.iconst 1, 1) := by decide +kernel
theorem dX3_many_14 : decode cX3_many 14 = .ok (.isub, 1) := by decide +kernel
theorem dX3_many_15 : decode cX3_many 15 = .ok (.iand, 1) := by decide +kernel
theorem dX3_many_16 : decode cX3_many 16 = .ok (.istore_n 2, 1) := by decide +kernel
theorem dX3_many_17 : decode cX3_many 17 = .ok (.goto (-13), 3) := by decide +kernel
theorem dX3_many_20 : decode cX3_many 20 = .ok (.iload_n 1, 1) := by decide +kernel
theorem dX3_many_21 : decode cX3_many 21 = .ok (.ireturn, 1) := by decide +kernel
set_option maxRecDepth 20000 in
theorem ggX3_forkTold_X3_placeOf : GoodIn wsX3_forkTold wsX3_placeOf := goodIn_r _ [9, 10, 25, 26, 27, 28, 29, 30, 31, 32, 33, 34, 35, 36, 37, 38, 39] (by decide +kernel) (by decide +kernel)
set_option maxRecDepth 20000 in
theorem gX3_forkTold_X3_placeOf : GoodIn wsX3_forkTold (wsV RX3 115 RX3 yX3_placeOf wsX3_placeOf) := goodIn_app (goodIn_of _ (by decide +kernel)) ggX3_forkTold_X3_placeOf
set_option maxRecDepth 20000 in
theorem ggX3_forkTold_X3_ahead : GoodIn wsX3_forkTold wsX3_ahead := goodIn_r _ [14, 15, 16, 2, 17, 3, 18, 19, 20, 21, 10, 5, 6, 7, 8, 9, 25, 26, 27, 28, 29, 30, 31, 32, 33, 34, 35, 36, 37, 38, 39] (by decide +kernel) (by decide +kernel)
set_option maxRecDepth 20000 in
theorem gX3_forkTold_X3_ahead : GoodIn wsX3_forkTold (wsV RX3 155 RX3 yX3_ahead wsX3_ahead) := goodIn_app (goodIn_of _ (by decide +kernel)) ggX3_forkTold_X3_ahead
set_option maxRecDepth 20000 in
theorem ggX3_forkTold_X3_many : GoodIn wsX3_forkTold wsX3_many := goodIn_r _ [24] (by decide +kernel) (by decide +kernel)
set_option maxRecDepth 20000 in
theorem gX3_forkTold_X3_many : GoodIn wsX3_forkTold (va_wsS RX3 158 yX3_many wsX3_many) := goodIn_app (goodIn_of _ (by decide +kernel)) ggX3_forkTold_X3_many
theorem dX3_forkTold_0 : decode cX3_forkTold 0 = .ok (.iload_n 2, 1) := by decide +kernel
theorem dX3_forkTold_1 : decode cX3_forkTold 1 = .ok (.tableswitch 66 0 3 #[31, 38, 49, 60], 31) := by decide +kernel
theorem dX3_forkTold_32 : decode cX3_forkTold 32 = .ok (.aload_n 0, 1) := by decide +kernel
theorem dX3_forkTold_33 : decode cX3_forkTold 33 = .ok (.getfield 24, 3) := by decide +kernel
theorem dX3_forkTold_36 : decode cX3_forkTold 36 = .ok (.iload_n 1, 1) := by decide +kernel
theorem dX3_forkTold_37 : decode cX3_forkTold 37 = .ok (.iaload, 1) := by decide +kernel
theorem dX3_forkTold_38 : decode cX3_forkTold 38 = .ok (.ireturn, 1) := by decide +kernel
theorem dX3_forkTold_39 : decode cX3_forkTold 39 = .ok (.aload_n 0, 1) := by decide +kernel
theorem dX3_forkTold_40 : decode cX3_forkTold 40 = .ok (.aload_n 0, 1) := by decide +kernel
theorem dX3_forkTold_41 : decode cX3_forkTold 41 = .ok (.getfield 27, 3) := by decide +kernel
theorem dX3_forkTold_44 : decode cX3_forkTold 44 = .ok (.iload_n 1, 1) := by decide +kernel
theorem dX3_forkTold_45 : decode cX3_forkTold 45 = .ok (.iaload, 1) := by decide +kernel
theorem dX3_forkTold_46 : decode cX3_forkTold 46 = .ok (.invokevirtual 115, 3) := by decide +kernel
theorem dX3_forkTold_49 : decode cX3_forkTold 49 = .ok (.ireturn, 1) := by decide +kernel
theorem dX3_forkTold_50 : decode cX3_forkTold 50 = .ok (.aload_n 0, 1) := by decide +kernel
theorem dX3_forkTold_51 : decode cX3_forkTold 51 = .ok (.aload_n 0, 1) := by decide +kernel
theorem dX3_forkTold_52 : decode cX3_forkTold 52 = .ok (.getfield 30, 3) := by decide +kernel
theorem dX3_forkTold_55 : decode cX3_forkTold 55 = .ok (.iload_n 1, 1) := by decide +kernel
theorem dX3_forkTold_56 : decode cX3_forkTold 56 = .ok (.iaload, 1) := by decide +kernel
theorem dX3_forkTold_57 : decode cX3_forkTold 57 = .ok (.invokevirtual 115, 3) := by decide +kernel
theorem dX3_forkTold_60 : decode cX3_forkTold 60 = .ok (.ireturn, 1) := by decide +kernel
theorem dX3_forkTold_61 : decode cX3_forkTold 61 = .ok (.aload_n 0, 1) := by decide +kernel
theorem dX3_forkTold_62 : decode cX3_forkTold 62 = .ok (.iload_n 1, 1) := by decide +kernel
theorem dX3_forkTold_63 : decode cX3_forkTold 63 = .ok (.invokevirtual 155, 3) := by decide +kernel
theorem dX3_forkTold_66 : decode cX3_forkTold 66 = .ok (.ireturn, 1) := by decide +kernel
theorem dX3_forkTold_67 : decode cX3_forkTold 67 = .ok (.aload_n 0, 1) := by decide +kernel
theorem dX3_forkTold_68 : decode cX3_forkTold 68 = .ok (.getfield 33, 3) := by decide +kernel
theorem dX3_forkTold_71 : decode cX3_forkTold 71 = .ok (.iload_n 1, 1) := by decide +kernel
theorem dX3_forkTold_72 : decode cX3_forkTold 72 = .ok (.iaload, 1) := by decide +kernel
theorem dX3_forkTold_73 : decode cX3_forkTold 73 = .ok (.invokestatic 158, 3) := by decide +kernel
theorem dX3_forkTold_76 : decode cX3_forkTold 76 = .ok (.ireturn, 1) := by decide +kernel
set_option maxRecDepth 20000 in
theorem ggX3_fork__X3_isFold : GoodIn wsX3_fork_ wsX3_isFold := goodIn_r _ [7, 8, 9, 10, 6, 11, 56, 57, 58, 59, 60, 61, 62, 63, 64, 65, 66, 67, 68, 69, 70] (by decide +kernel) (by decide +kernel)
set_option maxRecDepth 20000 in
theorem gX3_fork__X3_isFold : GoodIn wsX3_fork_ (wsV RX3 138 RX3 yX3_isFold wsX3_isFold) := goodIn_app (goodIn_of _ (by decide +kernel)) ggX3_fork__X3_isFold
set_option maxRecDepth 20000 in
theorem ggX3_fork__X3_isIn : GoodIn wsX3_fork_ wsX3_isIn := goodIn_r _ [11] (by decide +kernel) (by decide +kernel)
set_option maxRecDepth 20000 in
theorem gX3_fork__X3_isIn : GoodIn wsX3_fork_ (va_wsS RX3 52 yX3_isIn wsX3_isIn) := goodIn_app (goodIn_of _ (by decide +kernel)) ggX3_fork__X3_isIn
set_option maxRecDepth 20000 in
theorem ggX3_fork__X3_fail : GoodIn wsX3_fork_ wsX3_fail := goodIn_r _ [15, 1, 56, 57, 58, 59, 60, 61, 62, 63, 64, 65, 66, 67, 68, 69, 70] (by decide +kernel) (by decide +kernel)
set_option maxRecDepth 20000 in
theorem gX3_fork__X3_fail : GoodIn wsX3_fork_ (wsV RX3 128 RX3 yX3_fail wsX3_fail) := goodIn_app (goodIn_of _ (by decide +kernel)) ggX3_fork__X3_fail
set_option maxRecDepth 20000 in
theorem ggX3_fork__X3_all : GoodIn wsX3_fork_ wsX3_all := goodIn_r _ [19, 20, 21, 22, 23, 24, 6, 25, 26, 27, 28, 29, 30, 31, 2, 32, 33, 56, 57, 58, 59, 60, 61, 62, 63, 64, 65, 66, 67, 68, 69, 70] (by decide +kernel) (by decide +kernel)
set_option maxRecDepth 20000 in
theorem gX3_fork__X3_all : GoodIn wsX3_fork_ (wsV RX3 161 RX3 yX3_all wsX3_all) := goodIn_app (goodIn_of _ (by decide +kernel)) ggX3_fork__X3_all
set_option maxRecDepth 20000 in
theorem ggX3_fork__X3_forkTold : GoodIn wsX3_fork_ wsX3_forkTold := goodIn_r _ [37, 38, 32, 33, 39, 40, 41, 42, 6, 43, 27, 44, 45, 46, 47, 21, 48, 2, 49, 50, 51, 52, 53, 54, 55, 56, 57, 58, 59, 60, 61, 62, 63, 64, 65, 66, 67, 68, 69, 70] (by decide +kernel) (by decide +kernel)
set_option maxRecDepth 20000 in
theorem gX3_fork__X3_forkTold : GoodIn wsX3_fork_ (wsV RX3 164 RX3 yX3_forkTold wsX3_forkTold) := goodIn_app (goodIn_of _ (by decide +kernel)) ggX3_fork__X3_forkTold
theorem dX3_fork__0 : decode cX3_fork_ 0 = .ok (.aload_n 0, 1) := by decide +kernel
theorem dX3_fork__1 : decode cX3_fork_ 1 = .ok (.iconst 0, 1) := by decide +kernel
theorem dX3_fork__2 : decode cX3_fork_ 2 = .ok (.putfield 48, 3) := by decide +kernel
theorem dX3_fork__5 : decode cX3_fork_ 5 = .ok (.aload_n 0, 1) := by decide +kernel
theorem dX3_fork__6 : decode cX3_fork_ 6 = .ok (.iload_n 1, 1) := by decide +kernel
theorem dX3_fork__7 : decode cX3_fork_ 7 = .ok (.invokevirtual 138, 3) := by decide +kernel
theorem dX3_fork__10 : decode cX3_fork_ 10 = .ok (.ifCond .eq 12, 3) := by decide +kernel
theorem dX3_fork__13 : decode cX3_fork_ 13 = .ok (.iload_n 3, 1) := by decide +kernel
theorem dX3_fork__14 : decode cX3_fork_ 14 = .ok (.iconst 0, 1) := by decide +kernel
theorem dX3_fork__15 : decode cX3_fork_ 15 = .ok (.iconst 4, 1) := by decide +kernel
theorem dX3_fork__16 : decode cX3_fork_ 16 = .ok (.invokestatic 52, 3) := by decide +kernel
theorem dX3_fork__19 : decode cX3_fork_ 19 = .ok (.ifCond .ne 9, 3) := by decide +kernel
theorem dX3_fork__22 : decode cX3_fork_ 22 = .ok (.aload_n 0, 1) := by decide +kernel
theorem dX3_fork__23 : decode cX3_fork_ 23 = .ok (.iconst 1, 1) := by decide +kernel
theorem dX3_fork__24 : decode cX3_fork_ 24 = .ok (.invokevirtual 128, 3) := by decide +kernel
theorem dX3_fork__27 : decode cX3_fork_ 27 = .ok (.ireturn, 1) := by decide +kernel
theorem dX3_fork__28 : decode cX3_fork_ 28 = .ok (.iload_n 2, 1) := by decide +kernel
theorem dX3_fork__29 : decode cX3_fork_ 29 = .ok (.iconst 0, 1) := by decide +kernel
theorem dX3_fork__30 : decode cX3_fork_ 30 = .ok (.aload_n 0, 1) := by decide +kernel
theorem dX3_fork__31 : decode cX3_fork_ 31 = .ok (.iload_n 1, 1) := by decide +kernel
theorem dX3_fork__32 : decode cX3_fork_ 32 = .ok (.invokevirtual 161, 3) := by decide +kernel
theorem dX3_fork__35 : decode cX3_fork_ 35 = .ok (.iconst 1, 1) := by decide +kernel
theorem dX3_fork__36 : decode cX3_fork_ 36 = .ok (.isub, 1) := by decide +kernel
theorem dX3_fork__37 : decode cX3_fork_ 37 = .ok (.invokestatic 52, 3) := by decide +kernel
theorem dX3_fork__40 : decode cX3_fork_ 40 = .ok (.ifCond .eq 17, 3) := by decide +kernel
theorem dX3_fork__43 : decode cX3_fork_ 43 = .ok (.aload_n 0, 1) := by decide +kernel
theorem dX3_fork__44 : decode cX3_fork_ 44 = .ok (.aload_n 0, 1) := by decide +kernel
theorem dX3_fork__45 : decode cX3_fork_ 45 = .ok (.getfield 42, 3) := by decide +kernel
theorem dX3_fork__48 : decode cX3_fork_ 48 = .ok (.iload_n 2, 1) := by decide +kernel
theorem dX3_fork__49 : decode cX3_fork_ 49 = .ok (.iaload, 1) := by decide +kernel
theorem dX3_fork__50 : decode cX3_fork_ 50 = .ok (.iload_n 3, 1) := by decide +kernel
theorem dX3_fork__51 : decode cX3_fork_ 51 = .ok (.invokevirtual 164, 3) := by decide +kernel
theorem dX3_fork__54 : decode cX3_fork_ 54 = .ok (.goto 8, 3) := by decide +kernel
theorem dX3_fork__57 : decode cX3_fork_ 57 = .ok (.aload_n 0, 1) := by decide +kernel
theorem dX3_fork__58 : decode cX3_fork_ 58 = .ok (.iconst 1, 1) := by decide +kernel
theorem dX3_fork__59 : decode cX3_fork_ 59 = .ok (.invokevirtual 128, 3) := by decide +kernel
theorem dX3_fork__62 : decode cX3_fork_ 62 = .ok (.ireturn, 1) := by decide +kernel
set_option maxRecDepth 20000 in
theorem ggX3_aboutOf_X3_all : GoodIn wsX3_aboutOf wsX3_all := goodIn_r _ [9, 2, 10, 11, 12, 13, 8, 14, 3, 15, 16, 17, 18, 19, 20, 21, 22, 46, 47, 48, 49, 50, 51, 52, 53, 54, 55, 56, 57, 58, 59, 60] (by decide +kernel) (by decide +kernel)
set_option maxRecDepth 20000 in
theorem gX3_aboutOf_X3_all : GoodIn wsX3_aboutOf (wsV RX3 161 RX3 yX3_all wsX3_all) := goodIn_app (goodIn_of _ (by decide +kernel)) ggX3_aboutOf_X3_all
set_option maxRecDepth 20000 in
theorem ggX3_aboutOf_X3_saysSo : GoodIn wsX3_aboutOf wsX3_saysSo := goodIn_r _ [26, 1, 46, 47, 48, 49, 50, 51, 52, 53, 54, 55, 56, 57, 58, 59, 60] (by decide +kernel) (by decide +kernel)
set_option maxRecDepth 20000 in
theorem gX3_aboutOf_X3_saysSo : GoodIn wsX3_aboutOf (wsV RX3 151 RX3 yX3_saysSo wsX3_saysSo) := goodIn_app (goodIn_of _ (by decide +kernel)) ggX3_aboutOf_X3_saysSo
set_option maxRecDepth 20000 in
theorem ggX3_aboutOf_X3_matters : GoodIn wsX3_aboutOf wsX3_matters := goodIn_r _ [30, 31, 32, 33, 8, 34] (by decide +kernel) (by decide +kernel)
set_option maxRecDepth 20000 in
theorem gX3_aboutOf_X3_matters : GoodIn wsX3_aboutOf (wsV RX3 73 RX3 yX3_matters wsX3_matters) := goodIn_app (goodIn_of _ (by decide +kernel)) ggX3_aboutOf_X3_matters
set_option maxRecDepth 20000 in
theorem ggX3_aboutOf_X3_far : GoodIn wsX3_aboutOf wsX3_far := goodIn_r _ [38, 21, 22, 39, 40, 41, 42, 43, 44, 45, 35, 36, 37, 8, 46, 47, 48, 49, 50, 51, 52, 53, 54, 55, 56, 57, 58, 59, 60] (by decide +kernel) (by decide +kernel)
set_option maxRecDepth 20000 in
theorem gX3_aboutOf_X3_far : GoodIn wsX3_aboutOf (wsV RX3 102 RX3 yX3_far wsX3_far) := goodIn_app (goodIn_of _ (by decide +kernel)) ggX3_aboutOf_X3_far
theorem dX3_aboutOf_0 : decode cX3_aboutOf 0 = .ok (.iconst 0, 1) := by decide +kernel
theorem dX3_aboutOf_1 : decode cX3_aboutOf 1 = .ok (.istore_n 3, 1) := by decide +kernel
theorem dX3_aboutOf_2 : decode cX3_aboutOf 2 = .ok (.iload_n 2, 1) := by decide +kernel
theorem dX3_aboutOf_3 : decode cX3_aboutOf 3 = .ok (.tableswitch 216 0 6 #[41, 47, 84, 129, 141, 153, 185], 41) := by decide +kernel
theorem dX3_aboutOf_44 : decode cX3_aboutOf 44 = .ok (.aload_n 0, 1) := by decide +kernel
theorem dX3_aboutOf_45 : decode cX3_aboutOf 45 = .ok (.iload_n 1, 1) := by decide +kernel
theorem dX3_aboutOf_46 : decode cX3_aboutOf 46 = .ok (.invokevirtual 161, 3) := by decide +kernel
theorem dX3_aboutOf_49 : decode cX3_aboutOf 49 = .ok (.ireturn, 1) := by decide +kernel
theorem dX3_aboutOf_50 : decode cX3_aboutOf 50 = .ok (.iconst 0, 1) := by decide +kernel
theorem dX3_aboutOf_51 : decode cX3_aboutOf 51 = .ok (.istore 4, 2) := by decide +kernel
theorem dX3_aboutOf_53 : decode cX3_aboutOf 53 = .ok (.iload 4, 2) := by decide +kernel
theorem dX3_aboutOf_55 : decode cX3_aboutOf 55 = .ok (.sipush 256, 3) := by decide +kernel
theorem dX3_aboutOf_58 : decode cX3_aboutOf 58 = .ok (.if_icmp .ge 27, 3) := by decide +kernel
theorem dX3_aboutOf_61 : decode cX3_aboutOf 61 = .ok (.iload_n 3, 1) := by decide +kernel
theorem dX3_aboutOf_62 : decode cX3_aboutOf 62 = .ok (.aload_n 0, 1) := by decide +kernel
theorem dX3_aboutOf_63 : decode cX3_aboutOf 63 = .ok (.iload_n 1, 1) := by decide +kernel
theorem dX3_aboutOf_64 : decode cX3_aboutOf 64 = .ok (.iload 4, 2) := by decide +kernel
theorem dX3_aboutOf_66 : decode cX3_aboutOf 66 = .ok (.invokevirtual 151, 3) := by decide +kernel
theorem dX3_aboutOf_69 : decode cX3_aboutOf 69 = .ok (.ifCond .eq 7, 3) := by decide +kernel
theorem dX3_aboutOf_72 : decode cX3_aboutOf 72 = .ok (.iconst 1, 1) := by decide +kernel
theorem dX3_aboutOf_73 : decode cX3_aboutOf 73 = .ok (.goto 4, 3) := by decide +kernel
theorem dX3_aboutOf_76 : decode cX3_aboutOf 76 = .ok (.iconst 0, 1) := by decide +kernel
theorem dX3_aboutOf_77 : decode cX3_aboutOf 77 = .ok (.iadd, 1) := by decide +kernel
theorem dX3_aboutOf_78 : decode cX3_aboutOf 78 = .ok (.istore_n 3, 1) := by decide +kernel
theorem dX3_aboutOf_79 : decode cX3_aboutOf 79 = .ok (.iinc 4 1, 3) := by decide +kernel
theorem dX3_aboutOf_82 : decode cX3_aboutOf 82 = .ok (.goto (-29), 3) := by decide +kernel
theorem dX3_aboutOf_85 : decode cX3_aboutOf 85 = .ok (.iload_n 3, 1) := by decide +kernel
theorem dX3_aboutOf_86 : decode cX3_aboutOf 86 = .ok (.ireturn, 1) := by decide +kernel
theorem dX3_aboutOf_87 : decode cX3_aboutOf 87 = .ok (.iconst 0, 1) := by decide +kernel
theorem dX3_aboutOf_88 : decode cX3_aboutOf 88 = .ok (.istore 4, 2) := by decide +kernel
theorem dX3_aboutOf_90 : decode cX3_aboutOf 90 = .ok (.iload 4, 2) := by decide +kernel
theorem dX3_aboutOf_92 : decode cX3_aboutOf 92 = .ok (.bipush 8, 2) := by decide +kernel
theorem dX3_aboutOf_94 : decode cX3_aboutOf 94 = .ok (.if_icmp .ge 36, 3) := by decide +kernel
theorem dX3_aboutOf_97 : decode cX3_aboutOf 97 = .ok (.iload_n 3, 1) := by decide +kernel
theorem dX3_aboutOf_98 : decode cX3_aboutOf 98 = .ok (.aload_n 0, 1) := by decide +kernel
theorem dX3_aboutOf_99 : decode cX3_aboutOf 99 = .ok (.aload_n 0, 1) := by decide +kernel
theorem dX3_aboutOf_100 : decode cX3_aboutOf 100 = .ok (.getfield 13, 3) := by decide +kernel
theorem dX3_aboutOf_103 : decode cX3_aboutOf 103 = .ok (.iconst 4, 1) := by decide +kernel
theorem dX3_aboutOf_104 : decode cX3_aboutOf 104 = .ok (.iload_n 1, 1) := by decide +kernel
theorem dX3_aboutOf_105 : decode cX3_aboutOf 105 = .ok (.imul, 1) := by decide +kernel
theorem dX3_aboutOf_106 : decode cX3_aboutOf 106 = .ok (.iload 4, 2) := by decide +kernel
theorem dX3_aboutOf_108 : decode cX3_aboutOf 108 = .ok (.invokevirtual 73, 3) := by decide +kernel
theorem dX3_aboutOf_111 : decode cX3_aboutOf 111 = .ok (.ifCond .eq 10, 3) := by decide +kernel
theorem dX3_aboutOf_114 : decode cX3_aboutOf 114 = .ok (.iconst 1, 1) := by decide +kernel
theorem dX3_aboutOf_115 : decode cX3_aboutOf 115 = .ok (.iload 4, 2) := by decide +kernel
theorem dX3_aboutOf_117 : decode cX3_aboutOf 117 = .ok (.ishl, 1) := by decide +kernel
theorem dX3_aboutOf_118 : decode cX3_aboutOf 118 = .ok (.goto 4, 3) := by decide +kernel
theorem dX3_aboutOf_121 : decode cX3_aboutOf 121 = .ok (.iconst 0, 1) := by decide +kernel
theorem dX3_aboutOf_122 : decode cX3_aboutOf 122 = .ok (.iadd, 1) := by decide +kernel
theorem dX3_aboutOf_123 : decode cX3_aboutOf 123 = .ok (.istore_n 3, 1) := by decide +kernel
theorem dX3_aboutOf_124 : decode cX3_aboutOf 124 = .ok (.iinc 4 1, 3) := by decide +kernel
theorem dX3_aboutOf_127 : decode cX3_aboutOf 127 = .ok (.goto (-37), 3) := by decide +kernel
theorem dX3_aboutOf_130 : decode cX3_aboutOf 130 = .ok (.iload_n 3, 1) := by decide +kernel
theorem dX3_aboutOf_131 : decode cX3_aboutOf 131 = .ok (.ireturn, 1) := by decide +kernel
theorem dX3_aboutOf_132 : decode cX3_aboutOf 132 = .ok (.aload_n 0, 1) := by decide +kernel
theorem dX3_aboutOf_133 : decode cX3_aboutOf 133 = .ok (.aload_n 0, 1) := by decide +kernel
theorem dX3_aboutOf_134 : decode cX3_aboutOf 134 = .ok (.getfield 36, 3) := by decide +kernel
theorem dX3_aboutOf_137 : decode cX3_aboutOf 137 = .ok (.iload_n 1, 1) := by decide +kernel
theorem dX3_aboutOf_138 : decode cX3_aboutOf 138 = .ok (.iaload, 1) := by decide +kernel
theorem dX3_aboutOf_139 : decode cX3_aboutOf 139 = .ok (.iconst 1, 1) := by decide +kernel
theorem dX3_aboutOf_140 : decode cX3_aboutOf 140 = .ok (.invokevirtual 102, 3) := by decide +kernel
theorem dX3_aboutOf_143 : decode cX3_aboutOf 143 = .ok (.ireturn, 1) := by decide +kernel
theorem dX3_aboutOf_144 : decode cX3_aboutOf 144 = .ok (.aload_n 0, 1) := by decide +kernel
theorem dX3_aboutOf_145 : decode cX3_aboutOf 145 = .ok (.aload_n 0, 1) := by decide +kernel
theorem dX3_aboutOf_146 : decode cX3_aboutOf 146 = .ok (.getfield 36, 3) := by decide +kernel
theorem dX3_aboutOf_149 : decode cX3_aboutOf 149 = .ok (.iload_n 1, 1) := by decide +kernel
theorem dX3_aboutOf_150 : decode cX3_aboutOf 150 = .ok (.iaload, 1) := by decide +kernel
theorem dX3_aboutOf_151 : decode cX3_aboutOf 151 = .ok (.iconst 0, 1) := by decide +kernel
theorem dX3_aboutOf_152 : decode cX3_aboutOf 152 = .ok (.invokevirtual 102, 3) := by decide +kernel
theorem dX3_aboutOf_155 : decode cX3_aboutOf 155 = .ok (.ireturn, 1) := by decide +kernel
theorem dX3_aboutOf_156 : decode cX3_aboutOf 156 = .ok (.iconst 0, 1) := by decide +kernel
theorem dX3_aboutOf_157 : decode cX3_aboutOf 157 = .ok (.istore 4, 2) := by decide +kernel
theorem dX3_aboutOf_159 : decode cX3_aboutOf 159 = .ok (.iload 4, 2) := by decide +kernel
theorem dX3_aboutOf_161 : decode cX3_aboutOf 161 = .ok (.sipush 256, 3) := by decide +kernel
theorem dX3_aboutOf_164 : decode cX3_aboutOf 164 = .ok (.if_icmp .ge 22, 3) := by decide +kernel
theorem dX3_aboutOf_167 : decode cX3_aboutOf 167 = .ok (.aload_n 0, 1) := by decide +kernel
theorem dX3_aboutOf_168 : decode cX3_aboutOf 168 = .ok (.iload_n 1, 1) := by decide +kernel
theorem dX3_aboutOf_169 : decode cX3_aboutOf 169 = .ok (.iload 4, 2) := by decide +kernel
theorem dX3_aboutOf_171 : decode cX3_aboutOf 171 = .ok (.invokevirtual 151, 3) := by decide +kernel
theorem dX3_aboutOf_174 : decode cX3_aboutOf 174 = .ok (.ifCond .eq 6, 3) := by decide +kernel
theorem dX3_aboutOf_177 : decode cX3_aboutOf 177 = .ok (.iload 4, 2) := by decide +kernel
theorem dX3_aboutOf_179 : decode cX3_aboutOf 179 = .ok (.ireturn, 1) := by decide +kernel
theorem dX3_aboutOf_180 : decode cX3_aboutOf 180 = .ok (.iinc 4 1, 3) := by decide +kernel
theorem dX3_aboutOf_183 : decode cX3_aboutOf 183 = .ok (.goto (-24), 3) := by decide +kernel
theorem dX3_aboutOf_186 : decode cX3_aboutOf 186 = .ok (.iconst (-1), 1) := by decide +kernel
theorem dX3_aboutOf_187 : decode cX3_aboutOf 187 = .ok (.ireturn, 1) := by decide +kernel
theorem dX3_aboutOf_188 : decode cX3_aboutOf 188 = .ok (.sipush 255, 3) := by decide +kernel
theorem dX3_aboutOf_191 : decode cX3_aboutOf 191 = .ok (.istore 4, 2) := by decide +kernel
theorem dX3_aboutOf_193 : decode cX3_aboutOf 193 = .ok (.iload 4, 2) := by decide +kernel
theorem dX3_aboutOf_195 : decode cX3_aboutOf 195 = .ok (.ifCond .lt 22, 3) := by decide +kernel
theorem dX3_aboutOf_198 : decode cX3_aboutOf 198 = .ok (.aload_n 0, 1) := by decide +kernel
theorem dX3_aboutOf_199 : decode cX3_aboutOf 199 = .ok (.iload_n 1, 1) := by decide +kernel
theorem dX3_aboutOf_200 : decode cX3_aboutOf 200 = .ok (.iload 4, 2) := by decide +kernel
theorem dX3_aboutOf_202 : decode cX3_aboutOf 202 = .ok (.invokevirtual 151, 3) := by decide +kernel
theorem dX3_aboutOf_205 : decode cX3_aboutOf 205 = .ok (.ifCond .eq 6, 3) := by decide +kernel
theorem dX3_aboutOf_208 : decode cX3_aboutOf 208 = .ok (.iload 4, 2) := by decide +kernel
theorem dX3_aboutOf_210 : decode cX3_aboutOf 210 = .ok (.ireturn, 1) := by decide +kernel
theorem dX3_aboutOf_211 : decode cX3_aboutOf 211 = .ok (.iinc 4 (-1), 3) := by decide +kernel
theorem dX3_aboutOf_214 : decode cX3_aboutOf 214 = .ok (.goto (-21), 3) := by decide +kernel
theorem dX3_aboutOf_217 : decode cX3_aboutOf 217 = .ok (.iconst (-1), 1) := by decide +kernel
theorem dX3_aboutOf_218 : decode cX3_aboutOf 218 = .ok (.ireturn, 1) := by decide +kernel
theorem dX3_aboutOf_219 : decode cX3_aboutOf 219 = .ok (.iconst 0, 1) := by decide +kernel
theorem dX3_aboutOf_220 : decode cX3_aboutOf 220 = .ok (.istore 4, 2) := by decide +kernel
theorem dX3_aboutOf_222 : decode cX3_aboutOf 222 = .ok (.iload 4, 2) := by decide +kernel
theorem dX3_aboutOf_224 : decode cX3_aboutOf 224 = .ok (.aload_n 0, 1) := by decide +kernel
theorem dX3_aboutOf_225 : decode cX3_aboutOf 225 = .ok (.getfield 66, 3) := by decide +kernel
theorem dX3_aboutOf_228 : decode cX3_aboutOf 228 = .ok (.if_icmp .ge 30, 3) := by decide +kernel
theorem dX3_aboutOf_231 : decode cX3_aboutOf 231 = .ok (.iload_n 3, 1) := by decide +kernel
theorem dX3_aboutOf_232 : decode cX3_aboutOf 232 = .ok (.aload_n 0, 1) := by decide +kernel
theorem dX3_aboutOf_233 : decode cX3_aboutOf 233 = .ok (.getfield 33, 3) := by decide +kernel
theorem dX3_aboutOf_236 : decode cX3_aboutOf 236 = .ok (.iload 4, 2) := by decide +kernel
theorem dX3_aboutOf_238 : decode cX3_aboutOf 238 = .ok (.iaload, 1) := by decide +kernel
theorem dX3_aboutOf_239 : decode cX3_aboutOf 239 = .ok (.iconst 1, 1) := by decide +kernel
theorem dX3_aboutOf_240 : decode cX3_aboutOf 240 = .ok (.iload_n 1, 1) := by decide +kernel
theorem dX3_aboutOf_241 : decode cX3_aboutOf 241 = .ok (.ishl, 1) := by decide +kernel
theorem dX3_aboutOf_242 : decode cX3_aboutOf 242 = .ok (.if_icmp .ne 7, 3) := by decide +kernel
theorem dX3_aboutOf_245 : decode cX3_aboutOf 245 = .ok (.iconst 1, 1) := by decide +kernel
theorem dX3_aboutOf_246 : decode cX3_aboutOf 246 = .ok (.goto 4, 3) := by decide +kernel
theorem dX3_aboutOf_249 : decode cX3_aboutOf 249 = .ok (.iconst 0, 1) := by decide +kernel
theorem dX3_aboutOf_250 : decode cX3_aboutOf 250 = .ok (.iadd, 1) := by decide +kernel
theorem dX3_aboutOf_251 : decode cX3_aboutOf 251 = .ok (.istore_n 3, 1) := by decide +kernel
theorem dX3_aboutOf_252 : decode cX3_aboutOf 252 = .ok (.iinc 4 1, 3) := by decide +kernel
theorem dX3_aboutOf_255 : decode cX3_aboutOf 255 = .ok (.goto (-33), 3) := by decide +kernel
theorem dX3_aboutOf_258 : decode cX3_aboutOf 258 = .ok (.iload_n 3, 1) := by decide +kernel
theorem dX3_aboutOf_259 : decode cX3_aboutOf 259 = .ok (.ireturn, 1) := by decide +kernel
set_option maxRecDepth 20000 in
theorem ggX3_about_X3_isFold : GoodIn wsX3_about wsX3_isFold := goodIn_r _ [6, 7, 8, 9, 5, 10, 63, 64, 65, 66, 67, 68, 69, 70, 71, 72, 73, 74, 75, 76, 77] (by decide +kernel) (by decide +kernel)
set_option maxRecDepth 20000 in
theorem gX3_about_X3_isFold : GoodIn wsX3_about (wsV RX3 138 RX3 yX3_isFold wsX3_isFold) := goodIn_app (goodIn_of _ (by decide +kernel)) ggX3_about_X3_isFold
set_option maxRecDepth 20000 in
theorem ggX3_about_X3_isIn : GoodIn wsX3_about wsX3_isIn := goodIn_r _ [10] (by decide +kernel) (by decide +kernel)
set_option maxRecDepth 20000 in
theorem gX3_about_X3_isIn : GoodIn wsX3_about (va_wsS RX3 52 yX3_isIn wsX3_isIn) := goodIn_app (goodIn_of _ (by decide +kernel)) ggX3_about_X3_isIn
set_option maxRecDepth 20000 in
theorem ggX3_about_X3_aboutOf : GoodIn wsX3_about wsX3_aboutOf := goodIn_r _ [14, 15, 16, 17, 18, 19, 20, 21, 5, 22, 23, 24, 25, 26, 27, 28, 29, 30, 31, 32, 33, 34, 35, 36, 37, 38, 39, 40, 41, 42, 43, 44, 45, 46, 47, 48, 49, 50, 51, 52, 53, 54, 55, 56, 57, 58, 63, 64, 65, 66, 67, 68, 69, 70, 71, 72, 73, 74, 75, 76, 77] (by decide +kernel) (by decide +kernel)
set_option maxRecDepth 20000 in
theorem gX3_about_X3_aboutOf : GoodIn wsX3_about (wsV RX3 167 RX3 yX3_aboutOf wsX3_aboutOf) := goodIn_app (goodIn_of _ (by decide +kernel)) ggX3_about_X3_aboutOf
set_option maxRecDepth 20000 in
theorem ggX3_about_X3_fail : GoodIn wsX3_about wsX3_fail := goodIn_r _ [62, 1, 63, 64, 65, 66, 67, 68, 69, 70, 71, 72, 73, 74, 75, 76, 77] (by decide +kernel) (by decide +kernel)
set_option maxRecDepth 20000 in
theorem gX3_about_X3_fail : GoodIn wsX3_about (wsV RX3 128 RX3 yX3_fail wsX3_fail) := goodIn_app (goodIn_of _ (by decide +kernel)) ggX3_about_X3_fail
theorem dX3_about_0 : decode cX3_about 0 = .ok (.aload_n 0, 1) := by decide +kernel
theorem dX3_about_1 : decode cX3_about 1 = .ok (.iconst 0, 1) := by decide +kernel
theorem dX3_about_2 : decode cX3_about 2 = .ok (.putfield 48, 3) := by decide +kernel
theorem dX3_about_5 : decode cX3_about 5 = .ok (.aload_n 0, 1) := by decide +kernel
theorem dX3_about_6 : decode cX3_about 6 = .ok (.iload_n 1, 1) := by decide +kernel
theorem dX3_about_7 : decode cX3_about 7 = .ok (.invokevirtual 138, 3) := by decide +kernel
theorem dX3_about_10 : decode cX3_about 10 = .ok (.ifCond .eq 22, 3) := by decide +kernel
theorem dX3_about_13 : decode cX3_about 13 = .ok (.iload_n 2, 1) := by decide +kernel
theorem dX3_about_14 : decode cX3_about 14 = .ok (.iconst 0, 1) := by decide +kernel
theorem dX3_about_15 : decode cX3_about 15 = .ok (.bipush 7, 2) := by decide +kernel
theorem dX3_about_17 : decode cX3_about 17 = .ok (.invokestatic 52, 3) := by decide +kernel
theorem dX3_about_20 : decode cX3_about 20 = .ok (.ifCond .eq 12, 3) := by decide +kernel
theorem dX3_about_23 : decode cX3_about 23 = .ok (.aload_n 0, 1) := by decide +kernel
theorem dX3_about_24 : decode cX3_about 24 = .ok (.iload_n 1, 1) := by decide +kernel
theorem dX3_about_25 : decode cX3_about 25 = .ok (.iload_n 2, 1) := by decide +kernel
theorem dX3_about_26 : decode cX3_about 26 = .ok (.invokevirtual 167, 3) := by decide +kernel
theorem dX3_about_29 : decode cX3_about 29 = .ok (.goto 8, 3) := by decide +kernel
theorem dX3_about_32 : decode cX3_about 32 = .ok (.aload_n 0, 1) := by decide +kernel
theorem dX3_about_33 : decode cX3_about 33 = .ok (.iconst 1, 1) := by decide +kernel
theorem dX3_about_34 : decode cX3_about 34 = .ok (.invokevirtual 128, 3) := by decide +kernel
theorem dX3_about_37 : decode cX3_about 37 = .ok (.ireturn, 1) := by decide +kernel
set_option maxRecDepth 20000 in
theorem ggX3_asked_X3_isFold : GoodIn wsX3_asked wsX3_isFold := goodIn_r _ [11, 12, 13, 14, 10, 15, 16, 17, 18, 19, 20, 21, 22, 23, 24, 25, 26, 27, 28, 29, 30] (by decide +kernel) (by decide +kernel)
set_option maxRecDepth 20000 in
theorem gX3_asked_X3_isFold : GoodIn wsX3_asked (wsV RX3 138 RX3 yX3_isFold wsX3_isFold) := goodIn_app (goodIn_of _ (by decide +kernel)) ggX3_asked_X3_isFold
theorem dX3_asked_0 : decode cX3_asked 0 = .ok (.aload_n 0, 1) := by decide +kernel
theorem dX3_asked_1 : decode cX3_asked 1 = .ok (.aload_n 0, 1) := by decide +kernel
theorem dX3_asked_2 : decode cX3_asked 2 = .ok (.iload_n 1, 1) := by decide +kernel
theorem dX3_asked_3 : decode cX3_asked 3 = .ok (.invokevirtual 138, 3) := by decide +kernel
theorem dX3_asked_6 : decode cX3_asked 6 = .ok (.ifCond .eq 7, 3) := by decide +kernel
theorem dX3_asked_9 : decode cX3_asked 9 = .ok (.iconst 0, 1) := by decide +kernel
theorem dX3_asked_10 : decode cX3_asked 10 = .ok (.goto 4, 3) := by decide +kernel
theorem dX3_asked_13 : decode cX3_asked 13 = .ok (.iconst 1, 1) := by decide +kernel
theorem dX3_asked_14 : decode cX3_asked 14 = .ok (.putfield 48, 3) := by decide +kernel
theorem dX3_asked_17 : decode cX3_asked 17 = .ok (.aload_n 0, 1) := by decide +kernel
theorem dX3_asked_18 : decode cX3_asked 18 = .ok (.getfield 48, 3) := by decide +kernel
theorem dX3_asked_21 : decode cX3_asked 21 = .ok (.ifCond .eq 5, 3) := by decide +kernel
theorem dX3_asked_24 : decode cX3_asked 24 = .ok (.dconst 0, 1) := by decide +kernel
theorem dX3_asked_25 : decode cX3_asked 25 = .ok (.dreturn, 1) := by decide +kernel
theorem dX3_asked_26 : decode cX3_asked 26 = .ok (.iconst 0, 1) := by decide +kernel
theorem dX3_asked_27 : decode cX3_asked 27 = .ok (.istore_n 2, 1) := by decide +kernel
theorem dX3_asked_28 : decode cX3_asked 28 = .ok (.iconst 0, 1) := by decide +kernel
theorem dX3_asked_29 : decode cX3_asked 29 = .ok (.istore_n 3, 1) := by decide +kernel
theorem dX3_asked_30 : decode cX3_asked 30 = .ok (.iload_n 3, 1) := by decide +kernel
theorem dX3_asked_31 : decode cX3_asked 31 = .ok (.sipush 256, 3) := by decide +kernel
theorem dX3_asked_34 : decode cX3_asked 34 = .ok (.if_icmp .ge 62, 3) := by decide +kernel
theorem dX3_asked_37 : decode cX3_asked 37 = .ok (.aload_n 0, 1) := by decide +kernel
theorem dX3_asked_38 : decode cX3_asked 38 = .ok (.getfield 36, 3) := by decide +kernel
theorem dX3_asked_41 : decode cX3_asked 41 = .ok (.iload_n 1, 1) := by decide +kernel
theorem dX3_asked_42 : decode cX3_asked 42 = .ok (.iaload, 1) := by decide +kernel
theorem dX3_asked_43 : decode cX3_asked 43 = .ok (.istore 4, 2) := by decide +kernel
theorem dX3_asked_45 : decode cX3_asked 45 = .ok (.iload 4, 2) := by decide +kernel
theorem dX3_asked_47 : decode cX3_asked 47 = .ok (.ifCond .lt 43, 3) := by decide +kernel
theorem dX3_asked_50 : decode cX3_asked 50 = .ok (.iinc 2 1, 3) := by decide +kernel
theorem dX3_asked_53 : decode cX3_asked 53 = .ok (.iload_n 3, 1) := by decide +kernel
theorem dX3_asked_54 : decode cX3_asked 54 = .ok (.aload_n 0, 1) := by decide +kernel
theorem dX3_asked_55 : decode cX3_asked 55 = .ok (.getfield 24, 3) := by decide +kernel
theorem dX3_asked_58 : decode cX3_asked 58 = .ok (.iload 4, 2) := by decide +kernel
theorem dX3_asked_60 : decode cX3_asked 60 = .ok (.iaload, 1) := by decide +kernel
theorem dX3_asked_61 : decode cX3_asked 61 = .ok (.ishr, 1) := by decide +kernel
theorem dX3_asked_62 : decode cX3_asked 62 = .ok (.iconst 1, 1) := by decide +kernel
theorem dX3_asked_63 : decode cX3_asked 63 = .ok (.iand, 1) := by decide +kernel
theorem dX3_asked_64 : decode cX3_asked 64 = .ok (.iconst 1, 1) := by decide +kernel
theorem dX3_asked_65 : decode cX3_asked 65 = .ok (.if_icmp .ne 13, 3) := by decide +kernel
theorem dX3_asked_68 : decode cX3_asked 68 = .ok (.aload_n 0, 1) := by decide +kernel
theorem dX3_asked_69 : decode cX3_asked 69 = .ok (.getfield 30, 3) := by decide +kernel
theorem dX3_asked_72 : decode cX3_asked 72 = .ok (.iload 4, 2) := by decide +kernel
theorem dX3_asked_74 : decode cX3_asked 74 = .ok (.iaload, 1) := by decide +kernel
theorem dX3_asked_75 : decode cX3_asked 75 = .ok (.goto 10, 3) := by decide +kernel
theorem dX3_asked_78 : decode cX3_asked 78 = .ok (.aload_n 0, 1) := by decide +kernel
theorem dX3_asked_79 : decode cX3_asked 79 = .ok (.getfield 27, 3) := by decide +kernel
theorem dX3_asked_82 : decode cX3_asked 82 = .ok (.iload 4, 2) := by decide +kernel
theorem dX3_asked_84 : decode cX3_asked 84 = .ok (.iaload, 1) := by decide +kernel
theorem dX3_asked_85 : decode cX3_asked 85 = .ok (.istore 4, 2) := by decide +kernel
theorem dX3_asked_87 : decode cX3_asked 87 = .ok (.goto (-42), 3) := by decide +kernel
theorem dX3_asked_90 : decode cX3_asked 90 = .ok (.iinc 3 1, 3) := by decide +kernel
theorem dX3_asked_93 : decode cX3_asked 93 = .ok (.goto (-63), 3) := by decide +kernel
theorem dX3_asked_96 : decode cX3_asked 96 = .ok (.iload_n 2, 1) := by decide +kernel
theorem dX3_asked_97 : decode cX3_asked 97 = .ok (.i2d, 1) := by decide +kernel
theorem dX3_asked_98 : decode cX3_asked 98 = .ok (.ldc2_w 170, 3) := by decide +kernel
theorem dX3_asked_101 : decode cX3_asked 101 = .ok (.ddiv, 1) := by decide +kernel
theorem dX3_asked_102 : decode cX3_asked 102 = .ok (.dreturn, 1) := by decide +kernel
set_option maxRecDepth 20000 in
theorem ggX3_compare_X3_isFold : GoodIn wsX3_compare wsX3_isFold := goodIn_r _ [8, 9, 10, 11, 7, 12, 17, 18, 19, 20, 21, 22, 23, 24, 25, 26, 27, 28, 29, 30, 31] (by decide +kernel) (by decide +kernel)
set_option maxRecDepth 20000 in
theorem gX3_compare_X3_isFold : GoodIn wsX3_compare (wsV RX3 138 RX3 yX3_isFold wsX3_isFold) := goodIn_app (goodIn_of _ (by decide +kernel)) ggX3_compare_X3_isFold
set_option maxRecDepth 20000 in
theorem ggX3_compare_X3_fail : GoodIn wsX3_compare wsX3_fail := goodIn_r _ [16, 1, 17, 18, 19, 20, 21, 22, 23, 24, 25, 26, 27, 28, 29, 30, 31] (by decide +kernel) (by decide +kernel)
set_option maxRecDepth 20000 in
theorem gX3_compare_X3_fail : GoodIn wsX3_compare (wsV RX3 128 RX3 yX3_fail wsX3_fail) := goodIn_app (goodIn_of _ (by decide +kernel)) ggX3_compare_X3_fail
theorem dX3_compare_0 : decode cX3_compare 0 = .ok (.aload_n 0, 1) := by decide +kernel
theorem dX3_compare_1 : decode cX3_compare 1 = .ok (.iconst 0, 1) := by decide +kernel
theorem dX3_compare_2 : decode cX3_compare 2 = .ok (.putfield 48, 3) := by decide +kernel
theorem dX3_compare_5 : decode cX3_compare 5 = .ok (.aload_n 0, 1) := by decide +kernel
theorem dX3_compare_6 : decode cX3_compare 6 = .ok (.iload_n 1, 1) := by decide +kernel
theorem dX3_compare_7 : decode cX3_compare 7 = .ok (.invokevirtual 138, 3) := by decide +kernel
theorem dX3_compare_10 : decode cX3_compare 10 = .ok (.ifCond .eq 11, 3) := by decide +kernel
theorem dX3_compare_13 : decode cX3_compare 13 = .ok (.aload_n 0, 1) := by decide +kernel
theorem dX3_compare_14 : decode cX3_compare 14 = .ok (.iload_n 2, 1) := by decide +kernel
theorem dX3_compare_15 : decode cX3_compare 15 = .ok (.invokevirtual 138, 3) := by decide +kernel
theorem dX3_compare_18 : decode cX3_compare 18 = .ok (.ifCond .ne 9, 3) := by decide +kernel
theorem dX3_compare_21 : decode cX3_compare 21 = .ok (.aload_n 0, 1) := by decide +kernel
theorem dX3_compare_22 : decode cX3_compare 22 = .ok (.iconst 1, 1) := by decide +kernel
theorem dX3_compare_23 : decode cX3_compare 23 = .ok (.invokevirtual 128, 3) := by decide +kernel
theorem dX3_compare_26 : decode cX3_compare 26 = .ok (.ireturn, 1) := by decide +kernel
theorem dX3_compare_27 : decode cX3_compare 27 = .ok (.lconst 0, 1) := by decide +kernel
theorem dX3_compare_28 : decode cX3_compare 28 = .ok (.lstore_n 3, 1) := by decide +kernel
theorem dX3_compare_29 : decode cX3_compare 29 = .ok (.lconst 0, 1) := by decide +kernel
theorem dX3_compare_30 : decode cX3_compare 30 = .ok (.lstore 5, 2) := by decide +kernel
theorem dX3_compare_32 : decode cX3_compare 32 = .ok (.lconst 0, 1) := by decide +kernel
theorem dX3_compare_33 : decode cX3_compare 33 = .ok (.lstore 7, 2) := by decide +kernel
theorem dX3_compare_35 : decode cX3_compare 35 = .ok (.iconst 0, 1) := by decide +kernel
theorem dX3_compare_36 : decode cX3_compare 36 = .ok (.istore 9, 2) := by decide +kernel
theorem dX3_compare_38 : decode cX3_compare 38 = .ok (.iload 9, 2) := by decide +kernel
theorem dX3_compare_40 : decode cX3_compare 40 = .ok (.iconst 4, 1) := by decide +kernel
theorem dX3_compare_41 : decode cX3_compare 41 = .ok (.if_icmp .ge 71, 3) := by decide +kernel
theorem dX3_compare_44 : decode cX3_compare 44 = .ok (.aload_n 0, 1) := by decide +kernel
theorem dX3_compare_45 : decode cX3_compare 45 = .ok (.getfield 13, 3) := by decide +kernel
theorem dX3_compare_48 : decode cX3_compare 48 = .ok (.iconst 4, 1) := by decide +kernel
theorem dX3_compare_49 : decode cX3_compare 49 = .ok (.iload_n 1, 1) := by decide +kernel
theorem dX3_compare_50 : decode cX3_compare 50 = .ok (.imul, 1) := by decide +kernel
theorem dX3_compare_51 : decode cX3_compare 51 = .ok (.iload 9, 2) := by decide +kernel
theorem dX3_compare_53 : decode cX3_compare 53 = .ok (.iadd, 1) := by decide +kernel
theorem dX3_compare_54 : decode cX3_compare 54 = .ok (.laload, 1) := by decide +kernel
theorem dX3_compare_55 : decode cX3_compare 55 = .ok (.lstore 10, 2) := by decide +kernel
theorem dX3_compare_57 : decode cX3_compare 57 = .ok (.aload_n 0, 1) := by decide +kernel
theorem dX3_compare_58 : decode cX3_compare 58 = .ok (.getfield 13, 3) := by decide +kernel
theorem dX3_compare_61 : decode cX3_compare 61 = .ok (.iconst 4, 1) := by decide +kernel
theorem dX3_compare_62 : decode cX3_compare 62 = .ok (.iload_n 2, 1) := by decide +kernel
theorem dX3_compare_63 : decode cX3_compare 63 = .ok (.imul, 1) := by decide +kernel
theorem dX3_compare_64 : decode cX3_compare 64 = .ok (.iload 9, 2) := by decide +kernel
theorem dX3_compare_66 : decode cX3_compare 66 = .ok (.iadd, 1) := by decide +kernel
theorem dX3_compare_67 : decode cX3_compare 67 = .ok (.laload, 1) := by decide +kernel
theorem dX3_compare_68 : decode cX3_compare 68 = .ok (.lstore 12, 2) := by decide +kernel
theorem dX3_compare_70 : decode cX3_compare 70 = .ok (.lload_n 3, 1) := by decide +kernel
theorem dX3_compare_71 : decode cX3_compare 71 = .ok (.lload 10, 2) := by decide +kernel
theorem dX3_compare_73 : decode cX3_compare 73 = .ok (.lload 12, 2) := by decide +kernel
theorem dX3_compare_75 : decode cX3_compare 75 = .ok (.ldc2_w 56, 3) := by decide +kernel
theorem dX3_compare_78 : decode cX3_compare 78 = .ok (.lxor, 1) := by decide +kernel
theorem dX3_compare_79 : decode cX3_compare 79 = .ok (.land, 1) := by decide +kernel
theorem dX3_compare_80 : decode cX3_compare 80 = .ok (.lor, 1) := by decide +kernel
theorem dX3_compare_81 : decode cX3_compare 81 = .ok (.lstore_n 3, 1) := by decide +kernel
theorem dX3_compare_82 : decode cX3_compare 82 = .ok (.lload 5, 2) := by decide +kernel
theorem dX3_compare_84 : decode cX3_compare 84 = .ok (.lload 12, 2) := by decide +kernel
theorem dX3_compare_86 : decode cX3_compare 86 = .ok (.lload 10, 2) := by decide +kernel
theorem dX3_compare_88 : decode cX3_compare 88 = .ok (.ldc2_w 56, 3) := by decide +kernel
theorem dX3_compare_91 : decode cX3_compare 91 = .ok (.lxor, 1) := by decide +kernel
theorem dX3_compare_92 : decode cX3_compare 92 = .ok (.land, 1) := by decide +kernel
theorem dX3_compare_93 : decode cX3_compare 93 = .ok (.lor, 1) := by decide +kernel
theorem dX3_compare_94 : decode cX3_compare 94 = .ok (.lstore 5, 2) := by decide +kernel
theorem dX3_compare_96 : decode cX3_compare 96 = .ok (.lload 7, 2) := by decide +kernel
theorem dX3_compare_98 : decode cX3_compare 98 = .ok (.lload 10, 2) := by decide +kernel
theorem dX3_compare_100 : decode cX3_compare 100 = .ok (.lload 12, 2) := by decide +kernel
theorem dX3_compare_102 : decode cX3_compare 102 = .ok (.land, 1) := by decide +kernel
theorem dX3_compare_103 : decode cX3_compare 103 = .ok (.lor, 1) := by decide +kernel
theorem dX3_compare_104 : decode cX3_compare 104 = .ok (.lstore 7, 2) := by decide +kernel
theorem dX3_compare_106 : decode cX3_compare 106 = .ok (.iinc 9 1, 3) := by decide +kernel
theorem dX3_compare_109 : decode cX3_compare 109 = .ok (.goto (-71), 3) := by decide +kernel
theorem dX3_compare_112 : decode cX3_compare 112 = .ok (.lload_n 3, 1) := by decide +kernel
theorem dX3_compare_113 : decode cX3_compare 113 = .ok (.lconst 0, 1) := by decide +kernel
theorem dX3_compare_114 : decode cX3_compare 114 = .ok (.lcmp, 1) := by decide +kernel
theorem dX3_compare_115 : decode cX3_compare 115 = .ok (.ifCond .ne 18, 3) := by decide +kernel
theorem dX3_compare_118 : decode cX3_compare 118 = .ok (.lload 5, 2) := by decide +kernel
theorem dX3_compare_120 : decode cX3_compare 120 = .ok (.lconst 0, 1) := by decide +kernel
theorem dX3_compare_121 : decode cX3_compare 121 = .ok (.lcmp, 1) := by decide +kernel
theorem dX3_compare_122 : decode cX3_compare 122 = .ok (.ifCond .ne 7, 3) := by decide +kernel
theorem dX3_compare_125 : decode cX3_compare 125 = .ok (.iconst 0, 1) := by decide +kernel
theorem dX3_compare_126 : decode cX3_compare 126 = .ok (.goto 30, 3) := by decide +kernel
theorem dX3_compare_129 : decode cX3_compare 129 = .ok (.iconst 1, 1) := by decide +kernel
theorem dX3_compare_130 : decode cX3_compare 130 = .ok (.goto 26, 3) := by decide +kernel
theorem dX3_compare_133 : decode cX3_compare 133 = .ok (.lload 5, 2) := by decide +kernel
theorem dX3_compare_135 : decode cX3_compare 135 = .ok (.lconst 0, 1) := by decide +kernel
theorem dX3_compare_136 : decode cX3_compare 136 = .ok (.lcmp, 1) := by decide +kernel
theorem dX3_compare_137 : decode cX3_compare 137 = .ok (.ifCond .ne 7, 3) := by decide +kernel
theorem dX3_compare_140 : decode cX3_compare 140 = .ok (.iconst 2, 1) := by decide +kernel
theorem dX3_compare_141 : decode cX3_compare 141 = .ok (.goto 15, 3) := by decide +kernel
theorem dX3_compare_144 : decode cX3_compare 144 = .ok (.lload 7, 2) := by decide +kernel
theorem dX3_compare_146 : decode cX3_compare 146 = .ok (.lconst 0, 1) := by decide +kernel
theorem dX3_compare_147 : decode cX3_compare 147 = .ok (.lcmp, 1) := by decide +kernel
theorem dX3_compare_148 : decode cX3_compare 148 = .ok (.ifCond .ne 7, 3) := by decide +kernel
theorem dX3_compare_151 : decode cX3_compare 151 = .ok (.iconst 3, 1) := by decide +kernel
theorem dX3_compare_152 : decode cX3_compare 152 = .ok (.goto 4, 3) := by decide +kernel
theorem dX3_compare_155 : decode cX3_compare 155 = .ok (.iconst 4, 1) := by decide +kernel
theorem dX3_compare_156 : decode cX3_compare 156 = .ok (.ireturn, 1) := by decide +kernel
set_option maxRecDepth 20000 in
theorem ggX3_counted_X3_folds : GoodIn wsX3_counted wsX3_folds := goodIn_r _ [10, 2, 28, 29, 30, 31, 32, 33, 34, 35, 36, 37, 38, 39, 40, 41, 42] (by decide +kernel) (by decide +kernel)
set_option maxRecDepth 20000 in
theorem gX3_counted_X3_folds : GoodIn wsX3_counted (wsV RX3 145 RX3 yX3_folds wsX3_folds) := goodIn_app (goodIn_of _ (by decide +kernel)) ggX3_counted_X3_folds
set_option maxRecDepth 20000 in
theorem ggX3_counted_X3_all : GoodIn wsX3_counted wsX3_all := goodIn_r _ [14, 5, 15, 16, 17, 18, 9, 19, 1, 20, 21, 22, 23, 24, 25, 26, 27, 28, 29, 30, 31, 32, 33, 34, 35, 36, 37, 38, 39, 40, 41, 42] (by decide +kernel) (by decide +kernel)
set_option maxRecDepth 20000 in
theorem gX3_counted_X3_all : GoodIn wsX3_counted (wsV RX3 161 RX3 yX3_all wsX3_all) := goodIn_app (goodIn_of _ (by decide +kernel)) ggX3_counted_X3_all
theorem dX3_counted_0 : decode cX3_counted 0 = .ok (.iconst 0, 1) := by decide +kernel
theorem dX3_counted_1 : decode cX3_counted 1 = .ok (.istore_n 2, 1) := by decide +kernel
theorem dX3_counted_2 : decode cX3_counted 2 = .ok (.iload_n 1, 1) := by decide +kernel
theorem dX3_counted_3 : decode cX3_counted 3 = .ok (.tableswitch 117 0 3 #[29, 34, 39, 76], 29) := by decide +kernel
theorem dX3_counted_32 : decode cX3_counted 32 = .ok (.aload_n 0, 1) := by decide +kernel
theorem dX3_counted_33 : decode cX3_counted 33 = .ok (.invokevirtual 145, 3) := by decide +kernel
theorem dX3_counted_36 : decode cX3_counted 36 = .ok (.ireturn, 1) := by decide +kernel
theorem dX3_counted_37 : decode cX3_counted 37 = .ok (.aload_n 0, 1) := by decide +kernel
theorem dX3_counted_38 : decode cX3_counted 38 = .ok (.getfield 66, 3) := by decide +kernel
theorem dX3_counted_41 : decode cX3_counted 41 = .ok (.ireturn, 1) := by decide +kernel
theorem dX3_counted_42 : decode cX3_counted 42 = .ok (.iconst 0, 1) := by decide +kernel
theorem dX3_counted_43 : decode cX3_counted 43 = .ok (.istore_n 3, 1) := by decide +kernel
theorem dX3_counted_44 : decode cX3_counted 44 = .ok (.iload_n 3, 1) := by decide +kernel
theorem dX3_counted_45 : decode cX3_counted 45 = .ok (.bipush 12, 2) := by decide +kernel
theorem dX3_counted_47 : decode cX3_counted 47 = .ok (.if_icmp .ge 30, 3) := by decide +kernel
theorem dX3_counted_50 : decode cX3_counted 50 = .ok (.iload_n 2, 1) := by decide +kernel
theorem dX3_counted_51 : decode cX3_counted 51 = .ok (.aload_n 0, 1) := by decide +kernel
theorem dX3_counted_52 : decode cX3_counted 52 = .ok (.getfield 9, 3) := by decide +kernel
theorem dX3_counted_55 : decode cX3_counted 55 = .ok (.iload_n 3, 1) := by decide +kernel
theorem dX3_counted_56 : decode cX3_counted 56 = .ok (.baload, 1) := by decide +kernel
theorem dX3_counted_57 : decode cX3_counted 57 = .ok (.ifCond .eq 11, 3) := by decide +kernel
theorem dX3_counted_60 : decode cX3_counted 60 = .ok (.aload_n 0, 1) := by decide +kernel
theorem dX3_counted_61 : decode cX3_counted 61 = .ok (.iload_n 3, 1) := by decide +kernel
theorem dX3_counted_62 : decode cX3_counted 62 = .ok (.invokevirtual 161, 3) := by decide +kernel
theorem dX3_counted_65 : decode cX3_counted 65 = .ok (.goto 4, 3) := by decide +kernel
theorem dX3_counted_68 : decode cX3_counted 68 = .ok (.iconst 0, 1) := by decide +kernel
theorem dX3_counted_69 : decode cX3_counted 69 = .ok (.iadd, 1) := by decide +kernel
theorem dX3_counted_70 : decode cX3_counted 70 = .ok (.istore_n 2, 1) := by decide +kernel
theorem dX3_counted_71 : decode cX3_counted 71 = .ok (.iinc 3 1, 3) := by decide +kernel
theorem dX3_counted_74 : decode cX3_counted 74 = .ok (.goto (-30), 3) := by decide +kernel
theorem dX3_counted_77 : decode cX3_counted 77 = .ok (.iload_n 2, 1) := by decide +kernel
theorem dX3_counted_78 : decode cX3_counted 78 = .ok (.ireturn, 1) := by decide +kernel
theorem dX3_counted_79 : decode cX3_counted 79 = .ok (.iconst 0, 1) := by decide +kernel
theorem dX3_counted_80 : decode cX3_counted 80 = .ok (.istore_n 3, 1) := by decide +kernel
theorem dX3_counted_81 : decode cX3_counted 81 = .ok (.iload_n 3, 1) := by decide +kernel
theorem dX3_counted_82 : decode cX3_counted 82 = .ok (.aload_n 0, 1) := by decide +kernel
theorem dX3_counted_83 : decode cX3_counted 83 = .ok (.getfield 66, 3) := by decide +kernel
theorem dX3_counted_86 : decode cX3_counted 86 = .ok (.if_icmp .ge 32, 3) := by decide +kernel
theorem dX3_counted_89 : decode cX3_counted 89 = .ok (.iload_n 2, 1) := by decide +kernel
theorem dX3_counted_90 : decode cX3_counted 90 = .ok (.aload_n 0, 1) := by decide +kernel
theorem dX3_counted_91 : decode cX3_counted 91 = .ok (.getfield 24, 3) := by decide +kernel
theorem dX3_counted_94 : decode cX3_counted 94 = .ok (.iload_n 3, 1) := by decide +kernel
theorem dX3_counted_95 : decode cX3_counted 95 = .ok (.iaload, 1) := by decide +kernel
theorem dX3_counted_96 : decode cX3_counted 96 = .ok (.aload_n 0, 1) := by decide +kernel
theorem dX3_counted_97 : decode cX3_counted 97 = .ok (.getfield 17, 3) := by decide +kernel
theorem dX3_counted_100 : decode cX3_counted 100 = .ok (.iconst 0, 1) := by decide +kernel
theorem dX3_counted_101 : decode cX3_counted 101 = .ok (.iaload, 1) := by decide +kernel
theorem dX3_counted_102 : decode cX3_counted 102 = .ok (.if_icmp .ne 7, 3) := by decide +kernel
theorem dX3_counted_105 : decode cX3_counted 105 = .ok (.iconst 1, 1) := by decide +kernel
theorem dX3_counted_106 : decode cX3_counted 106 = .ok (.goto 4, 3) := by decide +kernel
theorem dX3_counted_109 : decode cX3_counted 109 = .ok (.iconst 0, 1) := by decide +kernel
theorem dX3_counted_110 : decode cX3_counted 110 = .ok (.iadd, 1) := by decide +kernel
theorem dX3_counted_111 : decode cX3_counted 111 = .ok (.istore_n 2, 1) := by decide +kernel
theorem dX3_counted_112 : decode cX3_counted 112 = .ok (.iinc 3 1, 3) := by decide +kernel
theorem dX3_counted_115 : decode cX3_counted 115 = .ok (.goto (-34), 3) := by decide +kernel
theorem dX3_counted_118 : decode cX3_counted 118 = .ok (.iload_n 2, 1) := by decide +kernel
theorem dX3_counted_119 : decode cX3_counted 119 = .ok (.ireturn, 1) := by decide +kernel
theorem dX3_counted_120 : decode cX3_counted 120 = .ok (.iconst 0, 1) := by decide +kernel
theorem dX3_counted_121 : decode cX3_counted 121 = .ok (.istore_n 3, 1) := by decide +kernel
theorem dX3_counted_122 : decode cX3_counted 122 = .ok (.iload_n 3, 1) := by decide +kernel
theorem dX3_counted_123 : decode cX3_counted 123 = .ok (.bipush 12, 2) := by decide +kernel
theorem dX3_counted_125 : decode cX3_counted 125 = .ok (.if_icmp .ge 35, 3) := by decide +kernel
theorem dX3_counted_128 : decode cX3_counted 128 = .ok (.iload_n 2, 1) := by decide +kernel
theorem dX3_counted_129 : decode cX3_counted 129 = .ok (.aload_n 0, 1) := by decide +kernel
theorem dX3_counted_130 : decode cX3_counted 130 = .ok (.getfield 9, 3) := by decide +kernel
theorem dX3_counted_133 : decode cX3_counted 133 = .ok (.iload_n 3, 1) := by decide +kernel
theorem dX3_counted_134 : decode cX3_counted 134 = .ok (.baload, 1) := by decide +kernel
theorem dX3_counted_135 : decode cX3_counted 135 = .ok (.ifCond .eq 16, 3) := by decide +kernel
theorem dX3_counted_138 : decode cX3_counted 138 = .ok (.aload_n 0, 1) := by decide +kernel
theorem dX3_counted_139 : decode cX3_counted 139 = .ok (.getfield 36, 3) := by decide +kernel
theorem dX3_counted_142 : decode cX3_counted 142 = .ok (.iload_n 3, 1) := by decide +kernel
theorem dX3_counted_143 : decode cX3_counted 143 = .ok (.iaload, 1) := by decide +kernel
theorem dX3_counted_144 : decode cX3_counted 144 = .ok (.ifCond .ge 7, 3) := by decide +kernel
theorem dX3_counted_147 : decode cX3_counted 147 = .ok (.iconst 1, 1) := by decide +kernel
theorem dX3_counted_148 : decode cX3_counted 148 = .ok (.goto 4, 3) := by decide +kernel
theorem dX3_counted_151 : decode cX3_counted 151 = .ok (.iconst 0, 1) := by decide +kernel
theorem dX3_counted_152 : decode cX3_counted 152 = .ok (.iadd, 1) := by decide +kernel
theorem dX3_counted_153 : decode cX3_counted 153 = .ok (.istore_n 2, 1) := by decide +kernel
theorem dX3_counted_154 : decode cX3_counted 154 = .ok (.iinc 3 1, 3) := by decide +kernel
theorem dX3_counted_157 : decode cX3_counted 157 = .ok (.goto (-35), 3) := by decide +kernel
theorem dX3_counted_160 : decode cX3_counted 160 = .ok (.iload_n 2, 1) := by decide +kernel
theorem dX3_counted_161 : decode cX3_counted 161 = .ok (.ireturn, 1) := by decide +kernel
set_option maxRecDepth 20000 in
theorem ggX3_count_X3_isIn : GoodIn wsX3_count wsX3_isIn := goodIn_r _ [5] (by decide +kernel) (by decide +kernel)
set_option maxRecDepth 20000 in
theorem gX3_count_X3_isIn : GoodIn wsX3_count (va_wsS RX3 52 yX3_isIn wsX3_isIn) := goodIn_app (goodIn_of _ (by decide +kernel)) ggX3_count_X3_isIn
set_option maxRecDepth 20000 in
theorem ggX3_count_X3_counted : GoodIn wsX3_count wsX3_counted := goodIn_r _ [9, 10, 11, 12, 13, 14, 15, 16, 17, 4, 18, 19, 20, 21, 22, 23, 24, 25, 26, 27, 28, 29, 30, 31, 32, 33, 34, 35, 40, 41, 42, 43, 44, 45, 46, 47, 48, 49, 50, 51, 52, 53, 54] (by decide +kernel) (by decide +kernel)
set_option maxRecDepth 20000 in
theorem gX3_count_X3_counted : GoodIn wsX3_count (wsV RX3 172 RX3 yX3_counted wsX3_counted) := goodIn_app (goodIn_of _ (by decide +kernel)) ggX3_count_X3_counted
set_option maxRecDepth 20000 in
theorem ggX3_count_X3_fail : GoodIn wsX3_count wsX3_fail := goodIn_r _ [39, 1, 40, 41, 42, 43, 44, 45, 46, 47, 48, 49, 50, 51, 52, 53, 54] (by decide +kernel) (by decide +kernel)
set_option maxRecDepth 20000 in
theorem gX3_count_X3_fail : GoodIn wsX3_count (wsV RX3 128 RX3 yX3_fail wsX3_fail) := goodIn_app (goodIn_of _ (by decide +kernel)) ggX3_count_X3_fail
theorem dX3_count_0 : decode cX3_count 0 = .ok (.aload_n 0, 1) := by decide +kernel
theorem dX3_count_1 : decode cX3_count 1 = .ok (.iconst 0, 1) := by decide +kernel
theorem dX3_count_2 : decode cX3_count 2 = .ok (.putfield 48, 3) := by decide +kernel
theorem dX3_count_5 : decode cX3_count 5 = .ok (.iload_n 1, 1) := by decide +kernel
theorem dX3_count_6 : decode cX3_count 6 = .ok (.iconst 0, 1) := by decide +kernel
theorem dX3_count_7 : decode cX3_count 7 = .ok (.iconst 4, 1) := by decide +kernel
theorem dX3_count_8 : decode cX3_count 8 = .ok (.invokestatic 52, 3) := by decide +kernel
theorem dX3_count_11 : decode cX3_count 11 = .ok (.ifCond .eq 11, 3) := by decide +kernel
theorem dX3_count_14 : decode cX3_count 14 = .ok (.aload_n 0, 1) := by decide +kernel
theorem dX3_count_15 : decode cX3_count 15 = .ok (.iload_n 1, 1) := by decide +kernel
theorem dX3_count_16 : decode cX3_count 16 = .ok (.invokevirtual 172, 3) := by decide +kernel
theorem dX3_count_19 : decode cX3_count 19 = .ok (.goto 8, 3) := by decide +kernel
theorem dX3_count_22 : decode cX3_count 22 = .ok (.aload_n 0, 1) := by decide +kernel
theorem dX3_count_23 : decode cX3_count 23 = .ok (.iconst 1, 1) := by decide +kernel
theorem dX3_count_24 : decode cX3_count 24 = .ok (.invokevirtual 128, 3) := by decide +kernel
theorem dX3_count_27 : decode cX3_count 27 = .ok (.ireturn, 1) := by decide +kernel
set_option maxRecDepth 20000 in
theorem ggX3_has_X3_isIn : GoodIn wsX3_has wsX3_isIn := goodIn_r _ [6] (by decide +kernel) (by decide +kernel)
set_option maxRecDepth 20000 in
theorem gX3_has_X3_isIn : GoodIn wsX3_has (va_wsS RX3 52 yX3_isIn wsX3_isIn) := goodIn_app (goodIn_of _ (by decide +kernel)) ggX3_has_X3_isIn
theorem dX3_has_0 : decode cX3_has 0 = .ok (.aload_n 0, 1) := by decide +kernel
theorem dX3_has_1 : decode cX3_has 1 = .ok (.iload_n 1, 1) := by decide +kernel
theorem dX3_has_2 : decode cX3_has 2 = .ok (.iconst 0, 1) := by decide +kernel
theorem dX3_has_3 : decode cX3_has 3 = .ok (.bipush 11, 2) := by decide +kernel
theorem dX3_has_5 : decode cX3_has 5 = .ok (.invokestatic 52, 3) := by decide +kernel
theorem dX3_has_8 : decode cX3_has 8 = .ok (.ifCond .eq 7, 3) := by decide +kernel
theorem dX3_has_11 : decode cX3_has 11 = .ok (.iconst 0, 1) := by decide +kernel
theorem dX3_has_12 : decode cX3_has 12 = .ok (.goto 4, 3) := by decide +kernel
theorem dX3_has_15 : decode cX3_has 15 = .ok (.iconst 1, 1) := by decide +kernel
theorem dX3_has_16 : decode cX3_has 16 = .ok (.putfield 48, 3) := by decide +kernel
theorem dX3_has_19 : decode cX3_has 19 = .ok (.aload_n 0, 1) := by decide +kernel
theorem dX3_has_20 : decode cX3_has 20 = .ok (.getfield 48, 3) := by decide +kernel
theorem dX3_has_23 : decode cX3_has 23 = .ok (.ifCond .ne 16, 3) := by decide +kernel
theorem dX3_has_26 : decode cX3_has 26 = .ok (.aload_n 0, 1) := by decide +kernel
theorem dX3_has_27 : decode cX3_has 27 = .ok (.getfield 9, 3) := by decide +kernel
theorem dX3_has_30 : decode cX3_has 30 = .ok (.iload_n 1, 1) := by decide +kernel
theorem dX3_has_31 : decode cX3_has 31 = .ok (.baload, 1) := by decide +kernel
theorem dX3_has_32 : decode cX3_has 32 = .ok (.ifCond .eq 7, 3) := by decide +kernel
theorem dX3_has_35 : decode cX3_has 35 = .ok (.iconst 1, 1) := by decide +kernel
theorem dX3_has_36 : decode cX3_has 36 = .ok (.goto 4, 3) := by decide +kernel
theorem dX3_has_39 : decode cX3_has 39 = .ok (.iconst 0, 1) := by decide +kernel
theorem dX3_has_40 : decode cX3_has 40 = .ok (.ireturn, 1) := by decide +kernel
set_option maxRecDepth 20000 in
theorem ggX3_advise_X3_exchange : GoodIn wsX3_advise wsX3_exchange := goodIn_r _ [7, 8, 9, 10, 11, 6, 12, 2, 13, 14, 15, 16, 17, 18, 19, 20, 21, 22, 23, 24, 25, 26, 27, 28, 29, 30, 31, 32, 33, 34, 35, 36, 37, 38, 39, 40, 41, 42, 43, 44, 45, 46, 47, 48, 49, 50, 51, 52, 53, 54, 55, 56, 57, 58, 59, 60, 61, 62, 63, 64, 65] (by decide +kernel) (by decide +kernel)
set_option maxRecDepth 20000 in
theorem gX3_advise_X3_exchange : GoodIn wsX3_advise (wsV RX3 148 RX3 yX3_exchange wsX3_exchange) := goodIn_app (goodIn_of _ (by decide +kernel)) ggX3_advise_X3_exchange
theorem dX3_advise_0 : decode cX3_advise 0 = .ok (.aload_n 0, 1) := by decide +kernel
theorem dX3_advise_1 : decode cX3_advise 1 = .ok (.iconst 0, 1) := by decide +kernel
theorem dX3_advise_2 : decode cX3_advise 2 = .ok (.putfield 48, 3) := by decide +kernel
theorem dX3_advise_5 : decode cX3_advise 5 = .ok (.aload_n 0, 1) := by decide +kernel
theorem dX3_advise_6 : decode cX3_advise 6 = .ok (.getfield 66, 3) := by decide +kernel
theorem dX3_advise_9 : decode cX3_advise 9 = .ok (.istore_n 1, 1) := by decide +kernel
theorem dX3_advise_10 : decode cX3_advise 10 = .ok (.iconst (-1), 1) := by decide +kernel
theorem dX3_advise_11 : decode cX3_advise 11 = .ok (.istore_n 2, 1) := by decide +kernel
theorem dX3_advise_12 : decode cX3_advise 12 = .ok (.iconst 0, 1) := by decide +kernel
theorem dX3_advise_13 : decode cX3_advise 13 = .ok (.istore_n 3, 1) := by decide +kernel
theorem dX3_advise_14 : decode cX3_advise 14 = .ok (.iload_n 3, 1) := by decide +kernel
theorem dX3_advise_15 : decode cX3_advise 15 = .ok (.bipush 7, 2) := by decide +kernel
theorem dX3_advise_17 : decode cX3_advise 17 = .ok (.if_icmp .ge 39, 3) := by decide +kernel
theorem dX3_advise_20 : decode cX3_advise 20 = .ok (.aload_n 0, 1) := by decide +kernel
theorem dX3_advise_21 : decode cX3_advise 21 = .ok (.iload_n 3, 1) := by decide +kernel
theorem dX3_advise_22 : decode cX3_advise 22 = .ok (.invokevirtual 148, 3) := by decide +kernel
theorem dX3_advise_25 : decode cX3_advise 25 = .ok (.aload_n 0, 1) := by decide +kernel
theorem dX3_advise_26 : decode cX3_advise 26 = .ok (.getfield 66, 3) := by decide +kernel
theorem dX3_advise_29 : decode cX3_advise 29 = .ok (.istore 4, 2) := by decide +kernel
theorem dX3_advise_31 : decode cX3_advise 31 = .ok (.aload_n 0, 1) := by decide +kernel
theorem dX3_advise_32 : decode cX3_advise 32 = .ok (.iload_n 3, 1) := by decide +kernel
theorem dX3_advise_33 : decode cX3_advise 33 = .ok (.invokevirtual 148, 3) := by decide +kernel
theorem dX3_advise_36 : decode cX3_advise 36 = .ok (.iload 4, 2) := by decide +kernel
theorem dX3_advise_38 : decode cX3_advise 38 = .ok (.iload_n 1, 1) := by decide +kernel
theorem dX3_advise_39 : decode cX3_advise 39 = .ok (.if_icmp .lt 6, 3) := by decide +kernel
theorem dX3_advise_42 : decode cX3_advise 42 = .ok (.goto 8, 3) := by decide +kernel
theorem dX3_advise_45 : decode cX3_advise 45 = .ok (.iload_n 3, 1) := by decide +kernel
theorem dX3_advise_46 : decode cX3_advise 46 = .ok (.istore_n 2, 1) := by decide +kernel
theorem dX3_advise_47 : decode cX3_advise 47 = .ok (.iload 4, 2) := by decide +kernel
theorem dX3_advise_49 : decode cX3_advise 49 = .ok (.istore_n 1, 1) := by decide +kernel
theorem dX3_advise_50 : decode cX3_advise 50 = .ok (.iinc 3 1, 3) := by decide +kernel
theorem dX3_advise_53 : decode cX3_advise 53 = .ok (.goto (-39), 3) := by decide +kernel
theorem dX3_advise_56 : decode cX3_advise 56 = .ok (.iload_n 2, 1) := by decide +kernel
theorem dX3_advise_57 : decode cX3_advise 57 = .ok (.ireturn, 1) := by decide +kernel
set_option maxRecDepth 20000 in
theorem ggX3_would_X3_isFold : GoodIn wsX3_would wsX3_isFold := goodIn_r _ [10, 11, 12, 13, 9, 14, 63, 64, 65, 66, 67, 68, 69, 70, 71, 72, 73, 74, 75, 76, 77] (by decide +kernel) (by decide +kernel)
set_option maxRecDepth 20000 in
theorem gX3_would_X3_isFold : GoodIn wsX3_would (wsV RX3 138 RX3 yX3_isFold wsX3_isFold) := goodIn_app (goodIn_of _ (by decide +kernel)) ggX3_would_X3_isFold
set_option maxRecDepth 20000 in
theorem ggX3_would_X3_isIn : GoodIn wsX3_would wsX3_isIn := goodIn_r _ [14] (by decide +kernel) (by decide +kernel)
set_option maxRecDepth 20000 in
theorem gX3_would_X3_isIn : GoodIn wsX3_would (va_wsS RX3 52 yX3_isIn wsX3_isIn) := goodIn_app (goodIn_of _ (by decide +kernel)) ggX3_would_X3_isIn
set_option maxRecDepth 20000 in
theorem ggX3_would_X3_fail : GoodIn wsX3_would wsX3_fail := goodIn_r _ [18, 1, 63, 64, 65, 66, 67, 68, 69, 70, 71, 72, 73, 74, 75, 76, 77] (by decide +kernel) (by decide +kernel)
set_option maxRecDepth 20000 in
theorem gX3_would_X3_fail : GoodIn wsX3_would (wsV RX3 128 RX3 yX3_fail wsX3_fail) := goodIn_app (goodIn_of _ (by decide +kernel)) ggX3_would_X3_fail
set_option maxRecDepth 20000 in
theorem ggX3_would_X3_joined : GoodIn wsX3_would wsX3_joined := goodIn_r _ [21, 22] (by decide +kernel) (by decide +kernel)
set_option maxRecDepth 20000 in
theorem gX3_would_X3_joined : GoodIn wsX3_would (va_wsS RX3 141 yX3_joined wsX3_joined) := goodIn_app (goodIn_of _ (by decide +kernel)) ggX3_would_X3_joined
set_option maxRecDepth 20000 in
theorem ggX3_would_X3_fork : GoodIn wsX3_would wsX3_fork := goodIn_r _ [26, 2, 22, 4, 27, 28, 29, 30, 31, 32, 33, 34, 35, 36, 37, 38, 9, 39, 40, 41, 42, 43, 44, 45, 46, 47, 48, 49, 50, 51, 52, 23, 24, 25, 63, 64, 65, 66, 67, 68, 69, 70, 71, 72, 73, 74, 75, 76, 77] (by decide +kernel) (by decide +kernel)
set_option maxRecDepth 20000 in
theorem gX3_would_X3_fork : GoodIn wsX3_would (wsV RX3 81 RX3 yX3_fork wsX3_fork) := goodIn_app (goodIn_of _ (by decide +kernel)) ggX3_would_X3_fork
set_option maxRecDepth 20000 in
theorem ggX3_would_X3_line : GoodIn wsX3_would wsX3_line := goodIn_r _ [56, 4, 57, 5, 58, 59, 60, 9, 61, 62, 34, 35, 63, 64, 65, 66, 67, 68, 69, 70, 71, 72, 73, 74, 75, 76, 77] (by decide +kernel) (by decide +kernel)
set_option maxRecDepth 20000 in
theorem gX3_would_X3_line : GoodIn wsX3_would (wsV RX3 118 RX3 yX3_line wsX3_line) := goodIn_app (goodIn_of _ (by decide +kernel)) ggX3_would_X3_line
theorem dX3_would_0 : decode cX3_would 0 = .ok (.aload_n 0, 1) := by decide +kernel
theorem dX3_would_1 : decode cX3_would 1 = .ok (.iconst 0, 1) := by decide +kernel
theorem dX3_would_2 : decode cX3_would 2 = .ok (.putfield 48, 3) := by decide +kernel
theorem dX3_would_5 : decode cX3_would 5 = .ok (.aload_n 0, 1) := by decide +kernel
theorem dX3_would_6 : decode cX3_would 6 = .ok (.iload_n 1, 1) := by decide +kernel
theorem dX3_would_7 : decode cX3_would 7 = .ok (.invokevirtual 138, 3) := by decide +kernel
theorem dX3_would_10 : decode cX3_would 10 = .ok (.ifCond .eq 20, 3) := by decide +kernel
theorem dX3_would_13 : decode cX3_would 13 = .ok (.aload_n 0, 1) := by decide +kernel
theorem dX3_would_14 : decode cX3_would 14 = .ok (.iload_n 2, 1) := by decide +kernel
theorem dX3_would_15 : decode cX3_would 15 = .ok (.invokevirtual 138, 3) := by decide +kernel
theorem dX3_would_18 : decode cX3_would 18 = .ok (.ifCond .eq 12, 3) := by decide +kernel
theorem dX3_would_21 : decode cX3_would 21 = .ok (.iload_n 3, 1) := by decide +kernel
theorem dX3_would_22 : decode cX3_would 22 = .ok (.iconst 0, 1) := by decide +kernel
theorem dX3_would_23 : decode cX3_would 23 = .ok (.iconst 5, 1) := by decide +kernel
theorem dX3_would_24 : decode cX3_would 24 = .ok (.invokestatic 52, 3) := by decide +kernel
theorem dX3_would_27 : decode cX3_would 27 = .ok (.ifCond .ne 9, 3) := by decide +kernel
theorem dX3_would_30 : decode cX3_would 30 = .ok (.aload_n 0, 1) := by decide +kernel
theorem dX3_would_31 : decode cX3_would 31 = .ok (.iconst 1, 1) := by decide +kernel
theorem dX3_would_32 : decode cX3_would 32 = .ok (.invokevirtual 128, 3) := by decide +kernel
theorem dX3_would_35 : decode cX3_would 35 = .ok (.ireturn, 1) := by decide +kernel
theorem dX3_would_36 : decode cX3_would 36 = .ok (.iconst 0, 1) := by decide +kernel
theorem dX3_would_37 : decode cX3_would 37 = .ok (.istore 4, 2) := by decide +kernel
theorem dX3_would_39 : decode cX3_would 39 = .ok (.iload 4, 2) := by decide +kernel
theorem dX3_would_41 : decode cX3_would 41 = .ok (.iconst 4, 1) := by decide +kernel
theorem dX3_would_42 : decode cX3_would 42 = .ok (.if_icmp .ge 42, 3) := by decide +kernel
theorem dX3_would_45 : decode cX3_would 45 = .ok (.aload_n 0, 1) := by decide +kernel
theorem dX3_would_46 : decode cX3_would 46 = .ok (.getfield 39, 3) := by decide +kernel
theorem dX3_would_49 : decode cX3_would 49 = .ok (.iload 4, 2) := by decide +kernel
theorem dX3_would_51 : decode cX3_would 51 = .ok (.aload_n 0, 1) := by decide +kernel
theorem dX3_would_52 : decode cX3_would 52 = .ok (.getfield 13, 3) := by decide +kernel
theorem dX3_would_55 : decode cX3_would 55 = .ok (.iconst 4, 1) := by decide +kernel
theorem dX3_would_56 : decode cX3_would 56 = .ok (.iload_n 1, 1) := by decide +kernel
theorem dX3_would_57 : decode cX3_would 57 = .ok (.imul, 1) := by decide +kernel
theorem dX3_would_58 : decode cX3_would 58 = .ok (.iload 4, 2) := by decide +kernel
theorem dX3_would_60 : decode cX3_would 60 = .ok (.iadd, 1) := by decide +kernel
theorem dX3_would_61 : decode cX3_would 61 = .ok (.laload, 1) := by decide +kernel
theorem dX3_would_62 : decode cX3_would 62 = .ok (.aload_n 0, 1) := by decide +kernel
theorem dX3_would_63 : decode cX3_would 63 = .ok (.getfield 13, 3) := by decide +kernel
theorem dX3_would_66 : decode cX3_would 66 = .ok (.iconst 4, 1) := by decide +kernel
theorem dX3_would_67 : decode cX3_would 67 = .ok (.iload_n 2, 1) := by decide +kernel
theorem dX3_would_68 : decode cX3_would 68 = .ok (.imul, 1) := by decide +kernel
theorem dX3_would_69 : decode cX3_would 69 = .ok (.iload 4, 2) := by decide +kernel
theorem dX3_would_71 : decode cX3_would 71 = .ok (.iadd, 1) := by decide +kernel
theorem dX3_would_72 : decode cX3_would 72 = .ok (.laload, 1) := by decide +kernel
theorem dX3_would_73 : decode cX3_would 73 = .ok (.iload_n 3, 1) := by decide +kernel
theorem dX3_would_74 : decode cX3_would 74 = .ok (.invokestatic 141, 3) := by decide +kernel
theorem dX3_would_77 : decode cX3_would 77 = .ok (.lastore, 1) := by decide +kernel
theorem dX3_would_78 : decode cX3_would 78 = .ok (.iinc 4 1, 3) := by decide +kernel
theorem dX3_would_81 : decode cX3_would 81 = .ok (.goto (-42), 3) := by decide +kernel
theorem dX3_would_84 : decode cX3_would 84 = .ok (.aload_n 0, 1) := by decide +kernel
theorem dX3_would_85 : decode cX3_would 85 = .ok (.getfield 66, 3) := by decide +kernel
theorem dX3_would_88 : decode cX3_would 88 = .ok (.istore 4, 2) := by decide +kernel
theorem dX3_would_90 : decode cX3_would 90 = .ok (.aload_n 0, 1) := by decide +kernel
theorem dX3_would_91 : decode cX3_would 91 = .ok (.aload_n 0, 1) := by decide +kernel
theorem dX3_would_92 : decode cX3_would 92 = .ok (.iconst 0, 1) := by decide +kernel
theorem dX3_would_93 : decode cX3_would 93 = .ok (.invokevirtual 81, 3) := by decide +kernel
theorem dX3_would_96 : decode cX3_would 96 = .ok (.invokevirtual 118, 3) := by decide +kernel
theorem dX3_would_99 : decode cX3_would 99 = .ok (.aload_n 0, 1) := by decide +kernel
theorem dX3_would_100 : decode cX3_would 100 = .ok (.getfield 95, 3) := by decide +kernel
theorem dX3_would_103 : decode cX3_would 103 = .ok (.istore 5, 2) := by decide +kernel
theorem dX3_would_105 : decode cX3_would 105 = .ok (.aload_n 0, 1) := by decide +kernel
theorem dX3_would_106 : decode cX3_would 106 = .ok (.iload 4, 2) := by decide +kernel
theorem dX3_would_108 : decode cX3_would 108 = .ok (.putfield 66, 3) := by decide +kernel
theorem dX3_would_111 : decode cX3_would 111 = .ok (.iload 5, 2) := by decide +kernel
theorem dX3_would_113 : decode cX3_would 113 = .ok (.ireturn, 1) := by decide +kernel
set_option maxRecDepth 20000 in
theorem ggX3_mean_X3_folds : GoodIn wsX3_mean wsX3_folds := goodIn_r _ [6, 7, 33, 34, 35, 36, 37, 38, 39, 40, 41, 42, 43, 44, 45, 46, 47] (by decide +kernel) (by decide +kernel)
set_option maxRecDepth 20000 in
theorem gX3_mean_X3_folds : GoodIn wsX3_mean (wsV RX3 145 RX3 yX3_folds wsX3_folds) := goodIn_app (goodIn_of _ (by decide +kernel)) ggX3_mean_X3_folds
set_option maxRecDepth 20000 in
theorem ggX3_mean_X3_counted : GoodIn wsX3_mean wsX3_counted := goodIn_r _ [11, 12, 7, 13, 14, 15, 2, 3, 4, 5, 6, 16, 17, 18, 19, 20, 21, 22, 23, 24, 25, 26, 27, 28, 29, 30, 31, 32, 33, 34, 35, 36, 37, 38, 39, 40, 41, 42, 43, 44, 45, 46, 47] (by decide +kernel) (by decide +kernel)
set_option maxRecDepth 20000 in
theorem gX3_mean_X3_counted : GoodIn wsX3_mean (wsV RX3 172 RX3 yX3_counted wsX3_counted) := goodIn_app (goodIn_of _ (by decide +kernel)) ggX3_mean_X3_counted
theorem dX3_mean_0 : decode cX3_mean 0 = .ok (.aload_n 0, 1) := by decide +kernel
theorem dX3_mean_1 : decode cX3_mean 1 = .ok (.iconst 0, 1) := by decide +kernel
theorem dX3_mean_2 : decode cX3_mean 2 = .ok (.putfield 48, 3) := by decide +kernel
theorem dX3_mean_5 : decode cX3_mean 5 = .ok (.aload_n 0, 1) := by decide +kernel
theorem dX3_mean_6 : decode cX3_mean 6 = .ok (.invokevirtual 145, 3) := by decide +kernel
theorem dX3_mean_9 : decode cX3_mean 9 = .ok (.istore_n 1, 1) := by decide +kernel
theorem dX3_mean_10 : decode cX3_mean 10 = .ok (.iload_n 1, 1) := by decide +kernel
theorem dX3_mean_11 : decode cX3_mean 11 = .ok (.ifCond .ne 7, 3) := by decide +kernel
theorem dX3_mean_14 : decode cX3_mean 14 = .ok (.dconst 0, 1) := by decide +kernel
theorem dX3_mean_15 : decode cX3_mean 15 = .ok (.goto 12, 3) := by decide +kernel
theorem dX3_mean_18 : decode cX3_mean 18 = .ok (.aload_n 0, 1) := by decide +kernel
theorem dX3_mean_19 : decode cX3_mean 19 = .ok (.iconst 2, 1) := by decide +kernel
theorem dX3_mean_20 : decode cX3_mean 20 = .ok (.invokevirtual 172, 3) := by decide +kernel
theorem dX3_mean_23 : decode cX3_mean 23 = .ok (.i2d, 1) := by decide +kernel
theorem dX3_mean_24 : decode cX3_mean 24 = .ok (.iload_n 1, 1) := by decide +kernel
theorem dX3_mean_25 : decode cX3_mean 25 = .ok (.i2d, 1) := by decide +kernel
theorem dX3_mean_26 : decode cX3_mean 26 = .ok (.ddiv, 1) := by decide +kernel
theorem dX3_mean_27 : decode cX3_mean 27 = .ok (.dreturn, 1) := by decide +kernel
set_option maxRecDepth 20000 in
theorem ggX3_digest_X3_counted : GoodIn wsX3_digest wsX3_counted := goodIn_r _ [11, 12, 5, 13, 4, 14, 15, 16, 17, 10, 18, 19, 20, 21, 22, 23, 24, 25, 26, 27, 28, 29, 30, 31, 32, 6, 33, 34, 80, 81, 82, 83, 84, 85, 86, 87, 88, 89, 90, 91, 92, 93, 94] (by decide +kernel) (by decide +kernel)
set_option maxRecDepth 20000 in
theorem gX3_digest_X3_counted : GoodIn wsX3_digest (wsV RX3 172 RX3 yX3_counted wsX3_counted) := goodIn_app (goodIn_of _ (by decide +kernel)) ggX3_digest_X3_counted
set_option maxRecDepth 20000 in
theorem ggX3_digest_X3_aboutOf : GoodIn wsX3_digest wsX3_aboutOf := goodIn_r _ [38, 39, 14, 12, 40, 19, 20, 21, 10, 22, 23, 24, 25, 26, 27, 28, 29, 30, 31, 32, 6, 33, 34, 41, 42, 43, 44, 45, 46, 47, 48, 49, 50, 51, 52, 53, 54, 55, 56, 57, 58, 59, 60, 61, 62, 63, 80, 81, 82, 83, 84, 85, 86, 87, 88, 89, 90, 91, 92, 93, 94] (by decide +kernel) (by decide +kernel)
set_option maxRecDepth 20000 in
theorem gX3_digest_X3_aboutOf : GoodIn wsX3_digest (wsV RX3 167 RX3 yX3_aboutOf wsX3_aboutOf) := goodIn_app (goodIn_of _ (by decide +kernel)) ggX3_digest_X3_aboutOf
set_option maxRecDepth 20000 in
theorem ggX3_digest_X3_all : GoodIn wsX3_digest wsX3_all := goodIn_r _ [22, 14, 23, 24, 25, 26, 10, 27, 12, 28, 29, 30, 31, 32, 6, 33, 34, 80, 81, 82, 83, 84, 85, 86, 87, 88, 89, 90, 91, 92, 93, 94] (by decide +kernel) (by decide +kernel)
set_option maxRecDepth 20000 in
theorem gX3_digest_X3_all : GoodIn wsX3_digest (wsV RX3 161 RX3 yX3_all wsX3_all) := goodIn_app (goodIn_of _ (by decide +kernel)) ggX3_digest_X3_all
set_option maxRecDepth 20000 in
theorem ggX3_digest_X3_forkTold : GoodIn wsX3_digest wsX3_forkTold := goodIn_r _ [67, 13, 33, 34, 40, 68, 69, 70, 10, 71, 28, 72, 73, 74, 75, 23, 76, 6, 57, 58, 59, 60, 77, 78, 79, 80, 81, 82, 83, 84, 85, 86, 87, 88, 89, 90, 91, 92, 93, 94] (by decide +kernel) (by decide +kernel)
set_option maxRecDepth 20000 in
theorem gX3_digest_X3_forkTold : GoodIn wsX3_digest (wsV RX3 164 RX3 yX3_forkTold wsX3_forkTold) := goodIn_app (goodIn_of _ (by decide +kernel)) ggX3_digest_X3_forkTold
theorem dX3_digest_0 : decode cX3_digest 0 = .ok (.aload_n 0, 1) := by decide +kernel
theorem dX3_digest_1 : decode cX3_digest 1 = .ok (.iconst 0, 1) := by decide +kernel
theorem dX3_digest_2 : decode cX3_digest 2 = .ok (.putfield 48, 3) := by decide +kernel
theorem dX3_digest_5 : decode cX3_digest 5 = .ok (.ldc2_w 175, 3) := by decide +kernel
theorem dX3_digest_8 : decode cX3_digest 8 = .ok (.lstore_n 1, 1) := by decide +kernel
theorem dX3_digest_9 : decode cX3_digest 9 = .ok (.iconst 0, 1) := by decide +kernel
theorem dX3_digest_10 : decode cX3_digest 10 = .ok (.istore_n 3, 1) := by decide +kernel
theorem dX3_digest_11 : decode cX3_digest 11 = .ok (.iload_n 3, 1) := by decide +kernel
theorem dX3_digest_12 : decode cX3_digest 12 = .ok (.iconst 5, 1) := by decide +kernel
theorem dX3_digest_13 : decode cX3_digest 13 = .ok (.if_icmp .ge 22, 3) := by decide +kernel
theorem dX3_digest_16 : decode cX3_digest 16 = .ok (.lload_n 1, 1) := by decide +kernel
theorem dX3_digest_17 : decode cX3_digest 17 = .ok (.ldc2_w 177, 3) := by decide +kernel
theorem dX3_digest_20 : decode cX3_digest 20 = .ok (.lmul, 1) := by decide +kernel
theorem dX3_digest_21 : decode cX3_digest 21 = .ok (.aload_n 0, 1) := by decide +kernel
theorem dX3_digest_22 : decode cX3_digest 22 = .ok (.iload_n 3, 1) := by decide +kernel
theorem dX3_digest_23 : decode cX3_digest 23 = .ok (.invokevirtual 172, 3) := by decide +kernel
theorem dX3_digest_26 : decode cX3_digest 26 = .ok (.i2l, 1) := by decide +kernel
theorem dX3_digest_27 : decode cX3_digest 27 = .ok (.ladd, 1) := by decide +kernel
theorem dX3_digest_28 : decode cX3_digest 28 = .ok (.lstore_n 1, 1) := by decide +kernel
theorem dX3_digest_29 : decode cX3_digest 29 = .ok (.iinc 3 1, 3) := by decide +kernel
theorem dX3_digest_32 : decode cX3_digest 32 = .ok (.goto (-21), 3) := by decide +kernel
theorem dX3_digest_35 : decode cX3_digest 35 = .ok (.aload_n 0, 1) := by decide +kernel
theorem dX3_digest_36 : decode cX3_digest 36 = .ok (.getfield 17, 3) := by decide +kernel
theorem dX3_digest_39 : decode cX3_digest 39 = .ok (.astore_n 3, 1) := by decide +kernel
theorem dX3_digest_40 : decode cX3_digest 40 = .ok (.aload_n 3, 1) := by decide +kernel
theorem dX3_digest_41 : decode cX3_digest 41 = .ok (.arraylength, 1) := by decide +kernel
theorem dX3_digest_42 : decode cX3_digest 42 = .ok (.istore 4, 2) := by decide +kernel
theorem dX3_digest_44 : decode cX3_digest 44 = .ok (.iconst 0, 1) := by decide +kernel
theorem dX3_digest_45 : decode cX3_digest 45 = .ok (.istore 5, 2) := by decide +kernel
theorem dX3_digest_47 : decode cX3_digest 47 = .ok (.iload 5, 2) := by decide +kernel
theorem dX3_digest_49 : decode cX3_digest 49 = .ok (.iload 4, 2) := by decide +kernel
theorem dX3_digest_51 : decode cX3_digest 51 = .ok (.if_icmp .ge 25, 3) := by decide +kernel
theorem dX3_digest_54 : decode cX3_digest 54 = .ok (.aload_n 3, 1) := by decide +kernel
theorem dX3_digest_55 : decode cX3_digest 55 = .ok (.iload 5, 2) := by decide +kernel
theorem dX3_digest_57 : decode cX3_digest 57 = .ok (.iaload, 1) := by decide +kernel
theorem dX3_digest_58 : decode cX3_digest 58 = .ok (.istore 6, 2) := by decide +kernel
theorem dX3_digest_60 : decode cX3_digest 60 = .ok (.lload_n 1, 1) := by decide +kernel
theorem dX3_digest_61 : decode cX3_digest 61 = .ok (.ldc2_w 177, 3) := by decide +kernel
theorem dX3_digest_64 : decode cX3_digest 64 = .ok (.lmul, 1) := by decide +kernel
theorem dX3_digest_65 : decode cX3_digest 65 = .ok (.iload 6, 2) := by decide +kernel
theorem dX3_digest_67 : decode cX3_digest 67 = .ok (.i2l, 1) := by decide +kernel
theorem dX3_digest_68 : decode cX3_digest 68 = .ok (.ladd, 1) := by decide +kernel
theorem dX3_digest_69 : decode cX3_digest 69 = .ok (.lstore_n 1, 1) := by decide +kernel
theorem dX3_digest_70 : decode cX3_digest 70 = .ok (.iinc 5 1, 3) := by decide +kernel
theorem dX3_digest_73 : decode cX3_digest 73 = .ok (.goto (-26), 3) := by decide +kernel
theorem dX3_digest_76 : decode cX3_digest 76 = .ok (.iconst 0, 1) := by decide +kernel
theorem dX3_digest_77 : decode cX3_digest 77 = .ok (.istore_n 3, 1) := by decide +kernel
theorem dX3_digest_78 : decode cX3_digest 78 = .ok (.iload_n 3, 1) := by decide +kernel
theorem dX3_digest_79 : decode cX3_digest 79 = .ok (.bipush 12, 2) := by decide +kernel
theorem dX3_digest_81 : decode cX3_digest 81 = .ok (.if_icmp .ge 133, 3) := by decide +kernel
theorem dX3_digest_84 : decode cX3_digest 84 = .ok (.lload_n 1, 1) := by decide +kernel
theorem dX3_digest_85 : decode cX3_digest 85 = .ok (.ldc2_w 177, 3) := by decide +kernel
theorem dX3_digest_88 : decode cX3_digest 88 = .ok (.lmul, 1) := by decide +kernel
theorem dX3_digest_89 : decode cX3_digest 89 = .ok (.aload_n 0, 1) := by decide +kernel
theorem dX3_digest_90 : decode cX3_digest 90 = .ok (.getfield 9, 3) := by decide +kernel
theorem dX3_digest_93 : decode cX3_digest 93 = .ok (.iload_n 3, 1) := by decide +kernel
theorem dX3_digest_94 : decode cX3_digest 94 = .ok (.baload, 1) := by decide +kernel
theorem dX3_digest_95 : decode cX3_digest 95 = .ok (.ifCond .eq 7, 3) := by decide +kernel
theorem dX3_digest_98 : decode cX3_digest 98 = .ok (.iconst 1, 1) := by decide +kernel
theorem dX3_digest_99 : decode cX3_digest 99 = .ok (.goto 4, 3) := by decide +kernel
theorem dX3_digest_102 : decode cX3_digest 102 = .ok (.iconst 0, 1) := by decide +kernel
theorem dX3_digest_103 : decode cX3_digest 103 = .ok (.i2l, 1) := by decide +kernel
theorem dX3_digest_104 : decode cX3_digest 104 = .ok (.ladd, 1) := by decide +kernel
theorem dX3_digest_105 : decode cX3_digest 105 = .ok (.lstore_n 1, 1) := by decide +kernel
theorem dX3_digest_106 : decode cX3_digest 106 = .ok (.aload_n 0, 1) := by decide +kernel
theorem dX3_digest_107 : decode cX3_digest 107 = .ok (.getfield 9, 3) := by decide +kernel
theorem dX3_digest_110 : decode cX3_digest 110 = .ok (.iload_n 3, 1) := by decide +kernel
theorem dX3_digest_111 : decode cX3_digest 111 = .ok (.baload, 1) := by decide +kernel
theorem dX3_digest_112 : decode cX3_digest 112 = .ok (.ifCond .ne 6, 3) := by decide +kernel
theorem dX3_digest_115 : decode cX3_digest 115 = .ok (.goto 93, 3) := by decide +kernel
theorem dX3_digest_118 : decode cX3_digest 118 = .ok (.iconst 0, 1) := by decide +kernel
theorem dX3_digest_119 : decode cX3_digest 119 = .ok (.istore 4, 2) := by decide +kernel
theorem dX3_digest_121 : decode cX3_digest 121 = .ok (.iload 4, 2) := by decide +kernel
theorem dX3_digest_123 : decode cX3_digest 123 = .ok (.bipush 8, 2) := by decide +kernel
theorem dX3_digest_125 : decode cX3_digest 125 = .ok (.if_icmp .ge 24, 3) := by decide +kernel
theorem dX3_digest_128 : decode cX3_digest 128 = .ok (.lload_n 1, 1) := by decide +kernel
theorem dX3_digest_129 : decode cX3_digest 129 = .ok (.ldc2_w 177, 3) := by decide +kernel
theorem dX3_digest_132 : decode cX3_digest 132 = .ok (.lmul, 1) := by decide +kernel
theorem dX3_digest_133 : decode cX3_digest 133 = .ok (.aload_n 0, 1) := by decide +kernel
theorem dX3_digest_134 : decode cX3_digest 134 = .ok (.iload_n 3, 1) := by decide +kernel
theorem dX3_digest_135 : decode cX3_digest 135 = .ok (.iload 4, 2) := by decide +kernel
theorem dX3_digest_137 : decode cX3_digest 137 = .ok (.invokevirtual 167, 3) := by decide +kernel
theorem dX3_digest_140 : decode cX3_digest 140 = .ok (.i2l, 1) := by decide +kernel
theorem dX3_digest_141 : decode cX3_digest 141 = .ok (.ladd, 1) := by decide +kernel
theorem dX3_digest_142 : decode cX3_digest 142 = .ok (.lstore_n 1, 1) := by decide +kernel
theorem dX3_digest_143 : decode cX3_digest 143 = .ok (.iinc 4 1, 3) := by decide +kernel
theorem dX3_digest_146 : decode cX3_digest 146 = .ok (.goto (-25), 3) := by decide +kernel
theorem dX3_digest_149 : decode cX3_digest 149 = .ok (.aload_n 0, 1) := by decide +kernel
theorem dX3_digest_150 : decode cX3_digest 150 = .ok (.iload_n 3, 1) := by decide +kernel
theorem dX3_digest_151 : decode cX3_digest 151 = .ok (.invokevirtual 161, 3) := by decide +kernel
theorem dX3_digest_154 : decode cX3_digest 154 = .ok (.istore 4, 2) := by decide +kernel
theorem dX3_digest_156 : decode cX3_digest 156 = .ok (.iconst 0, 1) := by decide +kernel
theorem dX3_digest_157 : decode cX3_digest 157 = .ok (.istore 5, 2) := by decide +kernel
theorem dX3_digest_159 : decode cX3_digest 159 = .ok (.iload 5, 2) := by decide +kernel
theorem dX3_digest_161 : decode cX3_digest 161 = .ok (.iload 4, 2) := by decide +kernel
theorem dX3_digest_163 : decode cX3_digest 163 = .ok (.if_icmp .ge 45, 3) := by decide +kernel
theorem dX3_digest_166 : decode cX3_digest 166 = .ok (.iconst 0, 1) := by decide +kernel
theorem dX3_digest_167 : decode cX3_digest 167 = .ok (.istore 6, 2) := by decide +kernel
theorem dX3_digest_169 : decode cX3_digest 169 = .ok (.iload 6, 2) := by decide +kernel
theorem dX3_digest_171 : decode cX3_digest 171 = .ok (.iconst 5, 1) := by decide +kernel
theorem dX3_digest_172 : decode cX3_digest 172 = .ok (.if_icmp .ge 30, 3) := by decide +kernel
theorem dX3_digest_175 : decode cX3_digest 175 = .ok (.lload_n 1, 1) := by decide +kernel
theorem dX3_digest_176 : decode cX3_digest 176 = .ok (.ldc2_w 177, 3) := by decide +kernel
theorem dX3_digest_179 : decode cX3_digest 179 = .ok (.lmul, 1) := by decide +kernel
theorem dX3_digest_180 : decode cX3_digest 180 = .ok (.aload_n 0, 1) := by decide +kernel
theorem dX3_digest_181 : decode cX3_digest 181 = .ok (.aload_n 0, 1) := by decide +kernel
theorem dX3_digest_182 : decode cX3_digest 182 = .ok (.getfield 42, 3) := by decide +kernel
theorem dX3_digest_185 : decode cX3_digest 185 = .ok (.iload 5, 2) := by decide +kernel
theorem dX3_digest_187 : decode cX3_digest 187 = .ok (.iaload, 1) := by decide +kernel
theorem dX3_digest_188 : decode cX3_digest 188 = .ok (.iload 6, 2) := by decide +kernel
theorem dX3_digest_190 : decode cX3_digest 190 = .ok (.invokevirtual 164, 3) := by decide +kernel
theorem dX3_digest_193 : decode cX3_digest 193 = .ok (.i2l, 1) := by decide +kernel
theorem dX3_digest_194 : decode cX3_digest 194 = .ok (.ladd, 1) := by decide +kernel
theorem dX3_digest_195 : decode cX3_digest 195 = .ok (.lstore_n 1, 1) := by decide +kernel
theorem dX3_digest_196 : decode cX3_digest 196 = .ok (.iinc 6 1, 3) := by decide +kernel
theorem dX3_digest_199 : decode cX3_digest 199 = .ok (.goto (-30), 3) := by decide +kernel
theorem dX3_digest_202 : decode cX3_digest 202 = .ok (.iinc 5 1, 3) := by decide +kernel
theorem dX3_digest_205 : decode cX3_digest 205 = .ok (.goto (-46), 3) := by decide +kernel
theorem dX3_digest_208 : decode cX3_digest 208 = .ok (.iinc 3 1, 3) := by decide +kernel
theorem dX3_digest_211 : decode cX3_digest 211 = .ok (.goto (-133), 3) := by decide +kernel
theorem dX3_digest_214 : decode cX3_digest 214 = .ok (.lload_n 1, 1) := by decide +kernel
theorem dX3_digest_215 : decode cX3_digest 215 = .ok (.lreturn, 1) := by decide +kernel
