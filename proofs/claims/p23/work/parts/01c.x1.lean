theorem dX0_init_0 : decode cX0_init 0 = .ok (.aload_n 0, 1) := by decide +kernel
theorem dX0_init_1 : decode cX0_init 1 = .ok (.invokespecial 3, 3) := by decide +kernel
theorem dX0_init_4 : decode cX0_init 4 = .ok (.aload_n 0, 1) := by decide +kernel
theorem dX0_init_5 : decode cX0_init 5 = .ok (.sipush 256, 3) := by decide +kernel
theorem dX0_init_8 : decode cX0_init 8 = .ok (.newarray .boolean, 2) := by decide +kernel
theorem dX0_init_10 : decode cX0_init 10 = .ok (.putfield 9, 3) := by decide +kernel
theorem dX0_init_13 : decode cX0_init 13 = .ok (.aload_n 0, 1) := by decide +kernel
theorem dX0_init_14 : decode cX0_init 14 = .ok (.bipush 77, 2) := by decide +kernel
theorem dX0_init_16 : decode cX0_init 16 = .ok (.newarray .int, 2) := by decide +kernel
theorem dX0_init_18 : decode cX0_init 18 = .ok (.putfield 15, 3) := by decide +kernel
theorem dX0_init_21 : decode cX0_init 21 = .ok (.aload_n 0, 1) := by decide +kernel
theorem dX0_init_22 : decode cX0_init 22 = .ok (.bipush 77, 2) := by decide +kernel
theorem dX0_init_24 : decode cX0_init 24 = .ok (.newarray .int, 2) := by decide +kernel
theorem dX0_init_26 : decode cX0_init 26 = .ok (.putfield 19, 3) := by decide +kernel
theorem dX0_init_29 : decode cX0_init 29 = .ok (.aload_n 0, 1) := by decide +kernel
theorem dX0_init_30 : decode cX0_init 30 = .ok (.bipush 77, 2) := by decide +kernel
theorem dX0_init_32 : decode cX0_init 32 = .ok (.newarray .int, 2) := by decide +kernel
theorem dX0_init_34 : decode cX0_init 34 = .ok (.putfield 22, 3) := by decide +kernel
theorem dX0_init_37 : decode cX0_init 37 = .ok (.aload_n 0, 1) := by decide +kernel
theorem dX0_init_38 : decode cX0_init 38 = .ok (.bipush 77, 2) := by decide +kernel
theorem dX0_init_40 : decode cX0_init 40 = .ok (.newarray .int, 2) := by decide +kernel
theorem dX0_init_42 : decode cX0_init 42 = .ok (.putfield 25, 3) := by decide +kernel
theorem dX0_init_45 : decode cX0_init 45 = .ok (.return_, 1) := by decide +kernel
theorem dX1_init_0 : decode cX1_init 0 = .ok (.aload_n 0, 1) := by decide +kernel
theorem dX1_init_1 : decode cX1_init 1 = .ok (.invokespecial 3, 3) := by decide +kernel
theorem dX1_init_4 : decode cX1_init 4 = .ok (.aload_n 0, 1) := by decide +kernel
theorem dX1_init_5 : decode cX1_init 5 = .ok (.sipush 626, 3) := by decide +kernel
theorem dX1_init_8 : decode cX1_init 8 = .ok (.newarray .int, 2) := by decide +kernel
theorem dX1_init_10 : decode cX1_init 10 = .ok (.putfield 9, 3) := by decide +kernel
theorem dX1_init_13 : decode cX1_init 13 = .ok (.aload_n 0, 1) := by decide +kernel
theorem dX1_init_14 : decode cX1_init 14 = .ok (.sipush 626, 3) := by decide +kernel
theorem dX1_init_17 : decode cX1_init 17 = .ok (.newarray .int, 2) := by decide +kernel
theorem dX1_init_19 : decode cX1_init 19 = .ok (.putfield 15, 3) := by decide +kernel
theorem dX1_init_22 : decode cX1_init 22 = .ok (.aload_n 0, 1) := by decide +kernel
theorem dX1_init_23 : decode cX1_init 23 = .ok (.sipush 626, 3) := by decide +kernel
theorem dX1_init_26 : decode cX1_init 26 = .ok (.newarray .int, 2) := by decide +kernel
theorem dX1_init_28 : decode cX1_init 28 = .ok (.putfield 18, 3) := by decide +kernel
theorem dX1_init_31 : decode cX1_init 31 = .ok (.aload_n 0, 1) := by decide +kernel
theorem dX1_init_32 : decode cX1_init 32 = .ok (.sipush 626, 3) := by decide +kernel
theorem dX1_init_35 : decode cX1_init 35 = .ok (.newarray .int, 2) := by decide +kernel
theorem dX1_init_37 : decode cX1_init 37 = .ok (.putfield 21, 3) := by decide +kernel
theorem dX1_init_40 : decode cX1_init 40 = .ok (.aload_n 0, 1) := by decide +kernel
theorem dX1_init_41 : decode cX1_init 41 = .ok (.sipush 1024, 3) := by decide +kernel
theorem dX1_init_44 : decode cX1_init 44 = .ok (.newarray .int, 2) := by decide +kernel
theorem dX1_init_46 : decode cX1_init 46 = .ok (.putfield 24, 3) := by decide +kernel
theorem dX1_init_49 : decode cX1_init 49 = .ok (.aload_n 0, 1) := by decide +kernel
theorem dX1_init_50 : decode cX1_init 50 = .ok (.bipush 8, 2) := by decide +kernel
theorem dX1_init_52 : decode cX1_init 52 = .ok (.newarray .int, 2) := by decide +kernel
theorem dX1_init_54 : decode cX1_init 54 = .ok (.putfield 27, 3) := by decide +kernel
theorem dX1_init_57 : decode cX1_init 57 = .ok (.aload_n 0, 1) := by decide +kernel
theorem dX1_init_58 : decode cX1_init 58 = .ok (.sipush 256, 3) := by decide +kernel
theorem dX1_init_61 : decode cX1_init 61 = .ok (.newarray .int, 2) := by decide +kernel
theorem dX1_init_63 : decode cX1_init 63 = .ok (.putfield 30, 3) := by decide +kernel
theorem dX1_init_66 : decode cX1_init 66 = .ok (.aload_n 0, 1) := by decide +kernel
theorem dX1_init_67 : decode cX1_init 67 = .ok (.sipush 256, 3) := by decide +kernel
theorem dX1_init_70 : decode cX1_init 70 = .ok (.newarray .int, 2) := by decide +kernel
theorem dX1_init_72 : decode cX1_init 72 = .ok (.putfield 33, 3) := by decide +kernel
theorem dX1_init_75 : decode cX1_init 75 = .ok (.aload_n 0, 1) := by decide +kernel
theorem dX1_init_76 : decode cX1_init 76 = .ok (.sipush 626, 3) := by decide +kernel
theorem dX1_init_79 : decode cX1_init 79 = .ok (.newarray .int, 2) := by decide +kernel
theorem dX1_init_81 : decode cX1_init 81 = .ok (.putfield 36, 3) := by decide +kernel
theorem dX1_init_84 : decode cX1_init 84 = .ok (.return_, 1) := by decide +kernel
set_option maxRecDepth 20000 in
theorem ggX1_startOver_J7_fill_53178 : GoodIn wsX1_startOver wsJ7_fill_53178 := goodIn_r _ [12] (by decide +kernel) (by decide +kernel)
set_option maxRecDepth 20000 in
theorem gX1_startOver_J7_fill_53178 : GoodIn wsX1_startOver (va_wsS RX1 43 yJ7_fill_53178 wsJ7_fill_53178) := goodIn_app (goodIn_of _ (by decide +kernel)) ggX1_startOver_J7_fill_53178
set_option maxRecDepth 20000 in
theorem ggX1_startOver_X1_answersOf : GoodIn wsX1_startOver wsX1_answersOf := goodIn_r _ [17, 3, 18, 19, 20, 21, 22, 23, 24, 25, 26, 27] (by decide +kernel) (by decide +kernel)
set_option maxRecDepth 20000 in
theorem gX1_startOver_X1_answersOf : GoodIn wsX1_startOver (wsV RX1 55 RX1 yX1_answersOf wsX1_answersOf) := goodIn_app (goodIn_of _ (by decide +kernel)) ggX1_startOver_X1_answersOf
theorem dX1_startOver_0 : decode cX1_startOver 0 = .ok (.aload_n 0, 1) := by decide +kernel
theorem dX1_startOver_1 : decode cX1_startOver 1 = .ok (.iconst 0, 1) := by decide +kernel
theorem dX1_startOver_2 : decode cX1_startOver 2 = .ok (.putfield 39, 3) := by decide +kernel
theorem dX1_startOver_5 : decode cX1_startOver 5 = .ok (.aload_n 0, 1) := by decide +kernel
theorem dX1_startOver_6 : decode cX1_startOver 6 = .ok (.getfield 24, 3) := by decide +kernel
theorem dX1_startOver_9 : decode cX1_startOver 9 = .ok (.iconst (-1), 1) := by decide +kernel
theorem dX1_startOver_10 : decode cX1_startOver 10 = .ok (.invokestatic 43, 3) := by decide +kernel
theorem dX1_startOver_13 : decode cX1_startOver 13 = .ok (.aload_n 1, 1) := by decide +kernel
theorem dX1_startOver_14 : decode cX1_startOver 14 = .ok (.iconst 0, 1) := by decide +kernel
theorem dX1_startOver_15 : decode cX1_startOver 15 = .ok (.aload_n 0, 1) := by decide +kernel
theorem dX1_startOver_16 : decode cX1_startOver 16 = .ok (.getfield 27, 3) := by decide +kernel
theorem dX1_startOver_19 : decode cX1_startOver 19 = .ok (.iconst 0, 1) := by decide +kernel
theorem dX1_startOver_20 : decode cX1_startOver 20 = .ok (.bipush 8, 2) := by decide +kernel
theorem dX1_startOver_22 : decode cX1_startOver 22 = .ok (.invokestatic 49, 3) := by decide +kernel
theorem dX1_startOver_25 : decode cX1_startOver 25 = .ok (.iconst 0, 1) := by decide +kernel
theorem dX1_startOver_26 : decode cX1_startOver 26 = .ok (.istore_n 2, 1) := by decide +kernel
theorem dX1_startOver_27 : decode cX1_startOver 27 = .ok (.iload_n 2, 1) := by decide +kernel
theorem dX1_startOver_28 : decode cX1_startOver 28 = .ok (.sipush 256, 3) := by decide +kernel
theorem dX1_startOver_31 : decode cX1_startOver 31 = .ok (.if_icmp .ge 20, 3) := by decide +kernel
theorem dX1_startOver_34 : decode cX1_startOver 34 = .ok (.aload_n 0, 1) := by decide +kernel
theorem dX1_startOver_35 : decode cX1_startOver 35 = .ok (.getfield 30, 3) := by decide +kernel
theorem dX1_startOver_38 : decode cX1_startOver 38 = .ok (.iload_n 2, 1) := by decide +kernel
theorem dX1_startOver_39 : decode cX1_startOver 39 = .ok (.aload_n 0, 1) := by decide +kernel
theorem dX1_startOver_40 : decode cX1_startOver 40 = .ok (.iload_n 2, 1) := by decide +kernel
theorem dX1_startOver_41 : decode cX1_startOver 41 = .ok (.invokevirtual 55, 3) := by decide +kernel
theorem dX1_startOver_44 : decode cX1_startOver 44 = .ok (.iastore, 1) := by decide +kernel
theorem dX1_startOver_45 : decode cX1_startOver 45 = .ok (.iinc 2 1, 3) := by decide +kernel
theorem dX1_startOver_48 : decode cX1_startOver 48 = .ok (.goto (-21), 3) := by decide +kernel
theorem dX1_startOver_51 : decode cX1_startOver 51 = .ok (.return_, 1) := by decide +kernel
theorem dX1_answersOf_0 : decode cX1_answersOf 0 = .ok (.iconst 0, 1) := by decide +kernel
theorem dX1_answersOf_1 : decode cX1_answersOf 1 = .ok (.istore_n 2, 1) := by decide +kernel
theorem dX1_answersOf_2 : decode cX1_answersOf 2 = .ok (.iconst 0, 1) := by decide +kernel
theorem dX1_answersOf_3 : decode cX1_answersOf 3 = .ok (.istore_n 3, 1) := by decide +kernel
theorem dX1_answersOf_4 : decode cX1_answersOf 4 = .ok (.iload_n 3, 1) := by decide +kernel
theorem dX1_answersOf_5 : decode cX1_answersOf 5 = .ok (.bipush 8, 2) := by decide +kernel
theorem dX1_answersOf_7 : decode cX1_answersOf 7 = .ok (.if_icmp .ge 31, 3) := by decide +kernel
theorem dX1_answersOf_10 : decode cX1_answersOf 10 = .ok (.iload_n 1, 1) := by decide +kernel
theorem dX1_answersOf_11 : decode cX1_answersOf 11 = .ok (.bipush 7, 2) := by decide +kernel
theorem dX1_answersOf_13 : decode cX1_answersOf 13 = .ok (.iload_n 3, 1) := by decide +kernel
theorem dX1_answersOf_14 : decode cX1_answersOf 14 = .ok (.isub, 1) := by decide +kernel
theorem dX1_answersOf_15 : decode cX1_answersOf 15 = .ok (.ishr, 1) := by decide +kernel
theorem dX1_answersOf_16 : decode cX1_answersOf 16 = .ok (.iconst 1, 1) := by decide +kernel
theorem dX1_answersOf_17 : decode cX1_answersOf 17 = .ok (.iand, 1) := by decide +kernel
theorem dX1_answersOf_18 : decode cX1_answersOf 18 = .ok (.istore 4, 2) := by decide +kernel
theorem dX1_answersOf_20 : decode cX1_answersOf 20 = .ok (.iload_n 2, 1) := by decide +kernel
theorem dX1_answersOf_21 : decode cX1_answersOf 21 = .ok (.iload 4, 2) := by decide +kernel
theorem dX1_answersOf_23 : decode cX1_answersOf 23 = .ok (.aload_n 0, 1) := by decide +kernel
theorem dX1_answersOf_24 : decode cX1_answersOf 24 = .ok (.getfield 27, 3) := by decide +kernel
theorem dX1_answersOf_27 : decode cX1_answersOf 27 = .ok (.iload_n 3, 1) := by decide +kernel
theorem dX1_answersOf_28 : decode cX1_answersOf 28 = .ok (.iaload, 1) := by decide +kernel
theorem dX1_answersOf_29 : decode cX1_answersOf 29 = .ok (.ishl, 1) := by decide +kernel
theorem dX1_answersOf_30 : decode cX1_answersOf 30 = .ok (.ior, 1) := by decide +kernel
theorem dX1_answersOf_31 : decode cX1_answersOf 31 = .ok (.istore_n 2, 1) := by decide +kernel
theorem dX1_answersOf_32 : decode cX1_answersOf 32 = .ok (.iinc 3 1, 3) := by decide +kernel
theorem dX1_answersOf_35 : decode cX1_answersOf 35 = .ok (.goto (-31), 3) := by decide +kernel
theorem dX1_answersOf_38 : decode cX1_answersOf 38 = .ok (.iload_n 2, 1) := by decide +kernel
theorem dX1_answersOf_39 : decode cX1_answersOf 39 = .ok (.sipush 255, 3) := by decide +kernel
theorem dX1_answersOf_42 : decode cX1_answersOf 42 = .ok (.iand, 1) := by decide +kernel
theorem dX1_answersOf_43 : decode cX1_answersOf 43 = .ok (.ireturn, 1) := by decide +kernel
set_option maxRecDepth 20000 in
theorem ggX1_lay_X1_part : GoodIn wsX1_lay wsX1_part := goodIn_r _ [8, 9, 10, 11, 12, 13, 14, 15, 7, 16, 17, 18, 19, 20, 21, 22, 23, 24, 25, 26, 27, 28] (by decide +kernel) (by decide +kernel)
set_option maxRecDepth 20000 in
theorem gX1_lay_X1_part : GoodIn wsX1_lay (wsV RX1 59 RX1 yX1_part wsX1_part) := goodIn_app (goodIn_of _ (by decide +kernel)) ggX1_lay_X1_part
theorem dX1_lay_0 : decode cX1_lay 0 = .ok (.iconst 0, 1) := by decide +kernel
theorem dX1_lay_1 : decode cX1_lay 1 = .ok (.istore_n 2, 1) := by decide +kernel
theorem dX1_lay_2 : decode cX1_lay 2 = .ok (.iload_n 2, 1) := by decide +kernel
theorem dX1_lay_3 : decode cX1_lay 3 = .ok (.sipush 256, 3) := by decide +kernel
theorem dX1_lay_6 : decode cX1_lay 6 = .ok (.if_icmp .ge 32, 3) := by decide +kernel
theorem dX1_lay_9 : decode cX1_lay 9 = .ok (.aload_n 0, 1) := by decide +kernel
theorem dX1_lay_10 : decode cX1_lay 10 = .ok (.getfield 33, 3) := by decide +kernel
theorem dX1_lay_13 : decode cX1_lay 13 = .ok (.iload_n 2, 1) := by decide +kernel
theorem dX1_lay_14 : decode cX1_lay 14 = .ok (.aload_n 1, 1) := by decide +kernel
theorem dX1_lay_15 : decode cX1_lay 15 = .ok (.aload_n 0, 1) := by decide +kernel
theorem dX1_lay_16 : decode cX1_lay 16 = .ok (.getfield 30, 3) := by decide +kernel
theorem dX1_lay_19 : decode cX1_lay 19 = .ok (.iload_n 2, 1) := by decide +kernel
theorem dX1_lay_20 : decode cX1_lay 20 = .ok (.iaload, 1) := by decide +kernel
theorem dX1_lay_21 : decode cX1_lay 21 = .ok (.baload, 1) := by decide +kernel
theorem dX1_lay_22 : decode cX1_lay 22 = .ok (.ifCond .eq 8, 3) := by decide +kernel
theorem dX1_lay_25 : decode cX1_lay 25 = .ok (.bipush (-2), 2) := by decide +kernel
theorem dX1_lay_27 : decode cX1_lay 27 = .ok (.goto 4, 3) := by decide +kernel
theorem dX1_lay_30 : decode cX1_lay 30 = .ok (.iconst (-1), 1) := by decide +kernel
theorem dX1_lay_31 : decode cX1_lay 31 = .ok (.iastore, 1) := by decide +kernel
theorem dX1_lay_32 : decode cX1_lay 32 = .ok (.iinc 2 1, 3) := by decide +kernel
theorem dX1_lay_35 : decode cX1_lay 35 = .ok (.goto (-33), 3) := by decide +kernel
theorem dX1_lay_38 : decode cX1_lay 38 = .ok (.bipush 7, 2) := by decide +kernel
theorem dX1_lay_40 : decode cX1_lay 40 = .ok (.istore_n 2, 1) := by decide +kernel
theorem dX1_lay_41 : decode cX1_lay 41 = .ok (.iload_n 2, 1) := by decide +kernel
theorem dX1_lay_42 : decode cX1_lay 42 = .ok (.ifCond .lt 58, 3) := by decide +kernel
theorem dX1_lay_45 : decode cX1_lay 45 = .ok (.iconst 0, 1) := by decide +kernel
theorem dX1_lay_46 : decode cX1_lay 46 = .ok (.istore_n 3, 1) := by decide +kernel
theorem dX1_lay_47 : decode cX1_lay 47 = .ok (.iload_n 3, 1) := by decide +kernel
theorem dX1_lay_48 : decode cX1_lay 48 = .ok (.iconst 1, 1) := by decide +kernel
theorem dX1_lay_49 : decode cX1_lay 49 = .ok (.iload_n 2, 1) := by decide +kernel
theorem dX1_lay_50 : decode cX1_lay 50 = .ok (.ishl, 1) := by decide +kernel
theorem dX1_lay_51 : decode cX1_lay 51 = .ok (.if_icmp .ge 43, 3) := by decide +kernel
theorem dX1_lay_54 : decode cX1_lay 54 = .ok (.aload_n 0, 1) := by decide +kernel
theorem dX1_lay_55 : decode cX1_lay 55 = .ok (.getfield 33, 3) := by decide +kernel
theorem dX1_lay_58 : decode cX1_lay 58 = .ok (.iload_n 3, 1) := by decide +kernel
theorem dX1_lay_59 : decode cX1_lay 59 = .ok (.aload_n 0, 1) := by decide +kernel
theorem dX1_lay_60 : decode cX1_lay 60 = .ok (.aload_n 0, 1) := by decide +kernel
theorem dX1_lay_61 : decode cX1_lay 61 = .ok (.getfield 27, 3) := by decide +kernel
theorem dX1_lay_64 : decode cX1_lay 64 = .ok (.iload_n 2, 1) := by decide +kernel
theorem dX1_lay_65 : decode cX1_lay 65 = .ok (.iaload, 1) := by decide +kernel
theorem dX1_lay_66 : decode cX1_lay 66 = .ok (.aload_n 0, 1) := by decide +kernel
theorem dX1_lay_67 : decode cX1_lay 67 = .ok (.getfield 33, 3) := by decide +kernel
theorem dX1_lay_70 : decode cX1_lay 70 = .ok (.iconst 2, 1) := by decide +kernel
theorem dX1_lay_71 : decode cX1_lay 71 = .ok (.iload_n 3, 1) := by decide +kernel
theorem dX1_lay_72 : decode cX1_lay 72 = .ok (.imul, 1) := by decide +kernel
theorem dX1_lay_73 : decode cX1_lay 73 = .ok (.iaload, 1) := by decide +kernel
theorem dX1_lay_74 : decode cX1_lay 74 = .ok (.aload_n 0, 1) := by decide +kernel
theorem dX1_lay_75 : decode cX1_lay 75 = .ok (.getfield 33, 3) := by decide +kernel
theorem dX1_lay_78 : decode cX1_lay 78 = .ok (.iconst 2, 1) := by decide +kernel
theorem dX1_lay_79 : decode cX1_lay 79 = .ok (.iload_n 3, 1) := by decide +kernel
theorem dX1_lay_80 : decode cX1_lay 80 = .ok (.imul, 1) := by decide +kernel
theorem dX1_lay_81 : decode cX1_lay 81 = .ok (.iconst 1, 1) := by decide +kernel
theorem dX1_lay_82 : decode cX1_lay 82 = .ok (.iadd, 1) := by decide +kernel
theorem dX1_lay_83 : decode cX1_lay 83 = .ok (.iaload, 1) := by decide +kernel
theorem dX1_lay_84 : decode cX1_lay 84 = .ok (.invokevirtual 59, 3) := by decide +kernel
theorem dX1_lay_87 : decode cX1_lay 87 = .ok (.iastore, 1) := by decide +kernel
theorem dX1_lay_88 : decode cX1_lay 88 = .ok (.iinc 3 1, 3) := by decide +kernel
theorem dX1_lay_91 : decode cX1_lay 91 = .ok (.goto (-44), 3) := by decide +kernel
theorem dX1_lay_94 : decode cX1_lay 94 = .ok (.iinc 2 (-1), 3) := by decide +kernel
theorem dX1_lay_97 : decode cX1_lay 97 = .ok (.goto (-56), 3) := by decide +kernel
theorem dX1_lay_100 : decode cX1_lay 100 = .ok (.aload_n 0, 1) := by decide +kernel
theorem dX1_lay_101 : decode cX1_lay 101 = .ok (.getfield 33, 3) := by decide +kernel
theorem dX1_lay_104 : decode cX1_lay 104 = .ok (.iconst 0, 1) := by decide +kernel
theorem dX1_lay_105 : decode cX1_lay 105 = .ok (.iaload, 1) := by decide +kernel
theorem dX1_lay_106 : decode cX1_lay 106 = .ok (.ireturn, 1) := by decide +kernel
set_option maxRecDepth 20000 in
theorem ggX1_part_X1_make : GoodIn wsX1_part wsX1_make := goodIn_r _ [9, 10, 1, 2, 3, 4, 11, 12, 13, 14, 15, 16, 17, 18, 19, 20, 21] (by decide +kernel) (by decide +kernel)
set_option maxRecDepth 20000 in
theorem gX1_part_X1_make : GoodIn wsX1_part (wsV RX1 63 RX1 yX1_make wsX1_make) := goodIn_app (goodIn_of _ (by decide +kernel)) ggX1_part_X1_make
theorem dX1_part_0 : decode cX1_part 0 = .ok (.iload_n 2, 1) := by decide +kernel
theorem dX1_part_1 : decode cX1_part 1 = .ok (.iload_n 3, 1) := by decide +kernel
theorem dX1_part_2 : decode cX1_part 2 = .ok (.if_icmp .ne 5, 3) := by decide +kernel
theorem dX1_part_5 : decode cX1_part 5 = .ok (.iload_n 2, 1) := by decide +kernel
theorem dX1_part_6 : decode cX1_part 6 = .ok (.ireturn, 1) := by decide +kernel
theorem dX1_part_7 : decode cX1_part 7 = .ok (.iload_n 2, 1) := by decide +kernel
theorem dX1_part_8 : decode cX1_part 8 = .ok (.bipush 31, 2) := by decide +kernel
theorem dX1_part_10 : decode cX1_part 10 = .ok (.imul, 1) := by decide +kernel
theorem dX1_part_11 : decode cX1_part 11 = .ok (.iload_n 3, 1) := by decide +kernel
theorem dX1_part_12 : decode cX1_part 12 = .ok (.iadd, 1) := by decide +kernel
theorem dX1_part_13 : decode cX1_part 13 = .ok (.bipush 31, 2) := by decide +kernel
theorem dX1_part_15 : decode cX1_part 15 = .ok (.imul, 1) := by decide +kernel
theorem dX1_part_16 : decode cX1_part 16 = .ok (.iload_n 1, 1) := by decide +kernel
theorem dX1_part_17 : decode cX1_part 17 = .ok (.iadd, 1) := by decide +kernel
theorem dX1_part_18 : decode cX1_part 18 = .ok (.istore 4, 2) := by decide +kernel
theorem dX1_part_20 : decode cX1_part 20 = .ok (.iconst 0, 1) := by decide +kernel
theorem dX1_part_21 : decode cX1_part 21 = .ok (.istore 5, 2) := by decide +kernel
theorem dX1_part_23 : decode cX1_part 23 = .ok (.iload 5, 2) := by decide +kernel
theorem dX1_part_25 : decode cX1_part 25 = .ok (.sipush 1024, 3) := by decide +kernel
theorem dX1_part_28 : decode cX1_part 28 = .ok (.if_icmp .ge 80, 3) := by decide +kernel
theorem dX1_part_31 : decode cX1_part 31 = .ok (.iload 4, 2) := by decide +kernel
theorem dX1_part_33 : decode cX1_part 33 = .ok (.iload 5, 2) := by decide +kernel
theorem dX1_part_35 : decode cX1_part 35 = .ok (.iadd, 1) := by decide +kernel
theorem dX1_part_36 : decode cX1_part 36 = .ok (.sipush 1023, 3) := by decide +kernel
theorem dX1_part_39 : decode cX1_part 39 = .ok (.iand, 1) := by decide +kernel
theorem dX1_part_40 : decode cX1_part 40 = .ok (.istore 6, 2) := by decide +kernel
theorem dX1_part_42 : decode cX1_part 42 = .ok (.aload_n 0, 1) := by decide +kernel
theorem dX1_part_43 : decode cX1_part 43 = .ok (.getfield 24, 3) := by decide +kernel
theorem dX1_part_46 : decode cX1_part 46 = .ok (.iload 6, 2) := by decide +kernel
theorem dX1_part_48 : decode cX1_part 48 = .ok (.iaload, 1) := by decide +kernel
theorem dX1_part_49 : decode cX1_part 49 = .ok (.istore 7, 2) := by decide +kernel
theorem dX1_part_51 : decode cX1_part 51 = .ok (.iload 7, 2) := by decide +kernel
theorem dX1_part_53 : decode cX1_part 53 = .ok (.ifCond .ge 13, 3) := by decide +kernel
theorem dX1_part_56 : decode cX1_part 56 = .ok (.aload_n 0, 1) := by decide +kernel
theorem dX1_part_57 : decode cX1_part 57 = .ok (.iload 6, 2) := by decide +kernel
theorem dX1_part_59 : decode cX1_part 59 = .ok (.iload_n 1, 1) := by decide +kernel
theorem dX1_part_60 : decode cX1_part 60 = .ok (.iload_n 2, 1) := by decide +kernel
theorem dX1_part_61 : decode cX1_part 61 = .ok (.iload_n 3, 1) := by decide +kernel
theorem dX1_part_62 : decode cX1_part 62 = .ok (.invokevirtual 63, 3) := by decide +kernel
theorem dX1_part_65 : decode cX1_part 65 = .ok (.ireturn, 1) := by decide +kernel
theorem dX1_part_66 : decode cX1_part 66 = .ok (.aload_n 0, 1) := by decide +kernel
theorem dX1_part_67 : decode cX1_part 67 = .ok (.getfield 9, 3) := by decide +kernel
theorem dX1_part_70 : decode cX1_part 70 = .ok (.iload 7, 2) := by decide +kernel
theorem dX1_part_72 : decode cX1_part 72 = .ok (.iaload, 1) := by decide +kernel
theorem dX1_part_73 : decode cX1_part 73 = .ok (.iload_n 1, 1) := by decide +kernel
theorem dX1_part_74 : decode cX1_part 74 = .ok (.if_icmp .ne 28, 3) := by decide +kernel
theorem dX1_part_77 : decode cX1_part 77 = .ok (.aload_n 0, 1) := by decide +kernel
theorem dX1_part_78 : decode cX1_part 78 = .ok (.getfield 15, 3) := by decide +kernel
theorem dX1_part_81 : decode cX1_part 81 = .ok (.iload 7, 2) := by decide +kernel
theorem dX1_part_83 : decode cX1_part 83 = .ok (.iaload, 1) := by decide +kernel
theorem dX1_part_84 : decode cX1_part 84 = .ok (.iload_n 2, 1) := by decide +kernel
theorem dX1_part_85 : decode cX1_part 85 = .ok (.if_icmp .ne 17, 3) := by decide +kernel
theorem dX1_part_88 : decode cX1_part 88 = .ok (.aload_n 0, 1) := by decide +kernel
theorem dX1_part_89 : decode cX1_part 89 = .ok (.getfield 18, 3) := by decide +kernel
theorem dX1_part_92 : decode cX1_part 92 = .ok (.iload 7, 2) := by decide +kernel
theorem dX1_part_94 : decode cX1_part 94 = .ok (.iaload, 1) := by decide +kernel
theorem dX1_part_95 : decode cX1_part 95 = .ok (.iload_n 3, 1) := by decide +kernel
theorem dX1_part_96 : decode cX1_part 96 = .ok (.if_icmp .ne 6, 3) := by decide +kernel
theorem dX1_part_99 : decode cX1_part 99 = .ok (.iload 7, 2) := by decide +kernel
theorem dX1_part_101 : decode cX1_part 101 = .ok (.ireturn, 1) := by decide +kernel
theorem dX1_part_102 : decode cX1_part 102 = .ok (.iinc 5 1, 3) := by decide +kernel
theorem dX1_part_105 : decode cX1_part 105 = .ok (.goto (-82), 3) := by decide +kernel
theorem dX1_part_108 : decode cX1_part 108 = .ok (.iconst (-1), 1) := by decide +kernel
theorem dX1_part_109 : decode cX1_part 109 = .ok (.ireturn, 1) := by decide +kernel
theorem dX1_make_0 : decode cX1_make 0 = .ok (.aload_n 0, 1) := by decide +kernel
theorem dX1_make_1 : decode cX1_make 1 = .ok (.getfield 39, 3) := by decide +kernel
theorem dX1_make_4 : decode cX1_make 4 = .ok (.sipush 626, 3) := by decide +kernel
theorem dX1_make_7 : decode cX1_make 7 = .ok (.if_icmp .lt 5, 3) := by decide +kernel
theorem dX1_make_10 : decode cX1_make 10 = .ok (.iconst (-1), 1) := by decide +kernel
theorem dX1_make_11 : decode cX1_make 11 = .ok (.ireturn, 1) := by decide +kernel
theorem dX1_make_12 : decode cX1_make 12 = .ok (.aload_n 0, 1) := by decide +kernel
theorem dX1_make_13 : decode cX1_make 13 = .ok (.getfield 39, 3) := by decide +kernel
theorem dX1_make_16 : decode cX1_make 16 = .ok (.istore 5, 2) := by decide +kernel
theorem dX1_make_18 : decode cX1_make 18 = .ok (.aload_n 0, 1) := by decide +kernel
theorem dX1_make_19 : decode cX1_make 19 = .ok (.dup, 1) := by decide +kernel
theorem dX1_make_20 : decode cX1_make 20 = .ok (.getfield 39, 3) := by decide +kernel
theorem dX1_make_23 : decode cX1_make 23 = .ok (.iconst 1, 1) := by decide +kernel
theorem dX1_make_24 : decode cX1_make 24 = .ok (.iadd, 1) := by decide +kernel
theorem dX1_make_25 : decode cX1_make 25 = .ok (.putfield 39, 3) := by decide +kernel
theorem dX1_make_28 : decode cX1_make 28 = .ok (.aload_n 0, 1) := by decide +kernel
theorem dX1_make_29 : decode cX1_make 29 = .ok (.getfield 24, 3) := by decide +kernel
theorem dX1_make_32 : decode cX1_make 32 = .ok (.iload_n 1, 1) := by decide +kernel
theorem dX1_make_33 : decode cX1_make 33 = .ok (.iload 5, 2) := by decide +kernel
theorem dX1_make_35 : decode cX1_make 35 = .ok (.iastore, 1) := by decide +kernel
theorem dX1_make_36 : decode cX1_make 36 = .ok (.aload_n 0, 1) := by decide +kernel
theorem dX1_make_37 : decode cX1_make 37 = .ok (.getfield 9, 3) := by decide +kernel
theorem dX1_make_40 : decode cX1_make 40 = .ok (.iload 5, 2) := by decide +kernel
theorem dX1_make_42 : decode cX1_make 42 = .ok (.iload_n 2, 1) := by decide +kernel
theorem dX1_make_43 : decode cX1_make 43 = .ok (.iastore, 1) := by decide +kernel
theorem dX1_make_44 : decode cX1_make 44 = .ok (.aload_n 0, 1) := by decide +kernel
theorem dX1_make_45 : decode cX1_make 45 = .ok (.getfield 15, 3) := by decide +kernel
theorem dX1_make_48 : decode cX1_make 48 = .ok (.iload 5, 2) := by decide +kernel
theorem dX1_make_50 : decode cX1_make 50 = .ok (.iload_n 3, 1) := by decide +kernel
theorem dX1_make_51 : decode cX1_make 51 = .ok (.iastore, 1) := by decide +kernel
theorem dX1_make_52 : decode cX1_make 52 = .ok (.aload_n 0, 1) := by decide +kernel
theorem dX1_make_53 : decode cX1_make 53 = .ok (.getfield 18, 3) := by decide +kernel
theorem dX1_make_56 : decode cX1_make 56 = .ok (.iload 5, 2) := by decide +kernel
theorem dX1_make_58 : decode cX1_make 58 = .ok (.iload 4, 2) := by decide +kernel
theorem dX1_make_60 : decode cX1_make 60 = .ok (.iastore, 1) := by decide +kernel
theorem dX1_make_61 : decode cX1_make 61 = .ok (.aload_n 0, 1) := by decide +kernel
theorem dX1_make_62 : decode cX1_make 62 = .ok (.getfield 21, 3) := by decide +kernel
theorem dX1_make_65 : decode cX1_make 65 = .ok (.iload 5, 2) := by decide +kernel
theorem dX1_make_67 : decode cX1_make 67 = .ok (.iconst 0, 1) := by decide +kernel
theorem dX1_make_68 : decode cX1_make 68 = .ok (.iastore, 1) := by decide +kernel
theorem dX1_make_69 : decode cX1_make 69 = .ok (.iload 5, 2) := by decide +kernel
theorem dX1_make_71 : decode cX1_make 71 = .ok (.ireturn, 1) := by decide +kernel
set_option maxRecDepth 20000 in
theorem ggX1_putInRow_J7_fill_53178 : GoodIn wsX1_putInRow wsJ7_fill_53178 := goodIn_r _ [8] (by decide +kernel) (by decide +kernel)
set_option maxRecDepth 20000 in
theorem gX1_putInRow_J7_fill_53178 : GoodIn wsX1_putInRow (va_wsS RX1 43 yJ7_fill_53178 wsJ7_fill_53178) := goodIn_app (goodIn_of _ (by decide +kernel)) ggX1_putInRow_J7_fill_53178
set_option maxRecDepth 20000 in
theorem ggX1_putInRow_X1_walk : GoodIn wsX1_putInRow wsX1_walk := goodIn_r _ [12, 13, 1, 3, 4, 14, 15, 16, 11, 17, 9, 10, 29, 30, 31, 32, 33, 34, 35, 36, 37, 38, 22, 23, 24, 25, 26, 27, 28] (by decide +kernel) (by decide +kernel)
set_option maxRecDepth 20000 in
theorem gX1_putInRow_X1_walk : GoodIn wsX1_putInRow (va_wsS RX1 70 yX1_walk wsX1_walk) := goodIn_app (goodIn_of _ (by decide +kernel)) ggX1_putInRow_X1_walk
set_option maxRecDepth 20000 in
theorem ggX1_putInRow_X1_placeOrLeaf : GoodIn wsX1_putInRow wsX1_placeOrLeaf := goodIn_r _ [21, 1, 29, 30, 31, 32, 33, 34, 35, 36, 37, 38] (by decide +kernel) (by decide +kernel)
set_option maxRecDepth 20000 in
theorem gX1_putInRow_X1_placeOrLeaf : GoodIn wsX1_putInRow (wsV RX1 80 RX1 yX1_placeOrLeaf wsX1_placeOrLeaf) := goodIn_app (goodIn_of _ (by decide +kernel)) ggX1_putInRow_X1_placeOrLeaf
theorem dX1_putInRow_0 : decode cX1_putInRow 0 = .ok (.aload_n 1, 1) := by decide +kernel
theorem dX1_putInRow_1 : decode cX1_putInRow 1 = .ok (.iconst 0, 1) := by decide +kernel
theorem dX1_putInRow_2 : decode cX1_putInRow 2 = .ok (.putfield 67, 3) := by decide +kernel
theorem dX1_putInRow_5 : decode cX1_putInRow 5 = .ok (.aload_n 0, 1) := by decide +kernel
theorem dX1_putInRow_6 : decode cX1_putInRow 6 = .ok (.getfield 36, 3) := by decide +kernel
theorem dX1_putInRow_9 : decode cX1_putInRow 9 = .ok (.iconst (-1), 1) := by decide +kernel
theorem dX1_putInRow_10 : decode cX1_putInRow 10 = .ok (.invokestatic 43, 3) := by decide +kernel
theorem dX1_putInRow_13 : decode cX1_putInRow 13 = .ok (.aload_n 0, 1) := by decide +kernel
theorem dX1_putInRow_14 : decode cX1_putInRow 14 = .ok (.aload_n 1, 1) := by decide +kernel
theorem dX1_putInRow_15 : decode cX1_putInRow 15 = .ok (.iload_n 2, 1) := by decide +kernel
theorem dX1_putInRow_16 : decode cX1_putInRow 16 = .ok (.iconst 0, 1) := by decide +kernel
theorem dX1_putInRow_17 : decode cX1_putInRow 17 = .ok (.invokestatic 70, 3) := by decide +kernel
theorem dX1_putInRow_20 : decode cX1_putInRow 20 = .ok (.iconst 0, 1) := by decide +kernel
theorem dX1_putInRow_21 : decode cX1_putInRow 21 = .ok (.istore_n 3, 1) := by decide +kernel
theorem dX1_putInRow_22 : decode cX1_putInRow 22 = .ok (.iload_n 3, 1) := by decide +kernel
theorem dX1_putInRow_23 : decode cX1_putInRow 23 = .ok (.aload_n 1, 1) := by decide +kernel
theorem dX1_putInRow_24 : decode cX1_putInRow 24 = .ok (.getfield 67, 3) := by decide +kernel
theorem dX1_putInRow_27 : decode cX1_putInRow 27 = .ok (.if_icmp .ge 62, 3) := by decide +kernel
theorem dX1_putInRow_30 : decode cX1_putInRow 30 = .ok (.aload_n 1, 1) := by decide +kernel
theorem dX1_putInRow_31 : decode cX1_putInRow 31 = .ok (.getfield 74, 3) := by decide +kernel
theorem dX1_putInRow_34 : decode cX1_putInRow 34 = .ok (.iload_n 3, 1) := by decide +kernel
theorem dX1_putInRow_35 : decode cX1_putInRow 35 = .ok (.iaload, 1) := by decide +kernel
theorem dX1_putInRow_36 : decode cX1_putInRow 36 = .ok (.istore 4, 2) := by decide +kernel
theorem dX1_putInRow_38 : decode cX1_putInRow 38 = .ok (.aload_n 0, 1) := by decide +kernel
theorem dX1_putInRow_39 : decode cX1_putInRow 39 = .ok (.getfield 21, 3) := by decide +kernel
theorem dX1_putInRow_42 : decode cX1_putInRow 42 = .ok (.iload 4, 2) := by decide +kernel
theorem dX1_putInRow_44 : decode cX1_putInRow 44 = .ok (.dup2, 1) := by decide +kernel
theorem dX1_putInRow_45 : decode cX1_putInRow 45 = .ok (.iaload, 1) := by decide +kernel
theorem dX1_putInRow_46 : decode cX1_putInRow 46 = .ok (.iconst 1, 1) := by decide +kernel
theorem dX1_putInRow_47 : decode cX1_putInRow 47 = .ok (.iadd, 1) := by decide +kernel
theorem dX1_putInRow_48 : decode cX1_putInRow 48 = .ok (.iastore, 1) := by decide +kernel
theorem dX1_putInRow_49 : decode cX1_putInRow 49 = .ok (.aload_n 1, 1) := by decide +kernel
theorem dX1_putInRow_50 : decode cX1_putInRow 50 = .ok (.getfield 77, 3) := by decide +kernel
theorem dX1_putInRow_53 : decode cX1_putInRow 53 = .ok (.iload_n 3, 1) := by decide +kernel
theorem dX1_putInRow_54 : decode cX1_putInRow 54 = .ok (.aload_n 0, 1) := by decide +kernel
theorem dX1_putInRow_55 : decode cX1_putInRow 55 = .ok (.aload_n 0, 1) := by decide +kernel
theorem dX1_putInRow_56 : decode cX1_putInRow 56 = .ok (.getfield 15, 3) := by decide +kernel
theorem dX1_putInRow_59 : decode cX1_putInRow 59 = .ok (.iload 4, 2) := by decide +kernel
theorem dX1_putInRow_61 : decode cX1_putInRow 61 = .ok (.iaload, 1) := by decide +kernel
theorem dX1_putInRow_62 : decode cX1_putInRow 62 = .ok (.invokevirtual 80, 3) := by decide +kernel
theorem dX1_putInRow_65 : decode cX1_putInRow 65 = .ok (.iastore, 1) := by decide +kernel
theorem dX1_putInRow_66 : decode cX1_putInRow 66 = .ok (.aload_n 1, 1) := by decide +kernel
theorem dX1_putInRow_67 : decode cX1_putInRow 67 = .ok (.getfield 83, 3) := by decide +kernel
theorem dX1_putInRow_70 : decode cX1_putInRow 70 = .ok (.iload_n 3, 1) := by decide +kernel
theorem dX1_putInRow_71 : decode cX1_putInRow 71 = .ok (.aload_n 0, 1) := by decide +kernel
theorem dX1_putInRow_72 : decode cX1_putInRow 72 = .ok (.aload_n 0, 1) := by decide +kernel
theorem dX1_putInRow_73 : decode cX1_putInRow 73 = .ok (.getfield 18, 3) := by decide +kernel
theorem dX1_putInRow_76 : decode cX1_putInRow 76 = .ok (.iload 4, 2) := by decide +kernel
theorem dX1_putInRow_78 : decode cX1_putInRow 78 = .ok (.iaload, 1) := by decide +kernel
theorem dX1_putInRow_79 : decode cX1_putInRow 79 = .ok (.invokevirtual 80, 3) := by decide +kernel
theorem dX1_putInRow_82 : decode cX1_putInRow 82 = .ok (.iastore, 1) := by decide +kernel
theorem dX1_putInRow_83 : decode cX1_putInRow 83 = .ok (.iinc 3 1, 3) := by decide +kernel
theorem dX1_putInRow_86 : decode cX1_putInRow 86 = .ok (.goto (-64), 3) := by decide +kernel
theorem dX1_putInRow_89 : decode cX1_putInRow 89 = .ok (.return_, 1) := by decide +kernel
theorem dX1_placeOrLeaf_0 : decode cX1_placeOrLeaf 0 = .ok (.iload_n 1, 1) := by decide +kernel
theorem dX1_placeOrLeaf_1 : decode cX1_placeOrLeaf 1 = .ok (.ifCond .ge 7, 3) := by decide +kernel
theorem dX1_placeOrLeaf_4 : decode cX1_placeOrLeaf 4 = .ok (.iload_n 1, 1) := by decide +kernel
theorem dX1_placeOrLeaf_5 : decode cX1_placeOrLeaf 5 = .ok (.goto 9, 3) := by decide +kernel
theorem dX1_placeOrLeaf_8 : decode cX1_placeOrLeaf 8 = .ok (.aload_n 0, 1) := by decide +kernel
theorem dX1_placeOrLeaf_9 : decode cX1_placeOrLeaf 9 = .ok (.getfield 36, 3) := by decide +kernel
theorem dX1_placeOrLeaf_12 : decode cX1_placeOrLeaf 12 = .ok (.iload_n 1, 1) := by decide +kernel
theorem dX1_placeOrLeaf_13 : decode cX1_placeOrLeaf 13 = .ok (.iaload, 1) := by decide +kernel
theorem dX1_placeOrLeaf_14 : decode cX1_placeOrLeaf 14 = .ok (.ireturn, 1) := by decide +kernel
set_option maxRecDepth 20000 in
theorem ggX1_walk_X1_putLast : GoodIn wsX1_walk wsX1_putLast := goodIn_r _ [9, 2, 22, 23, 24, 25, 26, 27, 28, 12, 13, 14, 15, 16, 17, 18, 19, 20, 21] (by decide +kernel) (by decide +kernel)
set_option maxRecDepth 20000 in
theorem gX1_walk_X1_putLast : GoodIn wsX1_walk (wsV RX1 89 RX1 yX1_putLast wsX1_putLast) := goodIn_app (goodIn_of _ (by decide +kernel)) ggX1_walk_X1_putLast
set_option maxRecDepth 20000 in
theorem ggX1_walk_X1_walk : GoodIn wsX1_walk wsX1_walk := goodIn_r _ [0, 1, 2, 3, 4, 5, 6, 7, 8, 9, 10, 11, 12, 13, 14, 15, 16, 17, 18, 19, 20, 21, 22, 23, 24, 25, 26, 27, 28] (by decide +kernel) (by decide +kernel)
set_option maxRecDepth 20000 in
theorem gX1_walk_X1_walk : GoodIn wsX1_walk (va_wsS RX1 70 yX1_walk wsX1_walk) := goodIn_app (goodIn_of _ (by decide +kernel)) ggX1_walk_X1_walk
theorem dX1_walk_0 : decode cX1_walk 0 = .ok (.iload_n 2, 1) := by decide +kernel
theorem dX1_walk_1 : decode cX1_walk 1 = .ok (.ifCond .lt 17, 3) := by decide +kernel
theorem dX1_walk_4 : decode cX1_walk 4 = .ok (.iload_n 2, 1) := by decide +kernel
theorem dX1_walk_5 : decode cX1_walk 5 = .ok (.aload_n 0, 1) := by decide +kernel
theorem dX1_walk_6 : decode cX1_walk 6 = .ok (.getfield 39, 3) := by decide +kernel
theorem dX1_walk_9 : decode cX1_walk 9 = .ok (.if_icmp .ge 9, 3) := by decide +kernel
theorem dX1_walk_12 : decode cX1_walk 12 = .ok (.iload_n 3, 1) := by decide +kernel
theorem dX1_walk_13 : decode cX1_walk 13 = .ok (.bipush 8, 2) := by decide +kernel
theorem dX1_walk_15 : decode cX1_walk 15 = .ok (.if_icmp .lt 4, 3) := by decide +kernel
theorem dX1_walk_18 : decode cX1_walk 18 = .ok (.return_, 1) := by decide +kernel
theorem dX1_walk_19 : decode cX1_walk 19 = .ok (.aload_n 0, 1) := by decide +kernel
theorem dX1_walk_20 : decode cX1_walk 20 = .ok (.getfield 36, 3) := by decide +kernel
theorem dX1_walk_23 : decode cX1_walk 23 = .ok (.iload_n 2, 1) := by decide +kernel
theorem dX1_walk_24 : decode cX1_walk 24 = .ok (.iaload, 1) := by decide +kernel
theorem dX1_walk_25 : decode cX1_walk 25 = .ok (.istore 4, 2) := by decide +kernel
theorem dX1_walk_27 : decode cX1_walk 27 = .ok (.iload 4, 2) := by decide +kernel
theorem dX1_walk_29 : decode cX1_walk 29 = .ok (.ifCond .ge 20, 3) := by decide +kernel
theorem dX1_walk_32 : decode cX1_walk 32 = .ok (.aload_n 1, 1) := by decide +kernel
theorem dX1_walk_33 : decode cX1_walk 33 = .ok (.getfield 67, 3) := by decide +kernel
theorem dX1_walk_36 : decode cX1_walk 36 = .ok (.bipush 77, 2) := by decide +kernel
theorem dX1_walk_38 : decode cX1_walk 38 = .ok (.if_icmp .lt 7, 3) := by decide +kernel
theorem dX1_walk_41 : decode cX1_walk 41 = .ok (.iconst 1, 1) := by decide +kernel
theorem dX1_walk_42 : decode cX1_walk 42 = .ok (.goto 23, 3) := by decide +kernel
theorem dX1_walk_45 : decode cX1_walk 45 = .ok (.iconst 0, 1) := by decide +kernel
theorem dX1_walk_46 : decode cX1_walk 46 = .ok (.goto 19, 3) := by decide +kernel
theorem dX1_walk_49 : decode cX1_walk 49 = .ok (.iload_n 3, 1) := by decide +kernel
theorem dX1_walk_50 : decode cX1_walk 50 = .ok (.aload_n 1, 1) := by decide +kernel
theorem dX1_walk_51 : decode cX1_walk 51 = .ok (.getfield 86, 3) := by decide +kernel
theorem dX1_walk_54 : decode cX1_walk 54 = .ok (.iload 4, 2) := by decide +kernel
theorem dX1_walk_56 : decode cX1_walk 56 = .ok (.iaload, 1) := by decide +kernel
theorem dX1_walk_57 : decode cX1_walk 57 = .ok (.if_icmp .lt 7, 3) := by decide +kernel
theorem dX1_walk_60 : decode cX1_walk 60 = .ok (.iconst 1, 1) := by decide +kernel
theorem dX1_walk_61 : decode cX1_walk 61 = .ok (.goto 4, 3) := by decide +kernel
theorem dX1_walk_64 : decode cX1_walk 64 = .ok (.iconst 0, 1) := by decide +kernel
theorem dX1_walk_65 : decode cX1_walk 65 = .ok (.istore 5, 2) := by decide +kernel
theorem dX1_walk_67 : decode cX1_walk 67 = .ok (.iload 5, 2) := by decide +kernel
theorem dX1_walk_69 : decode cX1_walk 69 = .ok (.ifCond .eq 4, 3) := by decide +kernel
theorem dX1_walk_72 : decode cX1_walk 72 = .ok (.return_, 1) := by decide +kernel
theorem dX1_walk_73 : decode cX1_walk 73 = .ok (.iload 4, 2) := by decide +kernel
theorem dX1_walk_75 : decode cX1_walk 75 = .ok (.ifCond .ge 11, 3) := by decide +kernel
theorem dX1_walk_78 : decode cX1_walk 78 = .ok (.aload_n 0, 1) := by decide +kernel
theorem dX1_walk_79 : decode cX1_walk 79 = .ok (.aload_n 1, 1) := by decide +kernel
theorem dX1_walk_80 : decode cX1_walk 80 = .ok (.iload_n 2, 1) := by decide +kernel
theorem dX1_walk_81 : decode cX1_walk 81 = .ok (.invokevirtual 89, 3) := by decide +kernel
theorem dX1_walk_84 : decode cX1_walk 84 = .ok (.istore 4, 2) := by decide +kernel
theorem dX1_walk_86 : decode cX1_walk 86 = .ok (.aload_n 1, 1) := by decide +kernel
theorem dX1_walk_87 : decode cX1_walk 87 = .ok (.getfield 86, 3) := by decide +kernel
theorem dX1_walk_90 : decode cX1_walk 90 = .ok (.iload 4, 2) := by decide +kernel
theorem dX1_walk_92 : decode cX1_walk 92 = .ok (.iload_n 3, 1) := by decide +kernel
theorem dX1_walk_93 : decode cX1_walk 93 = .ok (.iastore, 1) := by decide +kernel
theorem dX1_walk_94 : decode cX1_walk 94 = .ok (.aload_n 0, 1) := by decide +kernel
theorem dX1_walk_95 : decode cX1_walk 95 = .ok (.aload_n 1, 1) := by decide +kernel
theorem dX1_walk_96 : decode cX1_walk 96 = .ok (.aload_n 0, 1) := by decide +kernel
theorem dX1_walk_97 : decode cX1_walk 97 = .ok (.getfield 15, 3) := by decide +kernel
theorem dX1_walk_100 : decode cX1_walk 100 = .ok (.iload_n 2, 1) := by decide +kernel
theorem dX1_walk_101 : decode cX1_walk 101 = .ok (.iaload, 1) := by decide +kernel
theorem dX1_walk_102 : decode cX1_walk 102 = .ok (.iload_n 3, 1) := by decide +kernel
theorem dX1_walk_103 : decode cX1_walk 103 = .ok (.iconst 1, 1) := by decide +kernel
theorem dX1_walk_104 : decode cX1_walk 104 = .ok (.iadd, 1) := by decide +kernel
theorem dX1_walk_105 : decode cX1_walk 105 = .ok (.invokestatic 70, 3) := by decide +kernel
theorem dX1_walk_108 : decode cX1_walk 108 = .ok (.aload_n 0, 1) := by decide +kernel
theorem dX1_walk_109 : decode cX1_walk 109 = .ok (.aload_n 1, 1) := by decide +kernel
theorem dX1_walk_110 : decode cX1_walk 110 = .ok (.aload_n 0, 1) := by decide +kernel
theorem dX1_walk_111 : decode cX1_walk 111 = .ok (.getfield 18, 3) := by decide +kernel
theorem dX1_walk_114 : decode cX1_walk 114 = .ok (.iload_n 2, 1) := by decide +kernel
theorem dX1_walk_115 : decode cX1_walk 115 = .ok (.iaload, 1) := by decide +kernel
theorem dX1_walk_116 : decode cX1_walk 116 = .ok (.iload_n 3, 1) := by decide +kernel
theorem dX1_walk_117 : decode cX1_walk 117 = .ok (.iconst 1, 1) := by decide +kernel
theorem dX1_walk_118 : decode cX1_walk 118 = .ok (.iadd, 1) := by decide +kernel
theorem dX1_walk_119 : decode cX1_walk 119 = .ok (.invokestatic 70, 3) := by decide +kernel
theorem dX1_walk_122 : decode cX1_walk 122 = .ok (.return_, 1) := by decide +kernel
theorem dX1_putLast_0 : decode cX1_putLast 0 = .ok (.aload_n 1, 1) := by decide +kernel
theorem dX1_putLast_1 : decode cX1_putLast 1 = .ok (.getfield 67, 3) := by decide +kernel
theorem dX1_putLast_4 : decode cX1_putLast 4 = .ok (.istore_n 3, 1) := by decide +kernel
theorem dX1_putLast_5 : decode cX1_putLast 5 = .ok (.aload_n 1, 1) := by decide +kernel
theorem dX1_putLast_6 : decode cX1_putLast 6 = .ok (.dup, 1) := by decide +kernel
theorem dX1_putLast_7 : decode cX1_putLast 7 = .ok (.getfield 67, 3) := by decide +kernel
theorem dX1_putLast_10 : decode cX1_putLast 10 = .ok (.iconst 1, 1) := by decide +kernel
theorem dX1_putLast_11 : decode cX1_putLast 11 = .ok (.iadd, 1) := by decide +kernel
theorem dX1_putLast_12 : decode cX1_putLast 12 = .ok (.putfield 67, 3) := by decide +kernel
theorem dX1_putLast_15 : decode cX1_putLast 15 = .ok (.aload_n 1, 1) := by decide +kernel
theorem dX1_putLast_16 : decode cX1_putLast 16 = .ok (.getfield 74, 3) := by decide +kernel
theorem dX1_putLast_19 : decode cX1_putLast 19 = .ok (.iload_n 3, 1) := by decide +kernel
theorem dX1_putLast_20 : decode cX1_putLast 20 = .ok (.iload_n 2, 1) := by decide +kernel
theorem dX1_putLast_21 : decode cX1_putLast 21 = .ok (.iastore, 1) := by decide +kernel
theorem dX1_putLast_22 : decode cX1_putLast 22 = .ok (.aload_n 0, 1) := by decide +kernel
theorem dX1_putLast_23 : decode cX1_putLast 23 = .ok (.getfield 36, 3) := by decide +kernel
theorem dX1_putLast_26 : decode cX1_putLast 26 = .ok (.iload_n 2, 1) := by decide +kernel
theorem dX1_putLast_27 : decode cX1_putLast 27 = .ok (.iload_n 3, 1) := by decide +kernel
theorem dX1_putLast_28 : decode cX1_putLast 28 = .ok (.iastore, 1) := by decide +kernel
theorem dX1_putLast_29 : decode cX1_putLast 29 = .ok (.iload_n 3, 1) := by decide +kernel
theorem dX1_putLast_30 : decode cX1_putLast 30 = .ok (.ireturn, 1) := by decide +kernel
set_option maxRecDepth 20000 in
theorem ggX2_init_X1_init : GoodIn wsX2_init wsX1_init := goodIn_r _ [19, 20, 2, 3, 6, 21, 22, 23, 24, 25, 26, 27, 28, 29, 44, 45, 46, 47, 48, 49, 50, 51, 52, 53] (by decide +kernel) (by decide +kernel)
set_option maxRecDepth 20000 in
theorem gX2_init_X1_init_n21 : GoodIn wsX2_init (wsX1_init) := ggX2_init_X1_init
set_option maxRecDepth 20000 in
theorem ggX2_init_X0_init : GoodIn wsX2_init wsX0_init := goodIn_r _ [31, 32, 2, 3, 12, 33, 6, 34, 35, 36, 37, 54, 55, 56, 57, 58, 59, 60] (by decide +kernel) (by decide +kernel)
set_option maxRecDepth 20000 in
theorem gX2_init_X0_init_n36 : GoodIn wsX2_init (wsX0_init) := ggX2_init_X0_init
theorem dJ9_max_7cf53_0 : decode cJ9_max_7cf53 0 = .ok (.iload_n 0, 1) := by decide +kernel
theorem dJ9_max_7cf53_1 : decode cJ9_max_7cf53 1 = .ok (.iload_n 1, 1) := by decide +kernel
theorem dJ9_max_7cf53_2 : decode cJ9_max_7cf53 2 = .ok (.if_icmp .lt 7, 3) := by decide +kernel
theorem dJ9_max_7cf53_5 : decode cJ9_max_7cf53 5 = .ok (.iload_n 0, 1) := by decide +kernel
theorem dJ9_max_7cf53_6 : decode cJ9_max_7cf53 6 = .ok (.goto 4, 3) := by decide +kernel
theorem dJ9_max_7cf53_9 : decode cJ9_max_7cf53 9 = .ok (.iload_n 1, 1) := by decide +kernel
theorem dJ9_max_7cf53_10 : decode cJ9_max_7cf53 10 = .ok (.ireturn, 1) := by decide +kernel
theorem dJ9_min_7cf53_0 : decode cJ9_min_7cf53 0 = .ok (.iload_n 0, 1) := by decide +kernel
theorem dJ9_min_7cf53_1 : decode cJ9_min_7cf53 1 = .ok (.iload_n 1, 1) := by decide +kernel
theorem dJ9_min_7cf53_2 : decode cJ9_min_7cf53 2 = .ok (.if_icmp .gt 7, 3) := by decide +kernel
theorem dJ9_min_7cf53_5 : decode cJ9_min_7cf53 5 = .ok (.iload_n 0, 1) := by decide +kernel
theorem dJ9_min_7cf53_6 : decode cJ9_min_7cf53 6 = .ok (.goto 4, 3) := by decide +kernel
theorem dJ9_min_7cf53_9 : decode cJ9_min_7cf53 9 = .ok (.iload_n 1, 1) := by decide +kernel
theorem dJ9_min_7cf53_10 : decode cJ9_min_7cf53 10 = .ok (.ireturn, 1) := by decide +kernel
theorem dJ7_fill_53178_0 : decode cJ7_fill_53178 0 = .ok (.iconst 0, 1) := by decide +kernel
theorem dJ7_fill_53178_1 : decode cJ7_fill_53178 1 = .ok (.istore_n 2, 1) := by decide +kernel
theorem dJ7_fill_53178_2 : decode cJ7_fill_53178 2 = .ok (.aload_n 0, 1) := by decide +kernel
theorem dJ7_fill_53178_3 : decode cJ7_fill_53178 3 = .ok (.arraylength, 1) := by decide +kernel
theorem dJ7_fill_53178_4 : decode cJ7_fill_53178 4 = .ok (.istore_n 3, 1) := by decide +kernel
theorem dJ7_fill_53178_5 : decode cJ7_fill_53178 5 = .ok (.iload_n 2, 1) := by decide +kernel
theorem dJ7_fill_53178_6 : decode cJ7_fill_53178 6 = .ok (.iload_n 3, 1) := by decide +kernel
theorem dJ7_fill_53178_7 : decode cJ7_fill_53178 7 = .ok (.if_icmp .ge 13, 3) := by decide +kernel
theorem dJ7_fill_53178_10 : decode cJ7_fill_53178 10 = .ok (.aload_n 0, 1) := by decide +kernel
theorem dJ7_fill_53178_11 : decode cJ7_fill_53178 11 = .ok (.iload_n 2, 1) := by decide +kernel
theorem dJ7_fill_53178_12 : decode cJ7_fill_53178 12 = .ok (.iload_n 1, 1) := by decide +kernel
theorem dJ7_fill_53178_13 : decode cJ7_fill_53178 13 = .ok (.iastore, 1) := by decide +kernel
theorem dJ7_fill_53178_14 : decode cJ7_fill_53178 14 = .ok (.iinc 2 1, 3) := by decide +kernel
theorem dJ7_fill_53178_17 : decode cJ7_fill_53178 17 = .ok (.goto (-12), 3) := by decide +kernel
theorem dJ7_fill_53178_20 : decode cJ7_fill_53178 20 = .ok (.return_, 1) := by decide +kernel
