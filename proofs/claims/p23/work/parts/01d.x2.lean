theorem dX2_init_0 : decode cX2_init 0 = .ok (.aload_n 0, 1) := by decide +kernel
theorem dX2_init_1 : decode cX2_init 1 = .ok (.invokespecial 1, 3) := by decide +kernel
theorem dX2_init_4 : decode cX2_init 4 = .ok (.aload_n 0, 1) := by decide +kernel
theorem dX2_init_5 : decode cX2_init 5 = .ok (.bipush 12, 2) := by decide +kernel
theorem dX2_init_7 : decode cX2_init 7 = .ok (.anewarray 9, 3) := by decide +kernel
theorem dX2_init_10 : decode cX2_init 10 = .ok (.putfield 11, 3) := by decide +kernel
theorem dX2_init_13 : decode cX2_init 13 = .ok (.aload_n 0, 1) := by decide +kernel
theorem dX2_init_14 : decode cX2_init 14 = .ok (.bipush 8, 2) := by decide +kernel
theorem dX2_init_16 : decode cX2_init 16 = .ok (.newarray .int, 2) := by decide +kernel
theorem dX2_init_18 : decode cX2_init 18 = .ok (.putfield 15, 3) := by decide +kernel
theorem dX2_init_21 : decode cX2_init 21 = .ok (.aload_n 0, 1) := by decide +kernel
theorem dX2_init_22 : decode cX2_init 22 = .ok (.new 19, 3) := by decide +kernel
theorem dX2_init_25 : decode cX2_init 25 = .ok (.dup, 1) := by decide +kernel
theorem dX2_init_26 : decode cX2_init 26 = .ok (.invokespecial 21, 3) := by decide +kernel
theorem dX2_init_29 : decode cX2_init 29 = .ok (.putfield 22, 3) := by decide +kernel
theorem dX2_init_32 : decode cX2_init 32 = .ok (.aload_n 0, 1) := by decide +kernel
theorem dX2_init_33 : decode cX2_init 33 = .ok (.sipush 256, 3) := by decide +kernel
theorem dX2_init_36 : decode cX2_init 36 = .ok (.newarray .boolean, 2) := by decide +kernel
theorem dX2_init_38 : decode cX2_init 38 = .ok (.putfield 26, 3) := by decide +kernel
theorem dX2_init_41 : decode cX2_init 41 = .ok (.aload_n 0, 1) := by decide +kernel
theorem dX2_init_42 : decode cX2_init 42 = .ok (.bipush 8, 2) := by decide +kernel
theorem dX2_init_44 : decode cX2_init 44 = .ok (.newarray .int, 2) := by decide +kernel
theorem dX2_init_46 : decode cX2_init 46 = .ok (.putfield 30, 3) := by decide +kernel
theorem dX2_init_49 : decode cX2_init 49 = .ok (.aload_n 0, 1) := by decide +kernel
theorem dX2_init_50 : decode cX2_init 50 = .ok (.new 19, 3) := by decide +kernel
theorem dX2_init_53 : decode cX2_init 53 = .ok (.dup, 1) := by decide +kernel
theorem dX2_init_54 : decode cX2_init 54 = .ok (.invokespecial 21, 3) := by decide +kernel
theorem dX2_init_57 : decode cX2_init 57 = .ok (.putfield 33, 3) := by decide +kernel
theorem dX2_init_60 : decode cX2_init 60 = .ok (.iconst 0, 1) := by decide +kernel
theorem dX2_init_61 : decode cX2_init 61 = .ok (.istore_n 1, 1) := by decide +kernel
theorem dX2_init_62 : decode cX2_init 62 = .ok (.iload_n 1, 1) := by decide +kernel
theorem dX2_init_63 : decode cX2_init 63 = .ok (.bipush 12, 2) := by decide +kernel
theorem dX2_init_65 : decode cX2_init 65 = .ok (.if_icmp .ge 22, 3) := by decide +kernel
theorem dX2_init_68 : decode cX2_init 68 = .ok (.aload_n 0, 1) := by decide +kernel
theorem dX2_init_69 : decode cX2_init 69 = .ok (.getfield 11, 3) := by decide +kernel
theorem dX2_init_72 : decode cX2_init 72 = .ok (.iload_n 1, 1) := by decide +kernel
theorem dX2_init_73 : decode cX2_init 73 = .ok (.new 9, 3) := by decide +kernel
theorem dX2_init_76 : decode cX2_init 76 = .ok (.dup, 1) := by decide +kernel
theorem dX2_init_77 : decode cX2_init 77 = .ok (.invokespecial 36, 3) := by decide +kernel
theorem dX2_init_80 : decode cX2_init 80 = .ok (.aastore, 1) := by decide +kernel
theorem dX2_init_81 : decode cX2_init 81 = .ok (.iinc 1 1, 3) := by decide +kernel
theorem dX2_init_84 : decode cX2_init 84 = .ok (.goto (-22), 3) := by decide +kernel
theorem dX2_init_87 : decode cX2_init 87 = .ok (.iconst 0, 1) := by decide +kernel
theorem dX2_init_88 : decode cX2_init 88 = .ok (.istore_n 1, 1) := by decide +kernel
theorem dX2_init_89 : decode cX2_init 89 = .ok (.iload_n 1, 1) := by decide +kernel
theorem dX2_init_90 : decode cX2_init 90 = .ok (.bipush 8, 2) := by decide +kernel
theorem dX2_init_92 : decode cX2_init 92 = .ok (.if_icmp .ge 16, 3) := by decide +kernel
theorem dX2_init_95 : decode cX2_init 95 = .ok (.aload_n 0, 1) := by decide +kernel
theorem dX2_init_96 : decode cX2_init 96 = .ok (.getfield 15, 3) := by decide +kernel
theorem dX2_init_99 : decode cX2_init 99 = .ok (.iload_n 1, 1) := by decide +kernel
theorem dX2_init_100 : decode cX2_init 100 = .ok (.iload_n 1, 1) := by decide +kernel
theorem dX2_init_101 : decode cX2_init 101 = .ok (.iastore, 1) := by decide +kernel
theorem dX2_init_102 : decode cX2_init 102 = .ok (.iinc 1 1, 3) := by decide +kernel
theorem dX2_init_105 : decode cX2_init 105 = .ok (.goto (-16), 3) := by decide +kernel
theorem dX2_init_108 : decode cX2_init 108 = .ok (.return_, 1) := by decide +kernel
set_option maxRecDepth 20000 in
theorem ggX2_leaf_X2_freeNumber : GoodIn wsX2_leaf wsX2_freeNumber := goodIn_ca (goodIn_r _ [6, 7, 8, 1, 70, 71, 72, 73, 74, 75, 76, 77, 78, 79, 80, 81, 82] (by decide +kernel) (by decide +kernel)) (goodIn_sub (fun _ h => List.mem_cons_of_mem _ (List.mem_append_right _ h)) (by decide +kernel))
set_option maxRecDepth 20000 in
theorem gX2_leaf_X2_freeNumber : GoodIn wsX2_leaf (wsV RX2 37 RX2 yX2_freeNumber wsX2_freeNumber) := goodIn_app (goodIn_of _ (by decide +kernel)) ggX2_leaf_X2_freeNumber
set_option maxRecDepth 20000 in
theorem ggX2_leaf_X2_keep : GoodIn wsX2_leaf wsX2_keep := goodIn_r _ [12, 1, 13, 14, 15, 5, 16, 17, 18, 19, 20, 21, 22, 23, 24, 25, 26, 27, 28, 29, 30, 31, 32, 33, 34, 35, 36, 37, 38, 39, 40, 41, 42, 43, 44, 45, 46, 47, 48, 49, 50, 51, 52, 53, 54, 55, 56, 57, 58, 59, 60, 61, 62, 63, 64, 65, 66, 67, 68, 69, 70, 71, 72, 73, 74, 75, 76, 77, 78, 79, 80, 81, 82, 83, 84, 85, 86, 87, 88, 89, 90, 91, 92] (by decide +kernel) (by decide +kernel)
set_option maxRecDepth 20000 in
theorem gX2_leaf_X2_keep : GoodIn wsX2_leaf (wsV RX2 44 RX2 yX2_keep wsX2_keep) := goodIn_app (goodIn_of _ (by decide +kernel)) ggX2_leaf_X2_keep
theorem dX2_leaf_0 : decode cX2_leaf 0 = .ok (.aload_n 0, 1) := by decide +kernel
theorem dX2_leaf_1 : decode cX2_leaf 1 = .ok (.invokevirtual 37, 3) := by decide +kernel
theorem dX2_leaf_4 : decode cX2_leaf 4 = .ok (.istore_n 2, 1) := by decide +kernel
theorem dX2_leaf_5 : decode cX2_leaf 5 = .ok (.aload_n 0, 1) := by decide +kernel
theorem dX2_leaf_6 : decode cX2_leaf 6 = .ok (.getfield 11, 3) := by decide +kernel
theorem dX2_leaf_9 : decode cX2_leaf 9 = .ok (.iload_n 2, 1) := by decide +kernel
theorem dX2_leaf_10 : decode cX2_leaf 10 = .ok (.aaload, 1) := by decide +kernel
theorem dX2_leaf_11 : decode cX2_leaf 11 = .ok (.getfield 41, 3) := by decide +kernel
theorem dX2_leaf_14 : decode cX2_leaf 14 = .ok (.astore_n 3, 1) := by decide +kernel
theorem dX2_leaf_15 : decode cX2_leaf 15 = .ok (.iconst 0, 1) := by decide +kernel
theorem dX2_leaf_16 : decode cX2_leaf 16 = .ok (.istore 4, 2) := by decide +kernel
theorem dX2_leaf_18 : decode cX2_leaf 18 = .ok (.iload 4, 2) := by decide +kernel
theorem dX2_leaf_20 : decode cX2_leaf 20 = .ok (.sipush 256, 3) := by decide +kernel
theorem dX2_leaf_23 : decode cX2_leaf 23 = .ok (.if_icmp .ge 14, 3) := by decide +kernel
theorem dX2_leaf_26 : decode cX2_leaf 26 = .ok (.aload_n 3, 1) := by decide +kernel
theorem dX2_leaf_27 : decode cX2_leaf 27 = .ok (.iload 4, 2) := by decide +kernel
theorem dX2_leaf_29 : decode cX2_leaf 29 = .ok (.iload_n 1, 1) := by decide +kernel
theorem dX2_leaf_30 : decode cX2_leaf 30 = .ok (.bastore, 1) := by decide +kernel
theorem dX2_leaf_31 : decode cX2_leaf 31 = .ok (.iinc 4 1, 3) := by decide +kernel
theorem dX2_leaf_34 : decode cX2_leaf 34 = .ok (.goto (-16), 3) := by decide +kernel
theorem dX2_leaf_37 : decode cX2_leaf 37 = .ok (.aload_n 0, 1) := by decide +kernel
theorem dX2_leaf_38 : decode cX2_leaf 38 = .ok (.iload_n 2, 1) := by decide +kernel
theorem dX2_leaf_39 : decode cX2_leaf 39 = .ok (.invokevirtual 44, 3) := by decide +kernel
theorem dX2_leaf_42 : decode cX2_leaf 42 = .ok (.ireturn, 1) := by decide +kernel
set_option maxRecDepth 20000 in
theorem ggX2_ask_X2_checkBelow : GoodIn wsX2_ask wsX2_checkBelow := goodIn_ca (goodIn_r _ [5, 6, 7] (by decide +kernel) (by decide +kernel)) (goodIn_sub (fun _ h => List.mem_cons_of_mem _ (List.mem_append_left _ (List.mem_append_right _ h))) (by decide +kernel))
set_option maxRecDepth 20000 in
theorem gX2_ask_X2_checkBelow : GoodIn wsX2_ask (va_wsS RX2 48 yX2_checkBelow wsX2_checkBelow) := goodIn_app (goodIn_of _ (by decide +kernel)) ggX2_ask_X2_checkBelow
set_option maxRecDepth 20000 in
theorem ggX2_ask_X2_freeNumber : GoodIn wsX2_ask wsX2_freeNumber := goodIn_ca (goodIn_r _ [11, 12, 13, 1, 78, 79, 80, 81, 82, 83, 84, 85, 86, 87, 88, 89, 90] (by decide +kernel) (by decide +kernel)) (goodIn_sub (fun _ h => List.mem_cons_of_mem _ (List.mem_append_right _ h)) (by decide +kernel))
set_option maxRecDepth 20000 in
theorem gX2_ask_X2_freeNumber : GoodIn wsX2_ask (wsV RX2 37 RX2 yX2_freeNumber wsX2_freeNumber) := goodIn_app (goodIn_of _ (by decide +kernel)) ggX2_ask_X2_freeNumber
set_option maxRecDepth 20000 in
theorem ggX2_ask_X2_isYes : GoodIn wsX2_ask wsX2_isYes := goodIn_r _ [16] (by decide +kernel) (by decide +kernel)
set_option maxRecDepth 20000 in
theorem gX2_ask_X2_isYes : GoodIn wsX2_ask (va_wsS RX2 52 yX2_isYes wsX2_isYes) := goodIn_app (goodIn_of _ (by decide +kernel)) ggX2_ask_X2_isYes
set_option maxRecDepth 20000 in
theorem ggX2_ask_X2_keep : GoodIn wsX2_ask wsX2_keep := goodIn_r _ [20, 1, 21, 22, 23, 4, 24, 25, 26, 27, 28, 29, 30, 31, 32, 33, 34, 35, 36, 37, 38, 39, 40, 41, 42, 43, 44, 45, 46, 47, 48, 49, 50, 51, 52, 53, 54, 55, 56, 57, 58, 59, 60, 61, 62, 63, 64, 65, 66, 67, 68, 69, 70, 71, 72, 73, 74, 75, 76, 77, 78, 79, 80, 81, 82, 83, 84, 85, 86, 87, 88, 89, 90, 91, 92, 93, 94, 95, 96, 97, 98, 99, 100] (by decide +kernel) (by decide +kernel)
set_option maxRecDepth 20000 in
theorem gX2_ask_X2_keep : GoodIn wsX2_ask (wsV RX2 44 RX2 yX2_keep wsX2_keep) := goodIn_app (goodIn_of _ (by decide +kernel)) ggX2_ask_X2_keep
theorem dX2_ask_0 : decode cX2_ask 0 = .ok (.iload_n 1, 1) := by decide +kernel
theorem dX2_ask_1 : decode cX2_ask 1 = .ok (.bipush 8, 2) := by decide +kernel
theorem dX2_ask_3 : decode cX2_ask 3 = .ok (.invokestatic 48, 3) := by decide +kernel
theorem dX2_ask_6 : decode cX2_ask 6 = .ok (.aload_n 0, 1) := by decide +kernel
theorem dX2_ask_7 : decode cX2_ask 7 = .ok (.invokevirtual 37, 3) := by decide +kernel
theorem dX2_ask_10 : decode cX2_ask 10 = .ok (.istore_n 2, 1) := by decide +kernel
theorem dX2_ask_11 : decode cX2_ask 11 = .ok (.aload_n 0, 1) := by decide +kernel
theorem dX2_ask_12 : decode cX2_ask 12 = .ok (.getfield 11, 3) := by decide +kernel
theorem dX2_ask_15 : decode cX2_ask 15 = .ok (.iload_n 2, 1) := by decide +kernel
theorem dX2_ask_16 : decode cX2_ask 16 = .ok (.aaload, 1) := by decide +kernel
theorem dX2_ask_17 : decode cX2_ask 17 = .ok (.getfield 41, 3) := by decide +kernel
theorem dX2_ask_20 : decode cX2_ask 20 = .ok (.astore_n 3, 1) := by decide +kernel
theorem dX2_ask_21 : decode cX2_ask 21 = .ok (.iconst 0, 1) := by decide +kernel
theorem dX2_ask_22 : decode cX2_ask 22 = .ok (.istore 4, 2) := by decide +kernel
theorem dX2_ask_24 : decode cX2_ask 24 = .ok (.iload 4, 2) := by decide +kernel
theorem dX2_ask_26 : decode cX2_ask 26 = .ok (.sipush 256, 3) := by decide +kernel
theorem dX2_ask_29 : decode cX2_ask 29 = .ok (.if_icmp .ge 19, 3) := by decide +kernel
theorem dX2_ask_32 : decode cX2_ask 32 = .ok (.aload_n 3, 1) := by decide +kernel
theorem dX2_ask_33 : decode cX2_ask 33 = .ok (.iload 4, 2) := by decide +kernel
theorem dX2_ask_35 : decode cX2_ask 35 = .ok (.iload 4, 2) := by decide +kernel
theorem dX2_ask_37 : decode cX2_ask 37 = .ok (.iload_n 1, 1) := by decide +kernel
theorem dX2_ask_38 : decode cX2_ask 38 = .ok (.invokestatic 52, 3) := by decide +kernel
theorem dX2_ask_41 : decode cX2_ask 41 = .ok (.bastore, 1) := by decide +kernel
theorem dX2_ask_42 : decode cX2_ask 42 = .ok (.iinc 4 1, 3) := by decide +kernel
theorem dX2_ask_45 : decode cX2_ask 45 = .ok (.goto (-21), 3) := by decide +kernel
theorem dX2_ask_48 : decode cX2_ask 48 = .ok (.aload_n 0, 1) := by decide +kernel
theorem dX2_ask_49 : decode cX2_ask 49 = .ok (.iload_n 2, 1) := by decide +kernel
theorem dX2_ask_50 : decode cX2_ask 50 = .ok (.invokevirtual 44, 3) := by decide +kernel
theorem dX2_ask_53 : decode cX2_ask 53 = .ok (.ireturn, 1) := by decide +kernel
set_option maxRecDepth 20000 in
theorem ggX2_join_X2_foldAt : GoodIn wsX2_join wsX2_foldAt := goodIn_ca (goodIn_r _ [6, 7, 8, 1, 85, 86, 87, 88, 89, 90, 91, 92, 93, 94, 95, 96, 97] (by decide +kernel) (by decide +kernel)) (goodIn_sub (fun _ h => List.mem_cons_of_mem _ (List.mem_append_left _ (List.mem_append_right _ h))) (by decide +kernel))
set_option maxRecDepth 20000 in
theorem gX2_join_X2_foldAt : GoodIn wsX2_join (wsV RX2 56 RX2 yX2_foldAt wsX2_foldAt) := goodIn_app (goodIn_of _ (by decide +kernel)) ggX2_join_X2_foldAt
set_option maxRecDepth 20000 in
theorem ggX2_join_X2_checkBelow : GoodIn wsX2_join wsX2_checkBelow := goodIn_ca (goodIn_r _ [11, 7, 8] (by decide +kernel) (by decide +kernel)) (goodIn_sub (fun _ h => List.mem_cons_of_mem _ (List.mem_append_left _ (List.mem_append_right _ h))) (by decide +kernel))
set_option maxRecDepth 20000 in
theorem gX2_join_X2_checkBelow : GoodIn wsX2_join (va_wsS RX2 48 yX2_checkBelow wsX2_checkBelow) := goodIn_app (goodIn_of _ (by decide +kernel)) ggX2_join_X2_checkBelow
set_option maxRecDepth 20000 in
theorem ggX2_join_X2_freeNumber : GoodIn wsX2_join wsX2_freeNumber := goodIn_ca (goodIn_r _ [15, 16, 17, 1, 85, 86, 87, 88, 89, 90, 91, 92, 93, 94, 95, 96, 97] (by decide +kernel) (by decide +kernel)) (goodIn_sub (fun _ h => List.mem_cons_of_mem _ (List.mem_append_right _ h)) (by decide +kernel))
set_option maxRecDepth 20000 in
theorem gX2_join_X2_freeNumber : GoodIn wsX2_join (wsV RX2 37 RX2 yX2_freeNumber wsX2_freeNumber) := goodIn_app (goodIn_of _ (by decide +kernel)) ggX2_join_X2_freeNumber
set_option maxRecDepth 20000 in
theorem ggX2_join_X2_sayJoined : GoodIn wsX2_join wsX2_sayJoined := goodIn_r _ [20, 21, 22, 5, 23, 91, 92, 93, 94, 95, 96, 97] (by decide +kernel) (by decide +kernel)
set_option maxRecDepth 20000 in
theorem gX2_join_X2_sayJoined : GoodIn wsX2_join (va_wsS RX2 60 yX2_sayJoined wsX2_sayJoined) := goodIn_app (goodIn_of _ (by decide +kernel)) ggX2_join_X2_sayJoined
set_option maxRecDepth 20000 in
theorem ggX2_join_X2_keep : GoodIn wsX2_join wsX2_keep := goodIn_r _ [27, 1, 28, 29, 30, 5, 31, 32, 33, 34, 35, 36, 37, 38, 39, 40, 41, 42, 43, 44, 45, 46, 47, 48, 49, 50, 51, 52, 53, 54, 55, 56, 57, 58, 59, 60, 61, 62, 63, 64, 65, 66, 67, 68, 69, 70, 71, 72, 73, 74, 75, 76, 77, 78, 79, 80, 81, 82, 83, 84, 85, 86, 87, 88, 89, 90, 91, 92, 93, 94, 95, 96, 97, 98, 99, 100, 101, 102, 103, 104, 105, 106, 107] (by decide +kernel) (by decide +kernel)
set_option maxRecDepth 20000 in
theorem gX2_join_X2_keep : GoodIn wsX2_join (wsV RX2 44 RX2 yX2_keep wsX2_keep) := goodIn_app (goodIn_of _ (by decide +kernel)) ggX2_join_X2_keep
theorem dX2_join_0 : decode cX2_join 0 = .ok (.aload_n 0, 1) := by decide +kernel
theorem dX2_join_1 : decode cX2_join 1 = .ok (.iload_n 1, 1) := by decide +kernel
theorem dX2_join_2 : decode cX2_join 2 = .ok (.invokevirtual 56, 3) := by decide +kernel
theorem dX2_join_5 : decode cX2_join 5 = .ok (.astore 4, 2) := by decide +kernel
theorem dX2_join_7 : decode cX2_join 7 = .ok (.aload_n 0, 1) := by decide +kernel
theorem dX2_join_8 : decode cX2_join 8 = .ok (.iload_n 2, 1) := by decide +kernel
theorem dX2_join_9 : decode cX2_join 9 = .ok (.invokevirtual 56, 3) := by decide +kernel
theorem dX2_join_12 : decode cX2_join 12 = .ok (.astore 5, 2) := by decide +kernel
theorem dX2_join_14 : decode cX2_join 14 = .ok (.iload_n 3, 1) := by decide +kernel
theorem dX2_join_15 : decode cX2_join 15 = .ok (.bipush 6, 2) := by decide +kernel
theorem dX2_join_17 : decode cX2_join 17 = .ok (.invokestatic 48, 3) := by decide +kernel
theorem dX2_join_20 : decode cX2_join 20 = .ok (.aload_n 0, 1) := by decide +kernel
theorem dX2_join_21 : decode cX2_join 21 = .ok (.invokevirtual 37, 3) := by decide +kernel
theorem dX2_join_24 : decode cX2_join 24 = .ok (.istore 6, 2) := by decide +kernel
theorem dX2_join_26 : decode cX2_join 26 = .ok (.aload 4, 2) := by decide +kernel
theorem dX2_join_28 : decode cX2_join 28 = .ok (.aload 5, 2) := by decide +kernel
theorem dX2_join_30 : decode cX2_join 30 = .ok (.iload_n 3, 1) := by decide +kernel
theorem dX2_join_31 : decode cX2_join 31 = .ok (.aload_n 0, 1) := by decide +kernel
theorem dX2_join_32 : decode cX2_join 32 = .ok (.getfield 11, 3) := by decide +kernel
theorem dX2_join_35 : decode cX2_join 35 = .ok (.iload 6, 2) := by decide +kernel
theorem dX2_join_37 : decode cX2_join 37 = .ok (.aaload, 1) := by decide +kernel
theorem dX2_join_38 : decode cX2_join 38 = .ok (.getfield 41, 3) := by decide +kernel
theorem dX2_join_41 : decode cX2_join 41 = .ok (.invokestatic 60, 3) := by decide +kernel
theorem dX2_join_44 : decode cX2_join 44 = .ok (.aload_n 0, 1) := by decide +kernel
theorem dX2_join_45 : decode cX2_join 45 = .ok (.iload 6, 2) := by decide +kernel
theorem dX2_join_47 : decode cX2_join 47 = .ok (.invokevirtual 44, 3) := by decide +kernel
theorem dX2_join_50 : decode cX2_join 50 = .ok (.ireturn, 1) := by decide +kernel
set_option maxRecDepth 20000 in
theorem ggX2_choose_X2_foldAt : GoodIn wsX2_choose wsX2_foldAt := goodIn_ca (goodIn_r _ [6, 7, 8, 1, 76, 77, 78, 79, 80, 81, 82, 83, 84, 85, 86, 87, 88] (by decide +kernel) (by decide +kernel)) (goodIn_sub (fun _ h => List.mem_cons_of_mem _ (List.mem_append_left _ (List.mem_append_right _ h))) (by decide +kernel))
set_option maxRecDepth 20000 in
theorem gX2_choose_X2_foldAt : GoodIn wsX2_choose (wsV RX2 56 RX2 yX2_foldAt wsX2_foldAt) := goodIn_app (goodIn_of _ (by decide +kernel)) ggX2_choose_X2_foldAt
set_option maxRecDepth 20000 in
theorem ggX2_choose_X2_freeNumber : GoodIn wsX2_choose wsX2_freeNumber := goodIn_ca (goodIn_r _ [12, 13, 14, 1, 76, 77, 78, 79, 80, 81, 82, 83, 84, 85, 86, 87, 88] (by decide +kernel) (by decide +kernel)) (goodIn_sub (fun _ h => List.mem_cons_of_mem _ (List.mem_append_right _ h)) (by decide +kernel))
set_option maxRecDepth 20000 in
theorem gX2_choose_X2_freeNumber : GoodIn wsX2_choose (wsV RX2 37 RX2 yX2_freeNumber wsX2_freeNumber) := goodIn_app (goodIn_of _ (by decide +kernel)) ggX2_choose_X2_freeNumber
set_option maxRecDepth 20000 in
theorem ggX2_choose_X2_keep : GoodIn wsX2_choose wsX2_keep := goodIn_r _ [18, 1, 19, 20, 21, 5, 22, 23, 24, 25, 26, 27, 28, 29, 30, 31, 32, 33, 34, 35, 36, 37, 38, 39, 40, 41, 42, 43, 44, 45, 46, 47, 48, 49, 50, 51, 52, 53, 54, 55, 56, 57, 58, 59, 60, 61, 62, 63, 64, 65, 66, 67, 68, 69, 70, 71, 72, 73, 74, 75, 76, 77, 78, 79, 80, 81, 82, 83, 84, 85, 86, 87, 88, 89, 90, 91, 92, 93, 94, 95, 96, 97, 98] (by decide +kernel) (by decide +kernel)
set_option maxRecDepth 20000 in
theorem gX2_choose_X2_keep : GoodIn wsX2_choose (wsV RX2 44 RX2 yX2_keep wsX2_keep) := goodIn_app (goodIn_of _ (by decide +kernel)) ggX2_choose_X2_keep
theorem dX2_choose_0 : decode cX2_choose 0 = .ok (.aload_n 0, 1) := by decide +kernel
theorem dX2_choose_1 : decode cX2_choose 1 = .ok (.iload_n 1, 1) := by decide +kernel
theorem dX2_choose_2 : decode cX2_choose 2 = .ok (.invokevirtual 56, 3) := by decide +kernel
theorem dX2_choose_5 : decode cX2_choose 5 = .ok (.astore 4, 2) := by decide +kernel
theorem dX2_choose_7 : decode cX2_choose 7 = .ok (.aload_n 0, 1) := by decide +kernel
theorem dX2_choose_8 : decode cX2_choose 8 = .ok (.iload_n 2, 1) := by decide +kernel
theorem dX2_choose_9 : decode cX2_choose 9 = .ok (.invokevirtual 56, 3) := by decide +kernel
theorem dX2_choose_12 : decode cX2_choose 12 = .ok (.astore 5, 2) := by decide +kernel
theorem dX2_choose_14 : decode cX2_choose 14 = .ok (.aload_n 0, 1) := by decide +kernel
theorem dX2_choose_15 : decode cX2_choose 15 = .ok (.iload_n 3, 1) := by decide +kernel
theorem dX2_choose_16 : decode cX2_choose 16 = .ok (.invokevirtual 56, 3) := by decide +kernel
theorem dX2_choose_19 : decode cX2_choose 19 = .ok (.astore 6, 2) := by decide +kernel
theorem dX2_choose_21 : decode cX2_choose 21 = .ok (.aload_n 0, 1) := by decide +kernel
theorem dX2_choose_22 : decode cX2_choose 22 = .ok (.invokevirtual 37, 3) := by decide +kernel
theorem dX2_choose_25 : decode cX2_choose 25 = .ok (.istore 7, 2) := by decide +kernel
theorem dX2_choose_27 : decode cX2_choose 27 = .ok (.aload_n 0, 1) := by decide +kernel
theorem dX2_choose_28 : decode cX2_choose 28 = .ok (.getfield 11, 3) := by decide +kernel
theorem dX2_choose_31 : decode cX2_choose 31 = .ok (.iload 7, 2) := by decide +kernel
theorem dX2_choose_33 : decode cX2_choose 33 = .ok (.aaload, 1) := by decide +kernel
theorem dX2_choose_34 : decode cX2_choose 34 = .ok (.getfield 41, 3) := by decide +kernel
theorem dX2_choose_37 : decode cX2_choose 37 = .ok (.astore 8, 2) := by decide +kernel
theorem dX2_choose_39 : decode cX2_choose 39 = .ok (.iconst 0, 1) := by decide +kernel
theorem dX2_choose_40 : decode cX2_choose 40 = .ok (.istore 9, 2) := by decide +kernel
theorem dX2_choose_42 : decode cX2_choose 42 = .ok (.iload 9, 2) := by decide +kernel
theorem dX2_choose_44 : decode cX2_choose 44 = .ok (.sipush 256, 3) := by decide +kernel
theorem dX2_choose_47 : decode cX2_choose 47 = .ok (.if_icmp .ge 44, 3) := by decide +kernel
theorem dX2_choose_50 : decode cX2_choose 50 = .ok (.aload 8, 2) := by decide +kernel
theorem dX2_choose_52 : decode cX2_choose 52 = .ok (.iload 9, 2) := by decide +kernel
theorem dX2_choose_54 : decode cX2_choose 54 = .ok (.aload 4, 2) := by decide +kernel
theorem dX2_choose_56 : decode cX2_choose 56 = .ok (.getfield 41, 3) := by decide +kernel
theorem dX2_choose_59 : decode cX2_choose 59 = .ok (.iload 9, 2) := by decide +kernel
theorem dX2_choose_61 : decode cX2_choose 61 = .ok (.baload, 1) := by decide +kernel
theorem dX2_choose_62 : decode cX2_choose 62 = .ok (.ifCond .eq 14, 3) := by decide +kernel
theorem dX2_choose_65 : decode cX2_choose 65 = .ok (.aload 5, 2) := by decide +kernel
theorem dX2_choose_67 : decode cX2_choose 67 = .ok (.getfield 41, 3) := by decide +kernel
theorem dX2_choose_70 : decode cX2_choose 70 = .ok (.iload 9, 2) := by decide +kernel
theorem dX2_choose_72 : decode cX2_choose 72 = .ok (.baload, 1) := by decide +kernel
theorem dX2_choose_73 : decode cX2_choose 73 = .ok (.goto 11, 3) := by decide +kernel
theorem dX2_choose_76 : decode cX2_choose 76 = .ok (.aload 6, 2) := by decide +kernel
theorem dX2_choose_78 : decode cX2_choose 78 = .ok (.getfield 41, 3) := by decide +kernel
theorem dX2_choose_81 : decode cX2_choose 81 = .ok (.iload 9, 2) := by decide +kernel
theorem dX2_choose_83 : decode cX2_choose 83 = .ok (.baload, 1) := by decide +kernel
theorem dX2_choose_84 : decode cX2_choose 84 = .ok (.bastore, 1) := by decide +kernel
theorem dX2_choose_85 : decode cX2_choose 85 = .ok (.iinc 9 1, 3) := by decide +kernel
theorem dX2_choose_88 : decode cX2_choose 88 = .ok (.goto (-46), 3) := by decide +kernel
theorem dX2_choose_91 : decode cX2_choose 91 = .ok (.aload_n 0, 1) := by decide +kernel
theorem dX2_choose_92 : decode cX2_choose 92 = .ok (.iload 7, 2) := by decide +kernel
theorem dX2_choose_94 : decode cX2_choose 94 = .ok (.invokevirtual 44, 3) := by decide +kernel
theorem dX2_choose_97 : decode cX2_choose 97 = .ok (.ireturn, 1) := by decide +kernel
set_option maxRecDepth 20000 in
theorem ggX2_given_X2_foldAt : GoodIn wsX2_given wsX2_foldAt := goodIn_ca (goodIn_r _ [6, 7, 8, 1, 82, 83, 84, 85, 86, 87, 88, 89, 90, 91, 92, 93, 94] (by decide +kernel) (by decide +kernel)) (goodIn_sub (fun _ h => List.mem_cons_of_mem _ (List.mem_append_left _ (List.mem_append_right _ h))) (by decide +kernel))
set_option maxRecDepth 20000 in
theorem gX2_given_X2_foldAt : GoodIn wsX2_given (wsV RX2 56 RX2 yX2_foldAt wsX2_foldAt) := goodIn_app (goodIn_of _ (by decide +kernel)) ggX2_given_X2_foldAt
set_option maxRecDepth 20000 in
theorem ggX2_given_X2_checkBelow : GoodIn wsX2_given wsX2_checkBelow := goodIn_ca (goodIn_r _ [11, 7, 8] (by decide +kernel) (by decide +kernel)) (goodIn_sub (fun _ h => List.mem_cons_of_mem _ (List.mem_append_left _ (List.mem_append_right _ h))) (by decide +kernel))
set_option maxRecDepth 20000 in
theorem gX2_given_X2_checkBelow : GoodIn wsX2_given (va_wsS RX2 48 yX2_checkBelow wsX2_checkBelow) := goodIn_app (goodIn_of _ (by decide +kernel)) ggX2_given_X2_checkBelow
set_option maxRecDepth 20000 in
theorem ggX2_given_X2_freeNumber : GoodIn wsX2_given wsX2_freeNumber := goodIn_ca (goodIn_r _ [15, 16, 17, 1, 82, 83, 84, 85, 86, 87, 88, 89, 90, 91, 92, 93, 94] (by decide +kernel) (by decide +kernel)) (goodIn_sub (fun _ h => List.mem_cons_of_mem _ (List.mem_append_right _ h)) (by decide +kernel))
set_option maxRecDepth 20000 in
theorem gX2_given_X2_freeNumber : GoodIn wsX2_given (wsV RX2 37 RX2 yX2_freeNumber wsX2_freeNumber) := goodIn_app (goodIn_of _ (by decide +kernel)) ggX2_given_X2_freeNumber
set_option maxRecDepth 20000 in
theorem ggX2_given_X2_withAnswer : GoodIn wsX2_given wsX2_withAnswer := goodIn_r _ [20] (by decide +kernel) (by decide +kernel)
set_option maxRecDepth 20000 in
theorem gX2_given_X2_withAnswer : GoodIn wsX2_given (va_wsS RX2 64 yX2_withAnswer wsX2_withAnswer) := goodIn_app (goodIn_of _ (by decide +kernel)) ggX2_given_X2_withAnswer
set_option maxRecDepth 20000 in
theorem ggX2_given_X2_keep : GoodIn wsX2_given wsX2_keep := goodIn_r _ [24, 1, 25, 26, 27, 5, 28, 29, 30, 31, 32, 33, 34, 35, 36, 37, 38, 39, 40, 41, 42, 43, 44, 45, 46, 47, 48, 49, 50, 51, 52, 53, 54, 55, 56, 57, 58, 59, 60, 61, 62, 63, 64, 65, 66, 67, 68, 69, 70, 71, 72, 73, 74, 75, 76, 77, 78, 79, 80, 81, 82, 83, 84, 85, 86, 87, 88, 89, 90, 91, 92, 93, 94, 95, 96, 97, 98, 99, 100, 101, 102, 103, 104] (by decide +kernel) (by decide +kernel)
set_option maxRecDepth 20000 in
theorem gX2_given_X2_keep : GoodIn wsX2_given (wsV RX2 44 RX2 yX2_keep wsX2_keep) := goodIn_app (goodIn_of _ (by decide +kernel)) ggX2_given_X2_keep
theorem dX2_given_0 : decode cX2_given 0 = .ok (.aload_n 0, 1) := by decide +kernel
theorem dX2_given_1 : decode cX2_given 1 = .ok (.iload_n 1, 1) := by decide +kernel
theorem dX2_given_2 : decode cX2_given 2 = .ok (.invokevirtual 56, 3) := by decide +kernel
theorem dX2_given_5 : decode cX2_given 5 = .ok (.astore 4, 2) := by decide +kernel
theorem dX2_given_7 : decode cX2_given 7 = .ok (.iload_n 2, 1) := by decide +kernel
theorem dX2_given_8 : decode cX2_given 8 = .ok (.bipush 8, 2) := by decide +kernel
theorem dX2_given_10 : decode cX2_given 10 = .ok (.invokestatic 48, 3) := by decide +kernel
theorem dX2_given_13 : decode cX2_given 13 = .ok (.aload_n 0, 1) := by decide +kernel
theorem dX2_given_14 : decode cX2_given 14 = .ok (.invokevirtual 37, 3) := by decide +kernel
theorem dX2_given_17 : decode cX2_given 17 = .ok (.istore 5, 2) := by decide +kernel
theorem dX2_given_19 : decode cX2_given 19 = .ok (.aload_n 0, 1) := by decide +kernel
theorem dX2_given_20 : decode cX2_given 20 = .ok (.getfield 11, 3) := by decide +kernel
theorem dX2_given_23 : decode cX2_given 23 = .ok (.iload 5, 2) := by decide +kernel
theorem dX2_given_25 : decode cX2_given 25 = .ok (.aaload, 1) := by decide +kernel
theorem dX2_given_26 : decode cX2_given 26 = .ok (.getfield 41, 3) := by decide +kernel
theorem dX2_given_29 : decode cX2_given 29 = .ok (.astore 6, 2) := by decide +kernel
theorem dX2_given_31 : decode cX2_given 31 = .ok (.iconst 0, 1) := by decide +kernel
theorem dX2_given_32 : decode cX2_given 32 = .ok (.istore 7, 2) := by decide +kernel
theorem dX2_given_34 : decode cX2_given 34 = .ok (.iload 7, 2) := by decide +kernel
theorem dX2_given_36 : decode cX2_given 36 = .ok (.sipush 256, 3) := by decide +kernel
theorem dX2_given_39 : decode cX2_given 39 = .ok (.if_icmp .ge 27, 3) := by decide +kernel
theorem dX2_given_42 : decode cX2_given 42 = .ok (.aload 6, 2) := by decide +kernel
theorem dX2_given_44 : decode cX2_given 44 = .ok (.iload 7, 2) := by decide +kernel
theorem dX2_given_46 : decode cX2_given 46 = .ok (.aload 4, 2) := by decide +kernel
theorem dX2_given_48 : decode cX2_given 48 = .ok (.getfield 41, 3) := by decide +kernel
theorem dX2_given_51 : decode cX2_given 51 = .ok (.iload 7, 2) := by decide +kernel
theorem dX2_given_53 : decode cX2_given 53 = .ok (.iload_n 2, 1) := by decide +kernel
theorem dX2_given_54 : decode cX2_given 54 = .ok (.iload_n 3, 1) := by decide +kernel
theorem dX2_given_55 : decode cX2_given 55 = .ok (.invokestatic 64, 3) := by decide +kernel
theorem dX2_given_58 : decode cX2_given 58 = .ok (.baload, 1) := by decide +kernel
theorem dX2_given_59 : decode cX2_given 59 = .ok (.bastore, 1) := by decide +kernel
theorem dX2_given_60 : decode cX2_given 60 = .ok (.iinc 7 1, 3) := by decide +kernel
theorem dX2_given_63 : decode cX2_given 63 = .ok (.goto (-29), 3) := by decide +kernel
theorem dX2_given_66 : decode cX2_given 66 = .ok (.aload_n 0, 1) := by decide +kernel
theorem dX2_given_67 : decode cX2_given 67 = .ok (.iload 5, 2) := by decide +kernel
theorem dX2_given_69 : decode cX2_given 69 = .ok (.invokevirtual 44, 3) := by decide +kernel
theorem dX2_given_72 : decode cX2_given 72 = .ok (.ireturn, 1) := by decide +kernel
set_option maxRecDepth 20000 in
theorem ggX2_without_X2_foldAt : GoodIn wsX2_without wsX2_foldAt := goodIn_ca (goodIn_r _ [6, 7, 8, 1, 82, 83, 84, 85, 86, 87, 88, 89, 90, 91, 92, 93, 94] (by decide +kernel) (by decide +kernel)) (goodIn_sub (fun _ h => List.mem_cons_of_mem _ (List.mem_append_left _ (List.mem_append_right _ h))) (by decide +kernel))
set_option maxRecDepth 20000 in
theorem gX2_without_X2_foldAt : GoodIn wsX2_without (wsV RX2 56 RX2 yX2_foldAt wsX2_foldAt) := goodIn_app (goodIn_of _ (by decide +kernel)) ggX2_without_X2_foldAt
set_option maxRecDepth 20000 in
theorem ggX2_without_X2_checkBelow : GoodIn wsX2_without wsX2_checkBelow := goodIn_ca (goodIn_r _ [11, 7, 8] (by decide +kernel) (by decide +kernel)) (goodIn_sub (fun _ h => List.mem_cons_of_mem _ (List.mem_append_left _ (List.mem_append_right _ h))) (by decide +kernel))
set_option maxRecDepth 20000 in
theorem gX2_without_X2_checkBelow : GoodIn wsX2_without (va_wsS RX2 48 yX2_checkBelow wsX2_checkBelow) := goodIn_app (goodIn_of _ (by decide +kernel)) ggX2_without_X2_checkBelow
set_option maxRecDepth 20000 in
theorem ggX2_without_X2_freeNumber : GoodIn wsX2_without wsX2_freeNumber := goodIn_ca (goodIn_r _ [15, 16, 17, 1, 82, 83, 84, 85, 86, 87, 88, 89, 90, 91, 92, 93, 94] (by decide +kernel) (by decide +kernel)) (goodIn_sub (fun _ h => List.mem_cons_of_mem _ (List.mem_append_right _ h)) (by decide +kernel))
set_option maxRecDepth 20000 in
theorem gX2_without_X2_freeNumber : GoodIn wsX2_without (wsV RX2 37 RX2 yX2_freeNumber wsX2_freeNumber) := goodIn_app (goodIn_of _ (by decide +kernel)) ggX2_without_X2_freeNumber
set_option maxRecDepth 20000 in
theorem ggX2_without_X2_withAnswer : GoodIn wsX2_without wsX2_withAnswer := goodIn_r _ [20] (by decide +kernel) (by decide +kernel)
set_option maxRecDepth 20000 in
theorem gX2_without_X2_withAnswer : GoodIn wsX2_without (va_wsS RX2 64 yX2_withAnswer wsX2_withAnswer) := goodIn_app (goodIn_of _ (by decide +kernel)) ggX2_without_X2_withAnswer
set_option maxRecDepth 20000 in
theorem ggX2_without_X2_keep : GoodIn wsX2_without wsX2_keep := goodIn_r _ [24, 1, 25, 26, 27, 5, 28, 29, 30, 31, 32, 33, 34, 35, 36, 37, 38, 39, 40, 41, 42, 43, 44, 45, 46, 47, 48, 49, 50, 51, 52, 53, 54, 55, 56, 57, 58, 59, 60, 61, 62, 63, 64, 65, 66, 67, 68, 69, 70, 71, 72, 73, 74, 75, 76, 77, 78, 79, 80, 81, 82, 83, 84, 85, 86, 87, 88, 89, 90, 91, 92, 93, 94, 95, 96, 97, 98, 99, 100, 101, 102, 103, 104] (by decide +kernel) (by decide +kernel)
set_option maxRecDepth 20000 in
theorem gX2_without_X2_keep : GoodIn wsX2_without (wsV RX2 44 RX2 yX2_keep wsX2_keep) := goodIn_app (goodIn_of _ (by decide +kernel)) ggX2_without_X2_keep
theorem dX2_without_0 : decode cX2_without 0 = .ok (.aload_n 0, 1) := by decide +kernel
theorem dX2_without_1 : decode cX2_without 1 = .ok (.iload_n 1, 1) := by decide +kernel
theorem dX2_without_2 : decode cX2_without 2 = .ok (.invokevirtual 56, 3) := by decide +kernel
theorem dX2_without_5 : decode cX2_without 5 = .ok (.astore 4, 2) := by decide +kernel
theorem dX2_without_7 : decode cX2_without 7 = .ok (.iload_n 2, 1) := by decide +kernel
theorem dX2_without_8 : decode cX2_without 8 = .ok (.bipush 8, 2) := by decide +kernel
theorem dX2_without_10 : decode cX2_without 10 = .ok (.invokestatic 48, 3) := by decide +kernel
theorem dX2_without_13 : decode cX2_without 13 = .ok (.aload_n 0, 1) := by decide +kernel
theorem dX2_without_14 : decode cX2_without 14 = .ok (.invokevirtual 37, 3) := by decide +kernel
theorem dX2_without_17 : decode cX2_without 17 = .ok (.istore 5, 2) := by decide +kernel
theorem dX2_without_19 : decode cX2_without 19 = .ok (.aload_n 0, 1) := by decide +kernel
theorem dX2_without_20 : decode cX2_without 20 = .ok (.getfield 11, 3) := by decide +kernel
theorem dX2_without_23 : decode cX2_without 23 = .ok (.iload 5, 2) := by decide +kernel
theorem dX2_without_25 : decode cX2_without 25 = .ok (.aaload, 1) := by decide +kernel
theorem dX2_without_26 : decode cX2_without 26 = .ok (.getfield 41, 3) := by decide +kernel
theorem dX2_without_29 : decode cX2_without 29 = .ok (.astore 6, 2) := by decide +kernel
theorem dX2_without_31 : decode cX2_without 31 = .ok (.iconst 0, 1) := by decide +kernel
theorem dX2_without_32 : decode cX2_without 32 = .ok (.istore 7, 2) := by decide +kernel
theorem dX2_without_34 : decode cX2_without 34 = .ok (.iload 7, 2) := by decide +kernel
theorem dX2_without_36 : decode cX2_without 36 = .ok (.sipush 256, 3) := by decide +kernel
theorem dX2_without_39 : decode cX2_without 39 = .ok (.if_icmp .ge 81, 3) := by decide +kernel
theorem dX2_without_42 : decode cX2_without 42 = .ok (.aload 4, 2) := by decide +kernel
theorem dX2_without_44 : decode cX2_without 44 = .ok (.getfield 41, 3) := by decide +kernel
theorem dX2_without_47 : decode cX2_without 47 = .ok (.iload 7, 2) := by decide +kernel
theorem dX2_without_49 : decode cX2_without 49 = .ok (.iload_n 2, 1) := by decide +kernel
theorem dX2_without_50 : decode cX2_without 50 = .ok (.iconst 0, 1) := by decide +kernel
theorem dX2_without_51 : decode cX2_without 51 = .ok (.invokestatic 64, 3) := by decide +kernel
theorem dX2_without_54 : decode cX2_without 54 = .ok (.baload, 1) := by decide +kernel
theorem dX2_without_55 : decode cX2_without 55 = .ok (.istore 8, 2) := by decide +kernel
theorem dX2_without_57 : decode cX2_without 57 = .ok (.aload 4, 2) := by decide +kernel
theorem dX2_without_59 : decode cX2_without 59 = .ok (.getfield 41, 3) := by decide +kernel
theorem dX2_without_62 : decode cX2_without 62 = .ok (.iload 7, 2) := by decide +kernel
theorem dX2_without_64 : decode cX2_without 64 = .ok (.iload_n 2, 1) := by decide +kernel
theorem dX2_without_65 : decode cX2_without 65 = .ok (.iconst 1, 1) := by decide +kernel
theorem dX2_without_66 : decode cX2_without 66 = .ok (.invokestatic 64, 3) := by decide +kernel
theorem dX2_without_69 : decode cX2_without 69 = .ok (.baload, 1) := by decide +kernel
theorem dX2_without_70 : decode cX2_without 70 = .ok (.istore 9, 2) := by decide +kernel
theorem dX2_without_72 : decode cX2_without 72 = .ok (.aload 6, 2) := by decide +kernel
theorem dX2_without_74 : decode cX2_without 74 = .ok (.iload 7, 2) := by decide +kernel
theorem dX2_without_76 : decode cX2_without 76 = .ok (.iload_n 3, 1) := by decide +kernel
theorem dX2_without_77 : decode cX2_without 77 = .ok (.ifCond .eq 21, 3) := by decide +kernel
theorem dX2_without_80 : decode cX2_without 80 = .ok (.iload 8, 2) := by decide +kernel
theorem dX2_without_82 : decode cX2_without 82 = .ok (.ifCond .eq 12, 3) := by decide +kernel
theorem dX2_without_85 : decode cX2_without 85 = .ok (.iload 9, 2) := by decide +kernel
theorem dX2_without_87 : decode cX2_without 87 = .ok (.ifCond .eq 7, 3) := by decide +kernel
theorem dX2_without_90 : decode cX2_without 90 = .ok (.iconst 1, 1) := by decide +kernel
theorem dX2_without_91 : decode cX2_without 91 = .ok (.goto 22, 3) := by decide +kernel
theorem dX2_without_94 : decode cX2_without 94 = .ok (.iconst 0, 1) := by decide +kernel
theorem dX2_without_95 : decode cX2_without 95 = .ok (.goto 18, 3) := by decide +kernel
theorem dX2_without_98 : decode cX2_without 98 = .ok (.iload 8, 2) := by decide +kernel
theorem dX2_without_100 : decode cX2_without 100 = .ok (.ifCond .ne 8, 3) := by decide +kernel
theorem dX2_without_103 : decode cX2_without 103 = .ok (.iload 9, 2) := by decide +kernel
theorem dX2_without_105 : decode cX2_without 105 = .ok (.ifCond .eq 7, 3) := by decide +kernel
theorem dX2_without_108 : decode cX2_without 108 = .ok (.iconst 1, 1) := by decide +kernel
theorem dX2_without_109 : decode cX2_without 109 = .ok (.goto 4, 3) := by decide +kernel
theorem dX2_without_112 : decode cX2_without 112 = .ok (.iconst 0, 1) := by decide +kernel
theorem dX2_without_113 : decode cX2_without 113 = .ok (.bastore, 1) := by decide +kernel
theorem dX2_without_114 : decode cX2_without 114 = .ok (.iinc 7 1, 3) := by decide +kernel
theorem dX2_without_117 : decode cX2_without 117 = .ok (.goto (-83), 3) := by decide +kernel
theorem dX2_without_120 : decode cX2_without 120 = .ok (.aload_n 0, 1) := by decide +kernel
theorem dX2_without_121 : decode cX2_without 121 = .ok (.iload 5, 2) := by decide +kernel
theorem dX2_without_123 : decode cX2_without 123 = .ok (.invokevirtual 44, 3) := by decide +kernel
theorem dX2_without_126 : decode cX2_without 126 = .ok (.ireturn, 1) := by decide +kernel
set_option maxRecDepth 20000 in
theorem ggX2_drop_X2_foldAt : GoodIn wsX2_drop wsX2_foldAt := goodIn_ca (goodIn_r _ [5, 6, 7, 8, 77, 78, 79, 80, 81, 82, 70, 71, 72, 73, 74, 75, 76] (by decide +kernel) (by decide +kernel)) (goodIn_sub (fun _ h => List.mem_cons_of_mem _ (List.mem_append_right _ h)) (by decide +kernel))
set_option maxRecDepth 20000 in
theorem gX2_drop_X2_foldAt : GoodIn wsX2_drop (wsV RX2 56 RX2 yX2_foldAt wsX2_foldAt) := goodIn_app (goodIn_of _ (by decide +kernel)) ggX2_drop_X2_foldAt
set_option maxRecDepth 20000 in
theorem ggX2_drop_X2_layAll : GoodIn wsX2_drop wsX2_layAll := goodIn_r _ [12, 13, 14, 8, 15, 16, 17, 18, 19, 20, 21, 22, 23, 24, 25, 26, 27, 28, 29, 30, 31, 32, 33, 34, 35, 36, 37, 38, 39, 40, 41, 42, 43, 44, 45, 46, 47, 48, 49, 50, 51, 52, 53, 54, 55, 56, 57, 58, 59, 60, 61, 62, 63, 64, 65, 77, 78, 79, 80, 81, 82, 70, 71, 72, 73, 74, 75, 76, 83, 84, 85, 86, 87, 88, 89, 90, 91, 92] (by decide +kernel) (by decide +kernel)
set_option maxRecDepth 20000 in
theorem gX2_drop_X2_layAll : GoodIn wsX2_drop (wsV RX2 72 RX2 yX2_layAll wsX2_layAll) := goodIn_app (goodIn_of _ (by decide +kernel)) ggX2_drop_X2_layAll
set_option maxRecDepth 20000 in
theorem ggX2_drop_X2_countKept : GoodIn wsX2_drop wsX2_countKept := goodIn_r _ [69, 8, 77, 78, 79, 80, 81, 82, 70, 71, 72, 73, 74, 75, 76] (by decide +kernel) (by decide +kernel)
set_option maxRecDepth 20000 in
theorem gX2_drop_X2_countKept : GoodIn wsX2_drop (wsV RX2 75 RX2 yX2_countKept wsX2_countKept) := goodIn_app (goodIn_of _ (by decide +kernel)) ggX2_drop_X2_countKept
theorem dX2_drop_0 : decode cX2_drop 0 = .ok (.aload_n 0, 1) := by decide +kernel
theorem dX2_drop_1 : decode cX2_drop 1 = .ok (.iload_n 1, 1) := by decide +kernel
theorem dX2_drop_2 : decode cX2_drop 2 = .ok (.invokevirtual 56, 3) := by decide +kernel
theorem dX2_drop_5 : decode cX2_drop 5 = .ok (.iconst 0, 1) := by decide +kernel
theorem dX2_drop_6 : decode cX2_drop 6 = .ok (.putfield 68, 3) := by decide +kernel
theorem dX2_drop_9 : decode cX2_drop 9 = .ok (.aload_n 0, 1) := by decide +kernel
theorem dX2_drop_10 : decode cX2_drop 10 = .ok (.invokevirtual 72, 3) := by decide +kernel
theorem dX2_drop_13 : decode cX2_drop 13 = .ok (.aload_n 0, 1) := by decide +kernel
theorem dX2_drop_14 : decode cX2_drop 14 = .ok (.invokevirtual 75, 3) := by decide +kernel
theorem dX2_drop_17 : decode cX2_drop 17 = .ok (.ireturn, 1) := by decide +kernel
set_option maxRecDepth 20000 in
theorem ggX2_swap_X2_checkBelow : GoodIn wsX2_swap wsX2_checkBelow := goodIn_ca (goodIn_r _ [6, 7, 8] (by decide +kernel) (by decide +kernel)) (goodIn_sub (fun _ h => List.mem_cons_of_mem _ (List.mem_append_right _ h)) (by decide +kernel))
set_option maxRecDepth 20000 in
theorem gX2_swap_X2_checkBelow : GoodIn wsX2_swap (va_wsS RX2 48 yX2_checkBelow wsX2_checkBelow) := goodIn_app (goodIn_of _ (by decide +kernel)) ggX2_swap_X2_checkBelow
set_option maxRecDepth 20000 in
theorem ggX2_swap_X2_exchange : GoodIn wsX2_swap wsX2_exchange := goodIn_r _ [11] (by decide +kernel) (by decide +kernel)
set_option maxRecDepth 20000 in
theorem gX2_swap_X2_exchange : GoodIn wsX2_swap (va_wsS RX2 78 yX2_exchange wsX2_exchange) := goodIn_app (goodIn_of _ (by decide +kernel)) ggX2_swap_X2_exchange
set_option maxRecDepth 20000 in
theorem ggX2_swap_X2_layAll : GoodIn wsX2_swap wsX2_layAll := goodIn_r _ [15, 2, 1, 16, 17, 18, 19, 20, 21, 22, 23, 24, 25, 26, 27, 28, 29, 30, 31, 32, 33, 34, 35, 36, 37, 38, 39, 40, 41, 42, 43, 44, 45, 46, 47, 48, 49, 50, 51, 52, 53, 54, 55, 56, 57, 58, 59, 60, 61, 62, 63, 64, 65, 66, 67, 68, 69, 70, 71, 72, 73, 84, 85, 86, 87, 88, 89, 90, 74, 75, 76, 77, 78, 79, 80, 81, 82, 83] (by decide +kernel) (by decide +kernel)
set_option maxRecDepth 20000 in
theorem gX2_swap_X2_layAll : GoodIn wsX2_swap (wsV RX2 72 RX2 yX2_layAll wsX2_layAll) := goodIn_app (goodIn_of _ (by decide +kernel)) ggX2_swap_X2_layAll
theorem dX2_swap_0 : decode cX2_swap 0 = .ok (.iload_n 1, 1) := by decide +kernel
theorem dX2_swap_1 : decode cX2_swap 1 = .ok (.bipush 7, 2) := by decide +kernel
theorem dX2_swap_3 : decode cX2_swap 3 = .ok (.invokestatic 48, 3) := by decide +kernel
theorem dX2_swap_6 : decode cX2_swap 6 = .ok (.aload_n 0, 1) := by decide +kernel
theorem dX2_swap_7 : decode cX2_swap 7 = .ok (.getfield 15, 3) := by decide +kernel
theorem dX2_swap_10 : decode cX2_swap 10 = .ok (.iload_n 1, 1) := by decide +kernel
theorem dX2_swap_11 : decode cX2_swap 11 = .ok (.invokestatic 78, 3) := by decide +kernel
theorem dX2_swap_14 : decode cX2_swap 14 = .ok (.aload_n 0, 1) := by decide +kernel
theorem dX2_swap_15 : decode cX2_swap 15 = .ok (.invokevirtual 72, 3) := by decide +kernel
theorem dX2_swap_18 : decode cX2_swap 18 = .ok (.aload_n 0, 1) := by decide +kernel
theorem dX2_swap_19 : decode cX2_swap 19 = .ok (.getfield 22, 3) := by decide +kernel
theorem dX2_swap_22 : decode cX2_swap 22 = .ok (.getfield 82, 3) := by decide +kernel
theorem dX2_swap_25 : decode cX2_swap 25 = .ok (.ireturn, 1) := by decide +kernel
set_option maxRecDepth 20000 in
theorem ggX2_order_X2_checkBelow : GoodIn wsX2_order wsX2_checkBelow := goodIn_ca (goodIn_r _ [5, 6, 7] (by decide +kernel) (by decide +kernel)) (goodIn_sub (fun _ h => List.mem_cons_of_mem _ (List.mem_append_right _ h)) (by decide +kernel))
set_option maxRecDepth 20000 in
theorem gX2_order_X2_checkBelow : GoodIn wsX2_order (va_wsS RX2 48 yX2_checkBelow wsX2_checkBelow) := goodIn_app (goodIn_of _ (by decide +kernel)) ggX2_order_X2_checkBelow
theorem dX2_order_0 : decode cX2_order 0 = .ok (.iload_n 1, 1) := by decide +kernel
theorem dX2_order_1 : decode cX2_order 1 = .ok (.bipush 8, 2) := by decide +kernel
theorem dX2_order_3 : decode cX2_order 3 = .ok (.invokestatic 48, 3) := by decide +kernel
theorem dX2_order_6 : decode cX2_order 6 = .ok (.aload_n 0, 1) := by decide +kernel
theorem dX2_order_7 : decode cX2_order 7 = .ok (.getfield 15, 3) := by decide +kernel
theorem dX2_order_10 : decode cX2_order 10 = .ok (.iload_n 1, 1) := by decide +kernel
theorem dX2_order_11 : decode cX2_order 11 = .ok (.iaload, 1) := by decide +kernel
theorem dX2_order_12 : decode cX2_order 12 = .ok (.ireturn, 1) := by decide +kernel
set_option maxRecDepth 20000 in
theorem ggX2_says_X2_foldAt : GoodIn wsX2_says wsX2_foldAt := goodIn_ca (goodIn_r _ [7, 8, 9, 10, 18, 19, 20, 21, 22, 23, 11, 12, 13, 14, 15, 16, 17] (by decide +kernel) (by decide +kernel)) (goodIn_sub (fun _ h => List.mem_cons_of_mem _ (List.mem_append_right _ h)) (by decide +kernel))
set_option maxRecDepth 20000 in
theorem gX2_says_X2_foldAt : GoodIn wsX2_says (wsV RX2 56 RX2 yX2_foldAt wsX2_foldAt) := goodIn_app (goodIn_of _ (by decide +kernel)) ggX2_says_X2_foldAt
theorem dX2_says_0 : decode cX2_says 0 = .ok (.aload_n 0, 1) := by decide +kernel
theorem dX2_says_1 : decode cX2_says 1 = .ok (.iload_n 1, 1) := by decide +kernel
theorem dX2_says_2 : decode cX2_says 2 = .ok (.invokevirtual 56, 3) := by decide +kernel
theorem dX2_says_5 : decode cX2_says 5 = .ok (.astore_n 3, 1) := by decide +kernel
theorem dX2_says_6 : decode cX2_says 6 = .ok (.iload_n 2, 1) := by decide +kernel
theorem dX2_says_7 : decode cX2_says 7 = .ok (.ifCond .lt 10, 3) := by decide +kernel
theorem dX2_says_10 : decode cX2_says 10 = .ok (.iload_n 2, 1) := by decide +kernel
theorem dX2_says_11 : decode cX2_says 11 = .ok (.sipush 256, 3) := by decide +kernel
theorem dX2_says_14 : decode cX2_says 14 = .ok (.if_icmp .lt 13, 3) := by decide +kernel
theorem dX2_says_17 : decode cX2_says 17 = .ok (.new 86, 3) := by decide +kernel
theorem dX2_says_20 : decode cX2_says 20 = .ok (.dup, 1) := by decide +kernel
theorem dX2_says_21 : decode cX2_says 21 = .ok (.ldc 88, 2) := by decide +kernel
theorem dX2_says_23 : decode cX2_says 23 = .ok (.invokespecial 90, 3) := by decide +kernel
theorem dX2_says_26 : decode cX2_says 26 = .ok (.athrow, 1) := by decide +kernel
theorem dX2_says_27 : decode cX2_says 27 = .ok (.aload_n 3, 1) := by decide +kernel
theorem dX2_says_28 : decode cX2_says 28 = .ok (.getfield 41, 3) := by decide +kernel
theorem dX2_says_31 : decode cX2_says 31 = .ok (.iload_n 2, 1) := by decide +kernel
theorem dX2_says_32 : decode cX2_says 32 = .ok (.baload, 1) := by decide +kernel
theorem dX2_says_33 : decode cX2_says 33 = .ok (.ireturn, 1) := by decide +kernel
set_option maxRecDepth 20000 in
theorem ggX2_fork_X2_foldAt : GoodIn wsX2_fork wsX2_foldAt := goodIn_ca (goodIn_r _ [5, 6, 7, 8, 24, 25, 26, 27, 28, 29, 17, 18, 19, 20, 21, 22, 23] (by decide +kernel) (by decide +kernel)) (goodIn_sub (fun _ h => List.mem_cons_of_mem _ (List.mem_append_right _ h)) (by decide +kernel))
set_option maxRecDepth 20000 in
theorem gX2_fork_X2_foldAt : GoodIn wsX2_fork (wsV RX2 56 RX2 yX2_foldAt wsX2_foldAt) := goodIn_app (goodIn_of _ (by decide +kernel)) ggX2_fork_X2_foldAt
set_option maxRecDepth 20000 in
theorem ggX2_fork_X2_checkBelow : GoodIn wsX2_fork wsX2_checkBelow := goodIn_ca (goodIn_r _ [11, 6, 7] (by decide +kernel) (by decide +kernel)) (goodIn_sub (fun _ h => List.mem_cons_of_mem _ (List.mem_append_right _ h)) (by decide +kernel))
set_option maxRecDepth 20000 in
theorem gX2_fork_X2_checkBelow : GoodIn wsX2_fork (va_wsS RX2 48 yX2_checkBelow wsX2_checkBelow) := goodIn_app (goodIn_of _ (by decide +kernel)) ggX2_fork_X2_checkBelow
set_option maxRecDepth 20000 in
theorem ggX2_fork_X2_tellFork : GoodIn wsX2_fork wsX2_tellFork := goodIn_r _ [15, 16, 17, 18, 19, 20, 21, 22, 23, 24, 25, 26, 27, 28, 29, 30, 31, 32, 33, 34, 35, 36, 37, 38, 39] (by decide +kernel) (by decide +kernel)
set_option maxRecDepth 20000 in
theorem gX2_fork_X2_tellFork : GoodIn wsX2_fork (wsV RX2 94 RX2 yX2_tellFork wsX2_tellFork) := goodIn_app (goodIn_of _ (by decide +kernel)) ggX2_fork_X2_tellFork
theorem dX2_fork_0 : decode cX2_fork 0 = .ok (.aload_n 0, 1) := by decide +kernel
theorem dX2_fork_1 : decode cX2_fork 1 = .ok (.iload_n 1, 1) := by decide +kernel
theorem dX2_fork_2 : decode cX2_fork 2 = .ok (.invokevirtual 56, 3) := by decide +kernel
theorem dX2_fork_5 : decode cX2_fork 5 = .ok (.astore 4, 2) := by decide +kernel
theorem dX2_fork_7 : decode cX2_fork 7 = .ok (.iload_n 2, 1) := by decide +kernel
theorem dX2_fork_8 : decode cX2_fork 8 = .ok (.aload 4, 2) := by decide +kernel
theorem dX2_fork_10 : decode cX2_fork 10 = .ok (.getfield 93, 3) := by decide +kernel
theorem dX2_fork_13 : decode cX2_fork 13 = .ok (.invokestatic 48, 3) := by decide +kernel
theorem dX2_fork_16 : decode cX2_fork 16 = .ok (.iload_n 3, 1) := by decide +kernel
theorem dX2_fork_17 : decode cX2_fork 17 = .ok (.iconst 5, 1) := by decide +kernel
theorem dX2_fork_18 : decode cX2_fork 18 = .ok (.invokestatic 48, 3) := by decide +kernel
theorem dX2_fork_21 : decode cX2_fork 21 = .ok (.aload_n 0, 1) := by decide +kernel
theorem dX2_fork_22 : decode cX2_fork 22 = .ok (.aload 4, 2) := by decide +kernel
theorem dX2_fork_24 : decode cX2_fork 24 = .ok (.iload_n 2, 1) := by decide +kernel
theorem dX2_fork_25 : decode cX2_fork 25 = .ok (.iload_n 3, 1) := by decide +kernel
theorem dX2_fork_26 : decode cX2_fork 26 = .ok (.invokevirtual 94, 3) := by decide +kernel
theorem dX2_fork_29 : decode cX2_fork 29 = .ok (.ireturn, 1) := by decide +kernel
set_option maxRecDepth 20000 in
theorem ggX2_about_X2_foldAt : GoodIn wsX2_about wsX2_foldAt := goodIn_ca (goodIn_r _ [5, 6, 7, 8, 56, 57, 58, 59, 60, 61, 62, 63, 64, 65, 66, 67, 68] (by decide +kernel) (by decide +kernel)) (goodIn_sub (fun _ h => List.mem_cons_of_mem _ (List.mem_append_right _ h)) (by decide +kernel))
set_option maxRecDepth 20000 in
theorem gX2_about_X2_foldAt : GoodIn wsX2_about (wsV RX2 56 RX2 yX2_foldAt wsX2_foldAt) := goodIn_app (goodIn_of _ (by decide +kernel)) ggX2_about_X2_foldAt
set_option maxRecDepth 20000 in
theorem ggX2_about_X2_checkBelow : GoodIn wsX2_about wsX2_checkBelow := goodIn_ca (goodIn_r _ [11, 6, 7] (by decide +kernel) (by decide +kernel)) (goodIn_sub (fun _ h => List.mem_cons_of_mem _ (List.mem_append_right _ h)) (by decide +kernel))
set_option maxRecDepth 20000 in
theorem gX2_about_X2_checkBelow : GoodIn wsX2_about (va_wsS RX2 48 yX2_checkBelow wsX2_checkBelow) := goodIn_app (goodIn_of _ (by decide +kernel)) ggX2_about_X2_checkBelow
set_option maxRecDepth 20000 in
theorem ggX2_about_X2_tellFold : GoodIn wsX2_about wsX2_tellFold := goodIn_r _ [15, 16, 17, 4, 18, 19, 20, 21, 22, 23, 24, 25, 26, 27, 28, 29, 30, 31, 32, 33, 34, 35, 36, 37, 38, 39, 40, 41, 42, 43, 44, 45, 46, 47, 48, 49, 50, 51, 52, 53, 54, 55, 62, 63, 64, 65, 66, 67, 68, 56, 57, 58, 59, 60, 61, 69, 70, 71, 72, 73, 74, 75, 76, 77, 78] (by decide +kernel) (by decide +kernel)
set_option maxRecDepth 20000 in
theorem gX2_about_X2_tellFold : GoodIn wsX2_about (wsV RX2 98 RX2 yX2_tellFold wsX2_tellFold) := goodIn_app (goodIn_of _ (by decide +kernel)) ggX2_about_X2_tellFold
theorem dX2_about_0 : decode cX2_about 0 = .ok (.aload_n 0, 1) := by decide +kernel
theorem dX2_about_1 : decode cX2_about 1 = .ok (.iload_n 1, 1) := by decide +kernel
theorem dX2_about_2 : decode cX2_about 2 = .ok (.invokevirtual 56, 3) := by decide +kernel
theorem dX2_about_5 : decode cX2_about 5 = .ok (.astore_n 3, 1) := by decide +kernel
theorem dX2_about_6 : decode cX2_about 6 = .ok (.iload_n 2, 1) := by decide +kernel
theorem dX2_about_7 : decode cX2_about 7 = .ok (.bipush 8, 2) := by decide +kernel
theorem dX2_about_9 : decode cX2_about 9 = .ok (.invokestatic 48, 3) := by decide +kernel
theorem dX2_about_12 : decode cX2_about 12 = .ok (.aload_n 0, 1) := by decide +kernel
theorem dX2_about_13 : decode cX2_about 13 = .ok (.aload_n 3, 1) := by decide +kernel
theorem dX2_about_14 : decode cX2_about 14 = .ok (.iload_n 2, 1) := by decide +kernel
theorem dX2_about_15 : decode cX2_about 15 = .ok (.invokevirtual 98, 3) := by decide +kernel
theorem dX2_about_18 : decode cX2_about 18 = .ok (.ireturn, 1) := by decide +kernel
set_option maxRecDepth 20000 in
theorem ggX2_asked_X2_foldAt : GoodIn wsX2_asked wsX2_foldAt := goodIn_ca (goodIn_r _ [6, 7, 8, 9, 18, 19, 20, 21, 22, 23, 24, 25, 26, 27, 28, 29, 30] (by decide +kernel) (by decide +kernel)) (goodIn_sub (fun _ h => List.mem_cons_of_mem _ (List.mem_append_right _ h)) (by decide +kernel))
set_option maxRecDepth 20000 in
theorem gX2_asked_X2_foldAt : GoodIn wsX2_asked (wsV RX2 56 RX2 yX2_foldAt wsX2_foldAt) := goodIn_app (goodIn_of _ (by decide +kernel)) ggX2_asked_X2_foldAt
set_option maxRecDepth 20000 in
theorem ggX2_asked_X2_countAsked : GoodIn wsX2_asked wsX2_countAsked := goodIn_r _ [13, 14, 15, 16, 5, 17, 24, 25, 26, 27, 28, 29, 30, 18, 19, 20, 21, 22, 23, 31, 32, 33, 34, 35, 36, 37, 38, 39, 40] (by decide +kernel) (by decide +kernel)
set_option maxRecDepth 20000 in
theorem gX2_asked_X2_countAsked : GoodIn wsX2_asked (wsV RX2 102 RX2 yX2_countAsked wsX2_countAsked) := goodIn_app (goodIn_of _ (by decide +kernel)) ggX2_asked_X2_countAsked
theorem dX2_asked_0 : decode cX2_asked 0 = .ok (.aload_n 0, 1) := by decide +kernel
theorem dX2_asked_1 : decode cX2_asked 1 = .ok (.iload_n 1, 1) := by decide +kernel
theorem dX2_asked_2 : decode cX2_asked 2 = .ok (.invokevirtual 56, 3) := by decide +kernel
theorem dX2_asked_5 : decode cX2_asked 5 = .ok (.astore_n 2, 1) := by decide +kernel
theorem dX2_asked_6 : decode cX2_asked 6 = .ok (.iconst 0, 1) := by decide +kernel
theorem dX2_asked_7 : decode cX2_asked 7 = .ok (.istore_n 3, 1) := by decide +kernel
theorem dX2_asked_8 : decode cX2_asked 8 = .ok (.iconst 0, 1) := by decide +kernel
theorem dX2_asked_9 : decode cX2_asked 9 = .ok (.istore 4, 2) := by decide +kernel
theorem dX2_asked_11 : decode cX2_asked 11 = .ok (.iload 4, 2) := by decide +kernel
theorem dX2_asked_13 : decode cX2_asked 13 = .ok (.sipush 256, 3) := by decide +kernel
theorem dX2_asked_16 : decode cX2_asked 16 = .ok (.if_icmp .ge 19, 3) := by decide +kernel
theorem dX2_asked_19 : decode cX2_asked 19 = .ok (.iload_n 3, 1) := by decide +kernel
theorem dX2_asked_20 : decode cX2_asked 20 = .ok (.aload_n 0, 1) := by decide +kernel
theorem dX2_asked_21 : decode cX2_asked 21 = .ok (.aload_n 2, 1) := by decide +kernel
theorem dX2_asked_22 : decode cX2_asked 22 = .ok (.iload 4, 2) := by decide +kernel
theorem dX2_asked_24 : decode cX2_asked 24 = .ok (.invokevirtual 102, 3) := by decide +kernel
theorem dX2_asked_27 : decode cX2_asked 27 = .ok (.iadd, 1) := by decide +kernel
theorem dX2_asked_28 : decode cX2_asked 28 = .ok (.istore_n 3, 1) := by decide +kernel
theorem dX2_asked_29 : decode cX2_asked 29 = .ok (.iinc 4 1, 3) := by decide +kernel
theorem dX2_asked_32 : decode cX2_asked 32 = .ok (.goto (-21), 3) := by decide +kernel
theorem dX2_asked_35 : decode cX2_asked 35 = .ok (.iload_n 3, 1) := by decide +kernel
theorem dX2_asked_36 : decode cX2_asked 36 = .ok (.i2d, 1) := by decide +kernel
theorem dX2_asked_37 : decode cX2_asked 37 = .ok (.ldc2_w 105, 3) := by decide +kernel
theorem dX2_asked_40 : decode cX2_asked 40 = .ok (.ddiv, 1) := by decide +kernel
theorem dX2_asked_41 : decode cX2_asked 41 = .ok (.dreturn, 1) := by decide +kernel
set_option maxRecDepth 20000 in
theorem ggX2_compare_X2_foldAt : GoodIn wsX2_compare wsX2_foldAt := goodIn_ca (goodIn_r _ [5, 6, 7, 8, 16, 17, 18, 19, 20, 21, 9, 10, 11, 12, 13, 14, 15] (by decide +kernel) (by decide +kernel)) (goodIn_sub (fun _ h => List.mem_cons_of_mem _ (List.mem_append_right _ h)) (by decide +kernel))
set_option maxRecDepth 20000 in
theorem gX2_compare_X2_foldAt : GoodIn wsX2_compare (wsV RX2 56 RX2 yX2_foldAt wsX2_foldAt) := goodIn_app (goodIn_of _ (by decide +kernel)) ggX2_compare_X2_foldAt
theorem dX2_compare_0 : decode cX2_compare 0 = .ok (.aload_n 0, 1) := by decide +kernel
theorem dX2_compare_1 : decode cX2_compare 1 = .ok (.iload_n 1, 1) := by decide +kernel
theorem dX2_compare_2 : decode cX2_compare 2 = .ok (.invokevirtual 56, 3) := by decide +kernel
theorem dX2_compare_5 : decode cX2_compare 5 = .ok (.astore_n 3, 1) := by decide +kernel
theorem dX2_compare_6 : decode cX2_compare 6 = .ok (.aload_n 0, 1) := by decide +kernel
theorem dX2_compare_7 : decode cX2_compare 7 = .ok (.iload_n 2, 1) := by decide +kernel
theorem dX2_compare_8 : decode cX2_compare 8 = .ok (.invokevirtual 56, 3) := by decide +kernel
theorem dX2_compare_11 : decode cX2_compare 11 = .ok (.astore 4, 2) := by decide +kernel
theorem dX2_compare_13 : decode cX2_compare 13 = .ok (.iconst 1, 1) := by decide +kernel
theorem dX2_compare_14 : decode cX2_compare 14 = .ok (.istore 5, 2) := by decide +kernel
theorem dX2_compare_16 : decode cX2_compare 16 = .ok (.iconst 1, 1) := by decide +kernel
theorem dX2_compare_17 : decode cX2_compare 17 = .ok (.istore 6, 2) := by decide +kernel
theorem dX2_compare_19 : decode cX2_compare 19 = .ok (.iconst 1, 1) := by decide +kernel
theorem dX2_compare_20 : decode cX2_compare 20 = .ok (.istore 7, 2) := by decide +kernel
theorem dX2_compare_22 : decode cX2_compare 22 = .ok (.iconst 0, 1) := by decide +kernel
theorem dX2_compare_23 : decode cX2_compare 23 = .ok (.istore 8, 2) := by decide +kernel
theorem dX2_compare_25 : decode cX2_compare 25 = .ok (.iload 8, 2) := by decide +kernel
theorem dX2_compare_27 : decode cX2_compare 27 = .ok (.sipush 256, 3) := by decide +kernel
theorem dX2_compare_30 : decode cX2_compare 30 = .ok (.if_icmp .ge 63, 3) := by decide +kernel
theorem dX2_compare_33 : decode cX2_compare 33 = .ok (.aload_n 3, 1) := by decide +kernel
theorem dX2_compare_34 : decode cX2_compare 34 = .ok (.getfield 41, 3) := by decide +kernel
theorem dX2_compare_37 : decode cX2_compare 37 = .ok (.iload 8, 2) := by decide +kernel
theorem dX2_compare_39 : decode cX2_compare 39 = .ok (.baload, 1) := by decide +kernel
theorem dX2_compare_40 : decode cX2_compare 40 = .ok (.istore 9, 2) := by decide +kernel
theorem dX2_compare_42 : decode cX2_compare 42 = .ok (.aload 4, 2) := by decide +kernel
theorem dX2_compare_44 : decode cX2_compare 44 = .ok (.getfield 41, 3) := by decide +kernel
theorem dX2_compare_47 : decode cX2_compare 47 = .ok (.iload 8, 2) := by decide +kernel
theorem dX2_compare_49 : decode cX2_compare 49 = .ok (.baload, 1) := by decide +kernel
theorem dX2_compare_50 : decode cX2_compare 50 = .ok (.istore 10, 2) := by decide +kernel
theorem dX2_compare_52 : decode cX2_compare 52 = .ok (.iload 9, 2) := by decide +kernel
theorem dX2_compare_54 : decode cX2_compare 54 = .ok (.ifCond .eq 14, 3) := by decide +kernel
theorem dX2_compare_57 : decode cX2_compare 57 = .ok (.iload 10, 2) := by decide +kernel
theorem dX2_compare_59 : decode cX2_compare 59 = .ok (.ifCond .eq 9, 3) := by decide +kernel
theorem dX2_compare_62 : decode cX2_compare 62 = .ok (.iconst 0, 1) := by decide +kernel
theorem dX2_compare_63 : decode cX2_compare 63 = .ok (.istore 7, 2) := by decide +kernel
theorem dX2_compare_65 : decode cX2_compare 65 = .ok (.goto 22, 3) := by decide +kernel
theorem dX2_compare_68 : decode cX2_compare 68 = .ok (.iload 9, 2) := by decide +kernel
theorem dX2_compare_70 : decode cX2_compare 70 = .ok (.ifCond .eq 9, 3) := by decide +kernel
theorem dX2_compare_73 : decode cX2_compare 73 = .ok (.iconst 0, 1) := by decide +kernel
theorem dX2_compare_74 : decode cX2_compare 74 = .ok (.istore 5, 2) := by decide +kernel
theorem dX2_compare_76 : decode cX2_compare 76 = .ok (.goto 11, 3) := by decide +kernel
theorem dX2_compare_79 : decode cX2_compare 79 = .ok (.iload 10, 2) := by decide +kernel
theorem dX2_compare_81 : decode cX2_compare 81 = .ok (.ifCond .eq 6, 3) := by decide +kernel
theorem dX2_compare_84 : decode cX2_compare 84 = .ok (.iconst 0, 1) := by decide +kernel
theorem dX2_compare_85 : decode cX2_compare 85 = .ok (.istore 6, 2) := by decide +kernel
theorem dX2_compare_87 : decode cX2_compare 87 = .ok (.iinc 8 1, 3) := by decide +kernel
theorem dX2_compare_90 : decode cX2_compare 90 = .ok (.goto (-65), 3) := by decide +kernel
theorem dX2_compare_93 : decode cX2_compare 93 = .ok (.iload 5, 2) := by decide +kernel
theorem dX2_compare_95 : decode cX2_compare 95 = .ok (.ifCond .eq 14, 3) := by decide +kernel
theorem dX2_compare_98 : decode cX2_compare 98 = .ok (.iload 6, 2) := by decide +kernel
theorem dX2_compare_100 : decode cX2_compare 100 = .ok (.ifCond .eq 7, 3) := by decide +kernel
theorem dX2_compare_103 : decode cX2_compare 103 = .ok (.iconst 0, 1) := by decide +kernel
theorem dX2_compare_104 : decode cX2_compare 104 = .ok (.goto 4, 3) := by decide +kernel
theorem dX2_compare_107 : decode cX2_compare 107 = .ok (.iconst 1, 1) := by decide +kernel
theorem dX2_compare_108 : decode cX2_compare 108 = .ok (.ireturn, 1) := by decide +kernel
theorem dX2_compare_109 : decode cX2_compare 109 = .ok (.iload 6, 2) := by decide +kernel
theorem dX2_compare_111 : decode cX2_compare 111 = .ok (.ifCond .eq 5, 3) := by decide +kernel
theorem dX2_compare_114 : decode cX2_compare 114 = .ok (.iconst 2, 1) := by decide +kernel
theorem dX2_compare_115 : decode cX2_compare 115 = .ok (.ireturn, 1) := by decide +kernel
theorem dX2_compare_116 : decode cX2_compare 116 = .ok (.iload 7, 2) := by decide +kernel
theorem dX2_compare_118 : decode cX2_compare 118 = .ok (.ifCond .eq 7, 3) := by decide +kernel
theorem dX2_compare_121 : decode cX2_compare 121 = .ok (.iconst 3, 1) := by decide +kernel
theorem dX2_compare_122 : decode cX2_compare 122 = .ok (.goto 4, 3) := by decide +kernel
theorem dX2_compare_125 : decode cX2_compare 125 = .ok (.iconst 4, 1) := by decide +kernel
theorem dX2_compare_126 : decode cX2_compare 126 = .ok (.ireturn, 1) := by decide +kernel
set_option maxRecDepth 20000 in
theorem ggX2_count_X2_checkBelow : GoodIn wsX2_count wsX2_checkBelow := goodIn_ca (goodIn_r _ [4, 5, 6] (by decide +kernel) (by decide +kernel)) (goodIn_sub (fun _ h => List.mem_cons_of_mem _ (List.mem_append_right _ h)) (by decide +kernel))
set_option maxRecDepth 20000 in
theorem gX2_count_X2_checkBelow : GoodIn wsX2_count (va_wsS RX2 48 yX2_checkBelow wsX2_checkBelow) := goodIn_app (goodIn_of _ (by decide +kernel)) ggX2_count_X2_checkBelow
set_option maxRecDepth 20000 in
theorem ggX2_count_X2_tellCount : GoodIn wsX2_count wsX2_tellCount := goodIn_r _ [10, 11, 12, 13, 14, 3, 15, 16, 17, 18, 19, 20, 21, 22, 23, 24, 25, 26, 27, 28, 29, 30, 31, 32, 33, 34, 35, 36, 37, 38, 39, 40, 41, 42, 43, 44, 45, 46, 47, 48, 49, 50, 51, 52] (by decide +kernel) (by decide +kernel)
set_option maxRecDepth 20000 in
theorem gX2_count_X2_tellCount : GoodIn wsX2_count (wsV RX2 107 RX2 yX2_tellCount wsX2_tellCount) := goodIn_app (goodIn_of _ (by decide +kernel)) ggX2_count_X2_tellCount
theorem dX2_count_0 : decode cX2_count 0 = .ok (.iload_n 1, 1) := by decide +kernel
theorem dX2_count_1 : decode cX2_count 1 = .ok (.iconst 5, 1) := by decide +kernel
theorem dX2_count_2 : decode cX2_count 2 = .ok (.invokestatic 48, 3) := by decide +kernel
theorem dX2_count_5 : decode cX2_count 5 = .ok (.aload_n 0, 1) := by decide +kernel
theorem dX2_count_6 : decode cX2_count 6 = .ok (.iload_n 1, 1) := by decide +kernel
theorem dX2_count_7 : decode cX2_count 7 = .ok (.invokevirtual 107, 3) := by decide +kernel
theorem dX2_count_10 : decode cX2_count 10 = .ok (.ireturn, 1) := by decide +kernel
set_option maxRecDepth 20000 in
theorem ggX2_has_X2_checkBelow : GoodIn wsX2_has wsX2_checkBelow := goodIn_ca (goodIn_r _ [5, 6, 7] (by decide +kernel) (by decide +kernel)) (goodIn_sub (fun _ h => List.mem_cons_of_mem _ (List.mem_append_right _ h)) (by decide +kernel))
set_option maxRecDepth 20000 in
theorem gX2_has_X2_checkBelow : GoodIn wsX2_has (va_wsS RX2 48 yX2_checkBelow wsX2_checkBelow) := goodIn_app (goodIn_of _ (by decide +kernel)) ggX2_has_X2_checkBelow
theorem dX2_has_0 : decode cX2_has 0 = .ok (.iload_n 1, 1) := by decide +kernel
theorem dX2_has_1 : decode cX2_has 1 = .ok (.bipush 12, 2) := by decide +kernel
theorem dX2_has_3 : decode cX2_has 3 = .ok (.invokestatic 48, 3) := by decide +kernel
theorem dX2_has_6 : decode cX2_has 6 = .ok (.aload_n 0, 1) := by decide +kernel
theorem dX2_has_7 : decode cX2_has 7 = .ok (.getfield 11, 3) := by decide +kernel
theorem dX2_has_10 : decode cX2_has 10 = .ok (.iload_n 1, 1) := by decide +kernel
theorem dX2_has_11 : decode cX2_has 11 = .ok (.aaload, 1) := by decide +kernel
theorem dX2_has_12 : decode cX2_has 12 = .ok (.getfield 68, 3) := by decide +kernel
theorem dX2_has_15 : decode cX2_has 15 = .ok (.ireturn, 1) := by decide +kernel
set_option maxRecDepth 20000 in
theorem ggX2_advise_X2_countForksAfterSwap : GoodIn wsX2_advise wsX2_countForksAfterSwap := goodIn_r _ [6, 7, 8, 9, 10, 11, 12, 13, 14, 15, 16, 5, 17, 18, 19, 20, 21, 22, 23, 24, 25, 26, 27, 28, 29, 30, 31, 32, 33, 34, 35, 36, 37, 38, 39, 40, 41, 42, 43, 44, 45, 46, 47, 48, 49, 50, 51, 52, 53, 54, 55, 56, 67, 68, 69, 70, 71, 72, 73, 57, 58, 59, 60, 61, 62, 63, 64, 65, 66] (by decide +kernel) (by decide +kernel)
set_option maxRecDepth 20000 in
theorem gX2_advise_X2_countForksAfterSwap : GoodIn wsX2_advise (wsV RX2 110 RX2 yX2_countForksAfterSwap wsX2_countForksAfterSwap) := goodIn_app (goodIn_of _ (by decide +kernel)) ggX2_advise_X2_countForksAfterSwap
theorem dX2_advise_0 : decode cX2_advise 0 = .ok (.iconst (-1), 1) := by decide +kernel
theorem dX2_advise_1 : decode cX2_advise 1 = .ok (.istore_n 1, 1) := by decide +kernel
theorem dX2_advise_2 : decode cX2_advise 2 = .ok (.aload_n 0, 1) := by decide +kernel
theorem dX2_advise_3 : decode cX2_advise 3 = .ok (.getfield 22, 3) := by decide +kernel
theorem dX2_advise_6 : decode cX2_advise 6 = .ok (.getfield 82, 3) := by decide +kernel
theorem dX2_advise_9 : decode cX2_advise 9 = .ok (.istore_n 2, 1) := by decide +kernel
theorem dX2_advise_10 : decode cX2_advise 10 = .ok (.iconst 0, 1) := by decide +kernel
theorem dX2_advise_11 : decode cX2_advise 11 = .ok (.istore_n 3, 1) := by decide +kernel
theorem dX2_advise_12 : decode cX2_advise 12 = .ok (.iload_n 3, 1) := by decide +kernel
theorem dX2_advise_13 : decode cX2_advise 13 = .ok (.bipush 7, 2) := by decide +kernel
theorem dX2_advise_15 : decode cX2_advise 15 = .ok (.if_icmp .ge 27, 3) := by decide +kernel
theorem dX2_advise_18 : decode cX2_advise 18 = .ok (.aload_n 0, 1) := by decide +kernel
theorem dX2_advise_19 : decode cX2_advise 19 = .ok (.iload_n 3, 1) := by decide +kernel
theorem dX2_advise_20 : decode cX2_advise 20 = .ok (.invokevirtual 110, 3) := by decide +kernel
theorem dX2_advise_23 : decode cX2_advise 23 = .ok (.istore 4, 2) := by decide +kernel
theorem dX2_advise_25 : decode cX2_advise 25 = .ok (.iload 4, 2) := by decide +kernel
theorem dX2_advise_27 : decode cX2_advise 27 = .ok (.iload_n 2, 1) := by decide +kernel
theorem dX2_advise_28 : decode cX2_advise 28 = .ok (.if_icmp .ge 8, 3) := by decide +kernel
theorem dX2_advise_31 : decode cX2_advise 31 = .ok (.iload 4, 2) := by decide +kernel
theorem dX2_advise_33 : decode cX2_advise 33 = .ok (.istore_n 2, 1) := by decide +kernel
theorem dX2_advise_34 : decode cX2_advise 34 = .ok (.iload_n 3, 1) := by decide +kernel
theorem dX2_advise_35 : decode cX2_advise 35 = .ok (.istore_n 1, 1) := by decide +kernel
theorem dX2_advise_36 : decode cX2_advise 36 = .ok (.iinc 3 1, 3) := by decide +kernel
theorem dX2_advise_39 : decode cX2_advise 39 = .ok (.goto (-27), 3) := by decide +kernel
theorem dX2_advise_42 : decode cX2_advise 42 = .ok (.iload_n 1, 1) := by decide +kernel
theorem dX2_advise_43 : decode cX2_advise 43 = .ok (.ireturn, 1) := by decide +kernel
set_option maxRecDepth 20000 in
theorem ggX2_would_X2_foldAt : GoodIn wsX2_would wsX2_foldAt := goodIn_ca (goodIn_r _ [8, 9, 10, 11, 57, 58, 59, 60, 61, 62, 73, 74, 75, 76, 77, 78, 79] (by decide +kernel) (by decide +kernel)) (goodIn_sub (fun _ h => List.mem_cons_of_mem _ (List.mem_append_right _ h)) (by decide +kernel))
set_option maxRecDepth 20000 in
theorem gX2_would_X2_foldAt : GoodIn wsX2_would (wsV RX2 56 RX2 yX2_foldAt wsX2_foldAt) := goodIn_app (goodIn_of _ (by decide +kernel)) ggX2_would_X2_foldAt
set_option maxRecDepth 20000 in
theorem ggX2_would_X2_checkBelow : GoodIn wsX2_would wsX2_checkBelow := goodIn_ca (goodIn_r _ [14, 9, 10] (by decide +kernel) (by decide +kernel)) (goodIn_sub (fun _ h => List.mem_cons_of_mem _ (List.mem_append_right _ h)) (by decide +kernel))
set_option maxRecDepth 20000 in
theorem gX2_would_X2_checkBelow : GoodIn wsX2_would (va_wsS RX2 48 yX2_checkBelow wsX2_checkBelow) := goodIn_app (goodIn_of _ (by decide +kernel)) ggX2_would_X2_checkBelow
set_option maxRecDepth 20000 in
theorem ggX2_would_X2_sayJoined : GoodIn wsX2_would wsX2_sayJoined := goodIn_r _ [17, 18, 19, 7, 20, 73, 74, 75, 76, 77, 78, 79] (by decide +kernel) (by decide +kernel)
set_option maxRecDepth 20000 in
theorem gX2_would_X2_sayJoined : GoodIn wsX2_would (va_wsS RX2 60 yX2_sayJoined wsX2_sayJoined) := goodIn_app (goodIn_of _ (by decide +kernel)) ggX2_would_X2_sayJoined
set_option maxRecDepth 20000 in
theorem ggX2_would_X1_startOver : GoodIn wsX2_would wsX1_startOver := goodIn_r _ [24, 25, 26, 27, 28, 29, 30, 31, 32, 33, 34, 35, 36, 37, 38, 39, 22, 40, 63, 64, 65, 66, 67, 68, 69, 70, 71, 72] (by decide +kernel) (by decide +kernel)
set_option maxRecDepth 20000 in
theorem gX2_would_X1_startOver_n113 : GoodIn wsX2_would (wsX1_startOver) := ggX2_would_X1_startOver
set_option maxRecDepth 20000 in
theorem ggX2_would_X1_lay : GoodIn wsX2_would wsX1_lay := goodIn_r _ [43, 44, 32, 27, 45, 46, 47, 22, 48, 26, 49, 50, 51, 52, 53, 54, 55, 25, 56, 63, 64, 65, 66, 67, 68, 69, 70, 71, 72] (by decide +kernel) (by decide +kernel)
set_option maxRecDepth 20000 in
theorem gX2_would_X1_lay_n117 : GoodIn wsX2_would (wsX1_lay) := ggX2_would_X1_lay
theorem dX2_would_0 : decode cX2_would 0 = .ok (.aload_n 0, 1) := by decide +kernel
theorem dX2_would_1 : decode cX2_would 1 = .ok (.iload_n 1, 1) := by decide +kernel
theorem dX2_would_2 : decode cX2_would 2 = .ok (.invokevirtual 56, 3) := by decide +kernel
theorem dX2_would_5 : decode cX2_would 5 = .ok (.astore 4, 2) := by decide +kernel
theorem dX2_would_7 : decode cX2_would 7 = .ok (.aload_n 0, 1) := by decide +kernel
theorem dX2_would_8 : decode cX2_would 8 = .ok (.iload_n 2, 1) := by decide +kernel
theorem dX2_would_9 : decode cX2_would 9 = .ok (.invokevirtual 56, 3) := by decide +kernel
theorem dX2_would_12 : decode cX2_would 12 = .ok (.astore 5, 2) := by decide +kernel
theorem dX2_would_14 : decode cX2_would 14 = .ok (.iload_n 3, 1) := by decide +kernel
theorem dX2_would_15 : decode cX2_would 15 = .ok (.bipush 6, 2) := by decide +kernel
theorem dX2_would_17 : decode cX2_would 17 = .ok (.invokestatic 48, 3) := by decide +kernel
theorem dX2_would_20 : decode cX2_would 20 = .ok (.aload 4, 2) := by decide +kernel
theorem dX2_would_22 : decode cX2_would 22 = .ok (.aload 5, 2) := by decide +kernel
theorem dX2_would_24 : decode cX2_would 24 = .ok (.iload_n 3, 1) := by decide +kernel
theorem dX2_would_25 : decode cX2_would 25 = .ok (.aload_n 0, 1) := by decide +kernel
theorem dX2_would_26 : decode cX2_would 26 = .ok (.getfield 26, 3) := by decide +kernel
theorem dX2_would_29 : decode cX2_would 29 = .ok (.invokestatic 60, 3) := by decide +kernel
theorem dX2_would_32 : decode cX2_would 32 = .ok (.aload_n 0, 1) := by decide +kernel
theorem dX2_would_33 : decode cX2_would 33 = .ok (.getfield 33, 3) := by decide +kernel
theorem dX2_would_36 : decode cX2_would 36 = .ok (.aload_n 0, 1) := by decide +kernel
theorem dX2_would_37 : decode cX2_would 37 = .ok (.getfield 15, 3) := by decide +kernel
theorem dX2_would_40 : decode cX2_would 40 = .ok (.invokevirtual 113, 3) := by decide +kernel
theorem dX2_would_43 : decode cX2_would 43 = .ok (.aload_n 0, 1) := by decide +kernel
theorem dX2_would_44 : decode cX2_would 44 = .ok (.getfield 33, 3) := by decide +kernel
theorem dX2_would_47 : decode cX2_would 47 = .ok (.aload_n 0, 1) := by decide +kernel
theorem dX2_would_48 : decode cX2_would 48 = .ok (.getfield 26, 3) := by decide +kernel
theorem dX2_would_51 : decode cX2_would 51 = .ok (.invokevirtual 117, 3) := by decide +kernel
theorem dX2_would_54 : decode cX2_would 54 = .ok (.pop, 1) := by decide +kernel
theorem dX2_would_55 : decode cX2_would 55 = .ok (.aload_n 0, 1) := by decide +kernel
theorem dX2_would_56 : decode cX2_would 56 = .ok (.getfield 33, 3) := by decide +kernel
theorem dX2_would_59 : decode cX2_would 59 = .ok (.getfield 82, 3) := by decide +kernel
theorem dX2_would_62 : decode cX2_would 62 = .ok (.ireturn, 1) := by decide +kernel
set_option maxRecDepth 20000 in
theorem ggX2_mean_X2_countKept : GoodIn wsX2_mean wsX2_countKept := goodIn_r _ [5, 6, 11, 12, 13, 14, 15, 16, 17, 18, 19, 20, 21, 22, 23] (by decide +kernel) (by decide +kernel)
set_option maxRecDepth 20000 in
theorem gX2_mean_X2_countKept : GoodIn wsX2_mean (wsV RX2 75 RX2 yX2_countKept wsX2_countKept) := goodIn_app (goodIn_of _ (by decide +kernel)) ggX2_mean_X2_countKept
set_option maxRecDepth 20000 in
theorem ggX2_mean_X2_addForks : GoodIn wsX2_mean wsX2_addForks := goodIn_r _ [10, 6, 11, 12, 13, 14, 15, 16, 17, 18, 19, 20, 21, 22, 23] (by decide +kernel) (by decide +kernel)
set_option maxRecDepth 20000 in
theorem gX2_mean_X2_addForks : GoodIn wsX2_mean (wsV RX2 121 RX2 yX2_addForks wsX2_addForks) := goodIn_app (goodIn_of _ (by decide +kernel)) ggX2_mean_X2_addForks
theorem dX2_mean_0 : decode cX2_mean 0 = .ok (.aload_n 0, 1) := by decide +kernel
theorem dX2_mean_1 : decode cX2_mean 1 = .ok (.invokevirtual 75, 3) := by decide +kernel
theorem dX2_mean_4 : decode cX2_mean 4 = .ok (.istore_n 1, 1) := by decide +kernel
theorem dX2_mean_5 : decode cX2_mean 5 = .ok (.iload_n 1, 1) := by decide +kernel
theorem dX2_mean_6 : decode cX2_mean 6 = .ok (.ifCond .ne 7, 3) := by decide +kernel
theorem dX2_mean_9 : decode cX2_mean 9 = .ok (.dconst 0, 1) := by decide +kernel
theorem dX2_mean_10 : decode cX2_mean 10 = .ok (.goto 11, 3) := by decide +kernel
theorem dX2_mean_13 : decode cX2_mean 13 = .ok (.aload_n 0, 1) := by decide +kernel
theorem dX2_mean_14 : decode cX2_mean 14 = .ok (.invokevirtual 121, 3) := by decide +kernel
theorem dX2_mean_17 : decode cX2_mean 17 = .ok (.i2d, 1) := by decide +kernel
theorem dX2_mean_18 : decode cX2_mean 18 = .ok (.iload_n 1, 1) := by decide +kernel
theorem dX2_mean_19 : decode cX2_mean 19 = .ok (.i2d, 1) := by decide +kernel
theorem dX2_mean_20 : decode cX2_mean 20 = .ok (.ddiv, 1) := by decide +kernel
theorem dX2_mean_21 : decode cX2_mean 21 = .ok (.dreturn, 1) := by decide +kernel
theorem dX2_checkBelow_0 : decode cX2_checkBelow 0 = .ok (.iload_n 0, 1) := by decide +kernel
theorem dX2_checkBelow_1 : decode cX2_checkBelow 1 = .ok (.ifCond .lt 8, 3) := by decide +kernel
theorem dX2_checkBelow_4 : decode cX2_checkBelow 4 = .ok (.iload_n 0, 1) := by decide +kernel
theorem dX2_checkBelow_5 : decode cX2_checkBelow 5 = .ok (.iload_n 1, 1) := by decide +kernel
theorem dX2_checkBelow_6 : decode cX2_checkBelow 6 = .ok (.if_icmp .lt 13, 3) := by decide +kernel
theorem dX2_checkBelow_9 : decode cX2_checkBelow 9 = .ok (.new 132, 3) := by decide +kernel
theorem dX2_checkBelow_12 : decode cX2_checkBelow 12 = .ok (.dup, 1) := by decide +kernel
theorem dX2_checkBelow_13 : decode cX2_checkBelow 13 = .ok (.ldc 134, 2) := by decide +kernel
theorem dX2_checkBelow_15 : decode cX2_checkBelow 15 = .ok (.invokespecial 136, 3) := by decide +kernel
theorem dX2_checkBelow_18 : decode cX2_checkBelow 18 = .ok (.athrow, 1) := by decide +kernel
theorem dX2_checkBelow_19 : decode cX2_checkBelow 19 = .ok (.return_, 1) := by decide +kernel
theorem dX2_foldAt_0 : decode cX2_foldAt 0 = .ok (.iload_n 1, 1) := by decide +kernel
theorem dX2_foldAt_1 : decode cX2_foldAt 1 = .ok (.ifCond .lt 21, 3) := by decide +kernel
theorem dX2_foldAt_4 : decode cX2_foldAt 4 = .ok (.iload_n 1, 1) := by decide +kernel
theorem dX2_foldAt_5 : decode cX2_foldAt 5 = .ok (.bipush 12, 2) := by decide +kernel
theorem dX2_foldAt_7 : decode cX2_foldAt 7 = .ok (.if_icmp .ge 15, 3) := by decide +kernel
theorem dX2_foldAt_10 : decode cX2_foldAt 10 = .ok (.aload_n 0, 1) := by decide +kernel
theorem dX2_foldAt_11 : decode cX2_foldAt 11 = .ok (.getfield 11, 3) := by decide +kernel
theorem dX2_foldAt_14 : decode cX2_foldAt 14 = .ok (.iload_n 1, 1) := by decide +kernel
theorem dX2_foldAt_15 : decode cX2_foldAt 15 = .ok (.aaload, 1) := by decide +kernel
theorem dX2_foldAt_16 : decode cX2_foldAt 16 = .ok (.getfield 68, 3) := by decide +kernel
theorem dX2_foldAt_19 : decode cX2_foldAt 19 = .ok (.ifCond .ne 13, 3) := by decide +kernel
theorem dX2_foldAt_22 : decode cX2_foldAt 22 = .ok (.new 132, 3) := by decide +kernel
theorem dX2_foldAt_25 : decode cX2_foldAt 25 = .ok (.dup, 1) := by decide +kernel
theorem dX2_foldAt_26 : decode cX2_foldAt 26 = .ok (.ldc 137, 2) := by decide +kernel
theorem dX2_foldAt_28 : decode cX2_foldAt 28 = .ok (.invokespecial 136, 3) := by decide +kernel
theorem dX2_foldAt_31 : decode cX2_foldAt 31 = .ok (.athrow, 1) := by decide +kernel
theorem dX2_foldAt_32 : decode cX2_foldAt 32 = .ok (.aload_n 0, 1) := by decide +kernel
theorem dX2_foldAt_33 : decode cX2_foldAt 33 = .ok (.getfield 11, 3) := by decide +kernel
theorem dX2_foldAt_36 : decode cX2_foldAt 36 = .ok (.iload_n 1, 1) := by decide +kernel
theorem dX2_foldAt_37 : decode cX2_foldAt 37 = .ok (.aaload, 1) := by decide +kernel
theorem dX2_foldAt_38 : decode cX2_foldAt 38 = .ok (.areturn, 1) := by decide +kernel
theorem dX2_freeNumber_0 : decode cX2_freeNumber 0 = .ok (.iconst 0, 1) := by decide +kernel
theorem dX2_freeNumber_1 : decode cX2_freeNumber 1 = .ok (.istore_n 1, 1) := by decide +kernel
theorem dX2_freeNumber_2 : decode cX2_freeNumber 2 = .ok (.iload_n 1, 1) := by decide +kernel
theorem dX2_freeNumber_3 : decode cX2_freeNumber 3 = .ok (.bipush 12, 2) := by decide +kernel
theorem dX2_freeNumber_5 : decode cX2_freeNumber 5 = .ok (.if_icmp .ge 23, 3) := by decide +kernel
theorem dX2_freeNumber_8 : decode cX2_freeNumber 8 = .ok (.aload_n 0, 1) := by decide +kernel
theorem dX2_freeNumber_9 : decode cX2_freeNumber 9 = .ok (.getfield 11, 3) := by decide +kernel
theorem dX2_freeNumber_12 : decode cX2_freeNumber 12 = .ok (.iload_n 1, 1) := by decide +kernel
theorem dX2_freeNumber_13 : decode cX2_freeNumber 13 = .ok (.aaload, 1) := by decide +kernel
theorem dX2_freeNumber_14 : decode cX2_freeNumber 14 = .ok (.getfield 68, 3) := by decide +kernel
theorem dX2_freeNumber_17 : decode cX2_freeNumber 17 = .ok (.ifCond .ne 5, 3) := by decide +kernel
theorem dX2_freeNumber_20 : decode cX2_freeNumber 20 = .ok (.iload_n 1, 1) := by decide +kernel
theorem dX2_freeNumber_21 : decode cX2_freeNumber 21 = .ok (.ireturn, 1) := by decide +kernel
theorem dX2_freeNumber_22 : decode cX2_freeNumber 22 = .ok (.iinc 1 1, 3) := by decide +kernel
theorem dX2_freeNumber_25 : decode cX2_freeNumber 25 = .ok (.goto (-23), 3) := by decide +kernel
theorem dX2_freeNumber_28 : decode cX2_freeNumber 28 = .ok (.new 139, 3) := by decide +kernel
theorem dX2_freeNumber_31 : decode cX2_freeNumber 31 = .ok (.dup, 1) := by decide +kernel
theorem dX2_freeNumber_32 : decode cX2_freeNumber 32 = .ok (.ldc 141, 2) := by decide +kernel
theorem dX2_freeNumber_34 : decode cX2_freeNumber 34 = .ok (.invokespecial 143, 3) := by decide +kernel
theorem dX2_freeNumber_37 : decode cX2_freeNumber 37 = .ok (.athrow, 1) := by decide +kernel
set_option maxRecDepth 20000 in
theorem ggX2_keep_X2_layAll : GoodIn wsX2_keep wsX2_layAll := goodIn_r _ [6, 7, 8, 1, 9, 10, 11, 12, 13, 14, 15, 16, 17, 18, 19, 20, 21, 22, 23, 24, 25, 26, 27, 28, 29, 30, 31, 32, 33, 34, 35, 36, 37, 38, 39, 40, 41, 42, 43, 44, 45, 46, 47, 48, 49, 50, 51, 52, 53, 54, 55, 56, 57, 58, 59, 60, 61, 62, 63, 64, 65, 66, 67, 68, 69, 70, 71, 72, 73, 74, 75, 76, 77, 78, 79, 80, 81, 82] (by decide +kernel) (by decide +kernel)
set_option maxRecDepth 20000 in
theorem gX2_keep_X2_layAll : GoodIn wsX2_keep (wsV RX2 72 RX2 yX2_layAll wsX2_layAll) := goodIn_app (goodIn_of _ (by decide +kernel)) ggX2_keep_X2_layAll
theorem dX2_keep_0 : decode cX2_keep 0 = .ok (.aload_n 0, 1) := by decide +kernel
theorem dX2_keep_1 : decode cX2_keep 1 = .ok (.getfield 11, 3) := by decide +kernel
theorem dX2_keep_4 : decode cX2_keep 4 = .ok (.iload_n 1, 1) := by decide +kernel
theorem dX2_keep_5 : decode cX2_keep 5 = .ok (.aaload, 1) := by decide +kernel
theorem dX2_keep_6 : decode cX2_keep 6 = .ok (.iconst 1, 1) := by decide +kernel
theorem dX2_keep_7 : decode cX2_keep 7 = .ok (.putfield 68, 3) := by decide +kernel
theorem dX2_keep_10 : decode cX2_keep 10 = .ok (.aload_n 0, 1) := by decide +kernel
theorem dX2_keep_11 : decode cX2_keep 11 = .ok (.invokevirtual 72, 3) := by decide +kernel
theorem dX2_keep_14 : decode cX2_keep 14 = .ok (.iload_n 1, 1) := by decide +kernel
theorem dX2_keep_15 : decode cX2_keep 15 = .ok (.ireturn, 1) := by decide +kernel
set_option maxRecDepth 20000 in
theorem ggX2_layAll_X1_startOver : GoodIn wsX2_layAll wsX1_startOver := goodIn_r _ [7, 8, 9, 10, 11, 12, 13, 14, 15, 16, 17, 18, 19, 20, 21, 22, 5, 23, 68, 69, 70, 71, 72, 73, 74, 75, 76, 77] (by decide +kernel) (by decide +kernel)
set_option maxRecDepth 20000 in
theorem gX2_layAll_X1_startOver_n113 : GoodIn wsX2_layAll (wsX1_startOver) := ggX2_layAll_X1_startOver
set_option maxRecDepth 20000 in
theorem ggX2_layAll_X1_lay : GoodIn wsX2_layAll wsX1_lay := goodIn_r _ [26, 27, 15, 10, 28, 29, 30, 5, 31, 9, 32, 33, 34, 35, 36, 37, 38, 8, 39, 68, 69, 70, 71, 72, 73, 74, 75, 76, 77] (by decide +kernel) (by decide +kernel)
set_option maxRecDepth 20000 in
theorem gX2_layAll_X1_lay_n117 : GoodIn wsX2_layAll (wsX1_lay) := ggX2_layAll_X1_lay
set_option maxRecDepth 20000 in
theorem ggX2_layAll_X1_putInRow : GoodIn wsX2_layAll wsX1_putInRow := goodIn_r _ [42, 43, 39, 33, 34, 16, 17, 18, 19, 44, 45, 5, 46, 8, 47, 48, 49, 50, 51, 52, 53, 54, 61, 62, 63, 64, 65, 66, 67, 68, 69, 70, 71, 72, 73, 74, 75, 76, 77] (by decide +kernel) (by decide +kernel)
set_option maxRecDepth 20000 in
theorem gX2_layAll_X1_putInRow_n144 : GoodIn wsX2_layAll (wsX1_putInRow) := ggX2_layAll_X1_putInRow
theorem dX2_layAll_0 : decode cX2_layAll 0 = .ok (.aload_n 0, 1) := by decide +kernel
theorem dX2_layAll_1 : decode cX2_layAll 1 = .ok (.getfield 22, 3) := by decide +kernel
theorem dX2_layAll_4 : decode cX2_layAll 4 = .ok (.aload_n 0, 1) := by decide +kernel
theorem dX2_layAll_5 : decode cX2_layAll 5 = .ok (.getfield 15, 3) := by decide +kernel
theorem dX2_layAll_8 : decode cX2_layAll 8 = .ok (.invokevirtual 113, 3) := by decide +kernel
theorem dX2_layAll_11 : decode cX2_layAll 11 = .ok (.iconst 0, 1) := by decide +kernel
theorem dX2_layAll_12 : decode cX2_layAll 12 = .ok (.istore_n 1, 1) := by decide +kernel
theorem dX2_layAll_13 : decode cX2_layAll 13 = .ok (.iload_n 1, 1) := by decide +kernel
theorem dX2_layAll_14 : decode cX2_layAll 14 = .ok (.bipush 12, 2) := by decide +kernel
theorem dX2_layAll_16 : decode cX2_layAll 16 = .ok (.if_icmp .ge 42, 3) := by decide +kernel
theorem dX2_layAll_19 : decode cX2_layAll 19 = .ok (.aload_n 0, 1) := by decide +kernel
theorem dX2_layAll_20 : decode cX2_layAll 20 = .ok (.getfield 11, 3) := by decide +kernel
theorem dX2_layAll_23 : decode cX2_layAll 23 = .ok (.iload_n 1, 1) := by decide +kernel
theorem dX2_layAll_24 : decode cX2_layAll 24 = .ok (.aaload, 1) := by decide +kernel
theorem dX2_layAll_25 : decode cX2_layAll 25 = .ok (.astore_n 2, 1) := by decide +kernel
theorem dX2_layAll_26 : decode cX2_layAll 26 = .ok (.aload_n 2, 1) := by decide +kernel
theorem dX2_layAll_27 : decode cX2_layAll 27 = .ok (.getfield 68, 3) := by decide +kernel
theorem dX2_layAll_30 : decode cX2_layAll 30 = .ok (.ifCond .eq 22, 3) := by decide +kernel
theorem dX2_layAll_33 : decode cX2_layAll 33 = .ok (.aload_n 0, 1) := by decide +kernel
theorem dX2_layAll_34 : decode cX2_layAll 34 = .ok (.getfield 22, 3) := by decide +kernel
theorem dX2_layAll_37 : decode cX2_layAll 37 = .ok (.aload_n 2, 1) := by decide +kernel
theorem dX2_layAll_38 : decode cX2_layAll 38 = .ok (.aload_n 0, 1) := by decide +kernel
theorem dX2_layAll_39 : decode cX2_layAll 39 = .ok (.getfield 22, 3) := by decide +kernel
theorem dX2_layAll_42 : decode cX2_layAll 42 = .ok (.aload_n 2, 1) := by decide +kernel
theorem dX2_layAll_43 : decode cX2_layAll 43 = .ok (.getfield 41, 3) := by decide +kernel
theorem dX2_layAll_46 : decode cX2_layAll 46 = .ok (.invokevirtual 117, 3) := by decide +kernel
theorem dX2_layAll_49 : decode cX2_layAll 49 = .ok (.invokevirtual 144, 3) := by decide +kernel
theorem dX2_layAll_52 : decode cX2_layAll 52 = .ok (.iinc 1 1, 3) := by decide +kernel
theorem dX2_layAll_55 : decode cX2_layAll 55 = .ok (.goto (-42), 3) := by decide +kernel
theorem dX2_layAll_58 : decode cX2_layAll 58 = .ok (.return_, 1) := by decide +kernel
set_option maxRecDepth 20000 in
theorem ggX2_countForksAfterSwap_X2_exchange : GoodIn wsX2_countForksAfterSwap wsX2_exchange := goodIn_r _ [12] (by decide +kernel) (by decide +kernel)
set_option maxRecDepth 20000 in
theorem gX2_countForksAfterSwap_X2_exchange : GoodIn wsX2_countForksAfterSwap (va_wsS RX2 78 yX2_exchange wsX2_exchange) := goodIn_app (goodIn_of _ (by decide +kernel)) ggX2_countForksAfterSwap_X2_exchange
set_option maxRecDepth 20000 in
theorem ggX2_countForksAfterSwap_X1_startOver : GoodIn wsX2_countForksAfterSwap wsX1_startOver := goodIn_r _ [16, 17, 18, 19, 20, 4, 5, 6, 21, 22, 23, 24, 25, 26, 27, 28, 14, 29, 59, 60, 61, 62, 63, 64, 65, 66, 67, 68] (by decide +kernel) (by decide +kernel)
set_option maxRecDepth 20000 in
theorem gX2_countForksAfterSwap_X1_startOver_n113 : GoodIn wsX2_countForksAfterSwap (wsX1_startOver) := ggX2_countForksAfterSwap_X1_startOver
set_option maxRecDepth 20000 in
theorem ggX2_countForksAfterSwap_X1_lay : GoodIn wsX2_countForksAfterSwap wsX1_lay := goodIn_r _ [32, 33, 21, 19, 34, 35, 36, 14, 37, 18, 38, 39, 40, 41, 42, 43, 44, 17, 45, 59, 60, 61, 62, 63, 64, 65, 66, 67, 68] (by decide +kernel) (by decide +kernel)
set_option maxRecDepth 20000 in
theorem gX2_countForksAfterSwap_X1_lay_n117 : GoodIn wsX2_countForksAfterSwap (wsX1_lay) := ggX2_countForksAfterSwap_X1_lay
theorem dX2_countForksAfterSwap_0 : decode cX2_countForksAfterSwap 0 = .ok (.aload_n 0, 1) := by decide +kernel
theorem dX2_countForksAfterSwap_1 : decode cX2_countForksAfterSwap 1 = .ok (.getfield 15, 3) := by decide +kernel
theorem dX2_countForksAfterSwap_4 : decode cX2_countForksAfterSwap 4 = .ok (.iconst 0, 1) := by decide +kernel
theorem dX2_countForksAfterSwap_5 : decode cX2_countForksAfterSwap 5 = .ok (.aload_n 0, 1) := by decide +kernel
theorem dX2_countForksAfterSwap_6 : decode cX2_countForksAfterSwap 6 = .ok (.getfield 30, 3) := by decide +kernel
theorem dX2_countForksAfterSwap_9 : decode cX2_countForksAfterSwap 9 = .ok (.iconst 0, 1) := by decide +kernel
theorem dX2_countForksAfterSwap_10 : decode cX2_countForksAfterSwap 10 = .ok (.bipush 8, 2) := by decide +kernel
theorem dX2_countForksAfterSwap_12 : decode cX2_countForksAfterSwap 12 = .ok (.invokestatic 148, 3) := by decide +kernel
theorem dX2_countForksAfterSwap_15 : decode cX2_countForksAfterSwap 15 = .ok (.aload_n 0, 1) := by decide +kernel
theorem dX2_countForksAfterSwap_16 : decode cX2_countForksAfterSwap 16 = .ok (.getfield 30, 3) := by decide +kernel
theorem dX2_countForksAfterSwap_19 : decode cX2_countForksAfterSwap 19 = .ok (.iload_n 1, 1) := by decide +kernel
theorem dX2_countForksAfterSwap_20 : decode cX2_countForksAfterSwap 20 = .ok (.invokestatic 78, 3) := by decide +kernel
theorem dX2_countForksAfterSwap_23 : decode cX2_countForksAfterSwap 23 = .ok (.aload_n 0, 1) := by decide +kernel
theorem dX2_countForksAfterSwap_24 : decode cX2_countForksAfterSwap 24 = .ok (.getfield 33, 3) := by decide +kernel
theorem dX2_countForksAfterSwap_27 : decode cX2_countForksAfterSwap 27 = .ok (.aload_n 0, 1) := by decide +kernel
theorem dX2_countForksAfterSwap_28 : decode cX2_countForksAfterSwap 28 = .ok (.getfield 30, 3) := by decide +kernel
theorem dX2_countForksAfterSwap_31 : decode cX2_countForksAfterSwap 31 = .ok (.invokevirtual 113, 3) := by decide +kernel
theorem dX2_countForksAfterSwap_34 : decode cX2_countForksAfterSwap 34 = .ok (.iconst 0, 1) := by decide +kernel
theorem dX2_countForksAfterSwap_35 : decode cX2_countForksAfterSwap 35 = .ok (.istore_n 2, 1) := by decide +kernel
theorem dX2_countForksAfterSwap_36 : decode cX2_countForksAfterSwap 36 = .ok (.iload_n 2, 1) := by decide +kernel
theorem dX2_countForksAfterSwap_37 : decode cX2_countForksAfterSwap 37 = .ok (.bipush 12, 2) := by decide +kernel
theorem dX2_countForksAfterSwap_39 : decode cX2_countForksAfterSwap 39 = .ok (.if_icmp .ge 38, 3) := by decide +kernel
theorem dX2_countForksAfterSwap_42 : decode cX2_countForksAfterSwap 42 = .ok (.aload_n 0, 1) := by decide +kernel
theorem dX2_countForksAfterSwap_43 : decode cX2_countForksAfterSwap 43 = .ok (.getfield 11, 3) := by decide +kernel
theorem dX2_countForksAfterSwap_46 : decode cX2_countForksAfterSwap 46 = .ok (.iload_n 2, 1) := by decide +kernel
theorem dX2_countForksAfterSwap_47 : decode cX2_countForksAfterSwap 47 = .ok (.aaload, 1) := by decide +kernel
theorem dX2_countForksAfterSwap_48 : decode cX2_countForksAfterSwap 48 = .ok (.getfield 68, 3) := by decide +kernel
theorem dX2_countForksAfterSwap_51 : decode cX2_countForksAfterSwap 51 = .ok (.ifCond .eq 20, 3) := by decide +kernel
theorem dX2_countForksAfterSwap_54 : decode cX2_countForksAfterSwap 54 = .ok (.aload_n 0, 1) := by decide +kernel
theorem dX2_countForksAfterSwap_55 : decode cX2_countForksAfterSwap 55 = .ok (.getfield 33, 3) := by decide +kernel
theorem dX2_countForksAfterSwap_58 : decode cX2_countForksAfterSwap 58 = .ok (.aload_n 0, 1) := by decide +kernel
theorem dX2_countForksAfterSwap_59 : decode cX2_countForksAfterSwap 59 = .ok (.getfield 11, 3) := by decide +kernel
theorem dX2_countForksAfterSwap_62 : decode cX2_countForksAfterSwap 62 = .ok (.iload_n 2, 1) := by decide +kernel
theorem dX2_countForksAfterSwap_63 : decode cX2_countForksAfterSwap 63 = .ok (.aaload, 1) := by decide +kernel
theorem dX2_countForksAfterSwap_64 : decode cX2_countForksAfterSwap 64 = .ok (.getfield 41, 3) := by decide +kernel
theorem dX2_countForksAfterSwap_67 : decode cX2_countForksAfterSwap 67 = .ok (.invokevirtual 117, 3) := by decide +kernel
theorem dX2_countForksAfterSwap_70 : decode cX2_countForksAfterSwap 70 = .ok (.pop, 1) := by decide +kernel
theorem dX2_countForksAfterSwap_71 : decode cX2_countForksAfterSwap 71 = .ok (.iinc 2 1, 3) := by decide +kernel
theorem dX2_countForksAfterSwap_74 : decode cX2_countForksAfterSwap 74 = .ok (.goto (-38), 3) := by decide +kernel
theorem dX2_countForksAfterSwap_77 : decode cX2_countForksAfterSwap 77 = .ok (.aload_n 0, 1) := by decide +kernel
theorem dX2_countForksAfterSwap_78 : decode cX2_countForksAfterSwap 78 = .ok (.getfield 33, 3) := by decide +kernel
theorem dX2_countForksAfterSwap_81 : decode cX2_countForksAfterSwap 81 = .ok (.getfield 82, 3) := by decide +kernel
theorem dX2_countForksAfterSwap_84 : decode cX2_countForksAfterSwap 84 = .ok (.ireturn, 1) := by decide +kernel
theorem dX2_exchange_0 : decode cX2_exchange 0 = .ok (.aload_n 0, 1) := by decide +kernel
theorem dX2_exchange_1 : decode cX2_exchange 1 = .ok (.iload_n 1, 1) := by decide +kernel
theorem dX2_exchange_2 : decode cX2_exchange 2 = .ok (.iaload, 1) := by decide +kernel
theorem dX2_exchange_3 : decode cX2_exchange 3 = .ok (.istore_n 2, 1) := by decide +kernel
theorem dX2_exchange_4 : decode cX2_exchange 4 = .ok (.aload_n 0, 1) := by decide +kernel
theorem dX2_exchange_5 : decode cX2_exchange 5 = .ok (.iload_n 1, 1) := by decide +kernel
theorem dX2_exchange_6 : decode cX2_exchange 6 = .ok (.aload_n 0, 1) := by decide +kernel
theorem dX2_exchange_7 : decode cX2_exchange 7 = .ok (.iload_n 1, 1) := by decide +kernel
theorem dX2_exchange_8 : decode cX2_exchange 8 = .ok (.iconst 1, 1) := by decide +kernel
theorem dX2_exchange_9 : decode cX2_exchange 9 = .ok (.iadd, 1) := by decide +kernel
theorem dX2_exchange_10 : decode cX2_exchange 10 = .ok (.iaload, 1) := by decide +kernel
theorem dX2_exchange_11 : decode cX2_exchange 11 = .ok (.iastore, 1) := by decide +kernel
theorem dX2_exchange_12 : decode cX2_exchange 12 = .ok (.aload_n 0, 1) := by decide +kernel
theorem dX2_exchange_13 : decode cX2_exchange 13 = .ok (.iload_n 1, 1) := by decide +kernel
theorem dX2_exchange_14 : decode cX2_exchange 14 = .ok (.iconst 1, 1) := by decide +kernel
theorem dX2_exchange_15 : decode cX2_exchange 15 = .ok (.iadd, 1) := by decide +kernel
theorem dX2_exchange_16 : decode cX2_exchange 16 = .ok (.iload_n 2, 1) := by decide +kernel
theorem dX2_exchange_17 : decode cX2_exchange 17 = .ok (.iastore, 1) := by decide +kernel
theorem dX2_exchange_18 : decode cX2_exchange 18 = .ok (.return_, 1) := by decide +kernel
theorem dX2_isYes_0 : decode cX2_isYes 0 = .ok (.iload_n 0, 1) := by decide +kernel
theorem dX2_isYes_1 : decode cX2_isYes 1 = .ok (.iload_n 1, 1) := by decide +kernel
theorem dX2_isYes_2 : decode cX2_isYes 2 = .ok (.ishr, 1) := by decide +kernel
theorem dX2_isYes_3 : decode cX2_isYes 3 = .ok (.iconst 1, 1) := by decide +kernel
theorem dX2_isYes_4 : decode cX2_isYes 4 = .ok (.iand, 1) := by decide +kernel
theorem dX2_isYes_5 : decode cX2_isYes 5 = .ok (.iconst 1, 1) := by decide +kernel
theorem dX2_isYes_6 : decode cX2_isYes 6 = .ok (.if_icmp .ne 7, 3) := by decide +kernel
theorem dX2_isYes_9 : decode cX2_isYes 9 = .ok (.iconst 1, 1) := by decide +kernel
theorem dX2_isYes_10 : decode cX2_isYes 10 = .ok (.goto 4, 3) := by decide +kernel
theorem dX2_isYes_13 : decode cX2_isYes 13 = .ok (.iconst 0, 1) := by decide +kernel
theorem dX2_isYes_14 : decode cX2_isYes 14 = .ok (.ireturn, 1) := by decide +kernel
theorem dX2_withAnswer_0 : decode cX2_withAnswer 0 = .ok (.iconst 1, 1) := by decide +kernel
theorem dX2_withAnswer_1 : decode cX2_withAnswer 1 = .ok (.iload_n 1, 1) := by decide +kernel
theorem dX2_withAnswer_2 : decode cX2_withAnswer 2 = .ok (.ishl, 1) := by decide +kernel
theorem dX2_withAnswer_3 : decode cX2_withAnswer 3 = .ok (.istore_n 3, 1) := by decide +kernel
theorem dX2_withAnswer_4 : decode cX2_withAnswer 4 = .ok (.iload_n 2, 1) := by decide +kernel
theorem dX2_withAnswer_5 : decode cX2_withAnswer 5 = .ok (.ifCond .eq 9, 3) := by decide +kernel
theorem dX2_withAnswer_8 : decode cX2_withAnswer 8 = .ok (.iload_n 0, 1) := by decide +kernel
theorem dX2_withAnswer_9 : decode cX2_withAnswer 9 = .ok (.iload_n 3, 1) := by decide +kernel
theorem dX2_withAnswer_10 : decode cX2_withAnswer 10 = .ok (.ior, 1) := by decide +kernel
theorem dX2_withAnswer_11 : decode cX2_withAnswer 11 = .ok (.goto 8, 3) := by decide +kernel
theorem dX2_withAnswer_14 : decode cX2_withAnswer 14 = .ok (.iload_n 0, 1) := by decide +kernel
theorem dX2_withAnswer_15 : decode cX2_withAnswer 15 = .ok (.iload_n 3, 1) := by decide +kernel
theorem dX2_withAnswer_16 : decode cX2_withAnswer 16 = .ok (.iconst (-1), 1) := by decide +kernel
theorem dX2_withAnswer_17 : decode cX2_withAnswer 17 = .ok (.ixor, 1) := by decide +kernel
theorem dX2_withAnswer_18 : decode cX2_withAnswer 18 = .ok (.iand, 1) := by decide +kernel
theorem dX2_withAnswer_19 : decode cX2_withAnswer 19 = .ok (.ireturn, 1) := by decide +kernel
set_option maxRecDepth 20000 in
theorem ggX2_sayJoined_X2_joined : GoodIn wsX2_sayJoined wsX2_joined := goodIn_r _ [4] (by decide +kernel) (by decide +kernel)
set_option maxRecDepth 20000 in
theorem gX2_sayJoined_X2_joined : GoodIn wsX2_sayJoined (va_wsS RX2 154 yX2_joined wsX2_joined) := goodIn_app (goodIn_of _ (by decide +kernel)) ggX2_sayJoined_X2_joined
theorem dX2_sayJoined_0 : decode cX2_sayJoined 0 = .ok (.iconst 0, 1) := by decide +kernel
theorem dX2_sayJoined_1 : decode cX2_sayJoined 1 = .ok (.istore 4, 2) := by decide +kernel
theorem dX2_sayJoined_3 : decode cX2_sayJoined 3 = .ok (.iload 4, 2) := by decide +kernel
theorem dX2_sayJoined_5 : decode cX2_sayJoined 5 = .ok (.sipush 256, 3) := by decide +kernel
theorem dX2_sayJoined_8 : decode cX2_sayJoined 8 = .ok (.if_icmp .ge 31, 3) := by decide +kernel
theorem dX2_sayJoined_11 : decode cX2_sayJoined 11 = .ok (.aload_n 3, 1) := by decide +kernel
theorem dX2_sayJoined_12 : decode cX2_sayJoined 12 = .ok (.iload 4, 2) := by decide +kernel
theorem dX2_sayJoined_14 : decode cX2_sayJoined 14 = .ok (.aload_n 0, 1) := by decide +kernel
theorem dX2_sayJoined_15 : decode cX2_sayJoined 15 = .ok (.getfield 41, 3) := by decide +kernel
theorem dX2_sayJoined_18 : decode cX2_sayJoined 18 = .ok (.iload 4, 2) := by decide +kernel
theorem dX2_sayJoined_20 : decode cX2_sayJoined 20 = .ok (.baload, 1) := by decide +kernel
theorem dX2_sayJoined_21 : decode cX2_sayJoined 21 = .ok (.aload_n 1, 1) := by decide +kernel
theorem dX2_sayJoined_22 : decode cX2_sayJoined 22 = .ok (.getfield 41, 3) := by decide +kernel
theorem dX2_sayJoined_25 : decode cX2_sayJoined 25 = .ok (.iload 4, 2) := by decide +kernel
theorem dX2_sayJoined_27 : decode cX2_sayJoined 27 = .ok (.baload, 1) := by decide +kernel
theorem dX2_sayJoined_28 : decode cX2_sayJoined 28 = .ok (.iload_n 2, 1) := by decide +kernel
theorem dX2_sayJoined_29 : decode cX2_sayJoined 29 = .ok (.invokestatic 154, 3) := by decide +kernel
theorem dX2_sayJoined_32 : decode cX2_sayJoined 32 = .ok (.bastore, 1) := by decide +kernel
theorem dX2_sayJoined_33 : decode cX2_sayJoined 33 = .ok (.iinc 4 1, 3) := by decide +kernel
theorem dX2_sayJoined_36 : decode cX2_sayJoined 36 = .ok (.goto (-33), 3) := by decide +kernel
theorem dX2_sayJoined_39 : decode cX2_sayJoined 39 = .ok (.return_, 1) := by decide +kernel
theorem dX2_joined_0 : decode cX2_joined 0 = .ok (.iload_n 2, 1) := by decide +kernel
theorem dX2_joined_1 : decode cX2_joined 1 = .ok (.tableswitch 102 0 4 #[35, 49, 63, 74, 88], 35) := by decide +kernel
theorem dX2_joined_36 : decode cX2_joined 36 = .ok (.iload_n 0, 1) := by decide +kernel
theorem dX2_joined_37 : decode cX2_joined 37 = .ok (.ifCond .eq 11, 3) := by decide +kernel
theorem dX2_joined_40 : decode cX2_joined 40 = .ok (.iload_n 1, 1) := by decide +kernel
theorem dX2_joined_41 : decode cX2_joined 41 = .ok (.ifCond .eq 7, 3) := by decide +kernel
theorem dX2_joined_44 : decode cX2_joined 44 = .ok (.iconst 1, 1) := by decide +kernel
theorem dX2_joined_45 : decode cX2_joined 45 = .ok (.goto 4, 3) := by decide +kernel
theorem dX2_joined_48 : decode cX2_joined 48 = .ok (.iconst 0, 1) := by decide +kernel
theorem dX2_joined_49 : decode cX2_joined 49 = .ok (.ireturn, 1) := by decide +kernel
theorem dX2_joined_50 : decode cX2_joined 50 = .ok (.iload_n 0, 1) := by decide +kernel
theorem dX2_joined_51 : decode cX2_joined 51 = .ok (.ifCond .ne 7, 3) := by decide +kernel
theorem dX2_joined_54 : decode cX2_joined 54 = .ok (.iload_n 1, 1) := by decide +kernel
theorem dX2_joined_55 : decode cX2_joined 55 = .ok (.ifCond .eq 7, 3) := by decide +kernel
theorem dX2_joined_58 : decode cX2_joined 58 = .ok (.iconst 1, 1) := by decide +kernel
theorem dX2_joined_59 : decode cX2_joined 59 = .ok (.goto 4, 3) := by decide +kernel
theorem dX2_joined_62 : decode cX2_joined 62 = .ok (.iconst 0, 1) := by decide +kernel
theorem dX2_joined_63 : decode cX2_joined 63 = .ok (.ireturn, 1) := by decide +kernel
theorem dX2_joined_64 : decode cX2_joined 64 = .ok (.iload_n 0, 1) := by decide +kernel
theorem dX2_joined_65 : decode cX2_joined 65 = .ok (.iload_n 1, 1) := by decide +kernel
theorem dX2_joined_66 : decode cX2_joined 66 = .ok (.if_icmp .eq 7, 3) := by decide +kernel
theorem dX2_joined_69 : decode cX2_joined 69 = .ok (.iconst 1, 1) := by decide +kernel
theorem dX2_joined_70 : decode cX2_joined 70 = .ok (.goto 4, 3) := by decide +kernel
theorem dX2_joined_73 : decode cX2_joined 73 = .ok (.iconst 0, 1) := by decide +kernel
theorem dX2_joined_74 : decode cX2_joined 74 = .ok (.ireturn, 1) := by decide +kernel
theorem dX2_joined_75 : decode cX2_joined 75 = .ok (.iload_n 0, 1) := by decide +kernel
theorem dX2_joined_76 : decode cX2_joined 76 = .ok (.ifCond .eq 7, 3) := by decide +kernel
theorem dX2_joined_79 : decode cX2_joined 79 = .ok (.iload_n 1, 1) := by decide +kernel
theorem dX2_joined_80 : decode cX2_joined 80 = .ok (.ifCond .ne 7, 3) := by decide +kernel
theorem dX2_joined_83 : decode cX2_joined 83 = .ok (.iconst 1, 1) := by decide +kernel
theorem dX2_joined_84 : decode cX2_joined 84 = .ok (.goto 4, 3) := by decide +kernel
theorem dX2_joined_87 : decode cX2_joined 87 = .ok (.iconst 0, 1) := by decide +kernel
theorem dX2_joined_88 : decode cX2_joined 88 = .ok (.ireturn, 1) := by decide +kernel
theorem dX2_joined_89 : decode cX2_joined 89 = .ok (.iload_n 0, 1) := by decide +kernel
theorem dX2_joined_90 : decode cX2_joined 90 = .ok (.ifCond .ne 11, 3) := by decide +kernel
theorem dX2_joined_93 : decode cX2_joined 93 = .ok (.iload_n 1, 1) := by decide +kernel
theorem dX2_joined_94 : decode cX2_joined 94 = .ok (.ifCond .ne 7, 3) := by decide +kernel
theorem dX2_joined_97 : decode cX2_joined 97 = .ok (.iconst 1, 1) := by decide +kernel
theorem dX2_joined_98 : decode cX2_joined 98 = .ok (.goto 4, 3) := by decide +kernel
theorem dX2_joined_101 : decode cX2_joined 101 = .ok (.iconst 0, 1) := by decide +kernel
theorem dX2_joined_102 : decode cX2_joined 102 = .ok (.ireturn, 1) := by decide +kernel
theorem dX2_joined_103 : decode cX2_joined 103 = .ok (.iload_n 0, 1) := by decide +kernel
theorem dX2_joined_104 : decode cX2_joined 104 = .ok (.iload_n 1, 1) := by decide +kernel
theorem dX2_joined_105 : decode cX2_joined 105 = .ok (.if_icmp .ne 7, 3) := by decide +kernel
theorem dX2_joined_108 : decode cX2_joined 108 = .ok (.iconst 1, 1) := by decide +kernel
theorem dX2_joined_109 : decode cX2_joined 109 = .ok (.goto 4, 3) := by decide +kernel
theorem dX2_joined_112 : decode cX2_joined 112 = .ok (.iconst 0, 1) := by decide +kernel
theorem dX2_joined_113 : decode cX2_joined 113 = .ok (.ireturn, 1) := by decide +kernel
theorem dX2_tellFork_0 : decode cX2_tellFork 0 = .ok (.aload_n 1, 1) := by decide +kernel
theorem dX2_tellFork_1 : decode cX2_tellFork 1 = .ok (.getfield 158, 3) := by decide +kernel
theorem dX2_tellFork_4 : decode cX2_tellFork 4 = .ok (.iload_n 2, 1) := by decide +kernel
theorem dX2_tellFork_5 : decode cX2_tellFork 5 = .ok (.iaload, 1) := by decide +kernel
theorem dX2_tellFork_6 : decode cX2_tellFork 6 = .ok (.istore 4, 2) := by decide +kernel
theorem dX2_tellFork_8 : decode cX2_tellFork 8 = .ok (.iload_n 3, 1) := by decide +kernel
theorem dX2_tellFork_9 : decode cX2_tellFork 9 = .ok (.tableswitch 63 0 3 #[31, 42, 49, 56], 31) := by decide +kernel
theorem dX2_tellFork_40 : decode cX2_tellFork 40 = .ok (.aload_n 0, 1) := by decide +kernel
theorem dX2_tellFork_41 : decode cX2_tellFork 41 = .ok (.getfield 22, 3) := by decide +kernel
theorem dX2_tellFork_44 : decode cX2_tellFork 44 = .ok (.getfield 161, 3) := by decide +kernel
theorem dX2_tellFork_47 : decode cX2_tellFork 47 = .ok (.iload 4, 2) := by decide +kernel
theorem dX2_tellFork_49 : decode cX2_tellFork 49 = .ok (.iaload, 1) := by decide +kernel
theorem dX2_tellFork_50 : decode cX2_tellFork 50 = .ok (.ireturn, 1) := by decide +kernel
theorem dX2_tellFork_51 : decode cX2_tellFork 51 = .ok (.aload_n 1, 1) := by decide +kernel
theorem dX2_tellFork_52 : decode cX2_tellFork 52 = .ok (.getfield 164, 3) := by decide +kernel
theorem dX2_tellFork_55 : decode cX2_tellFork 55 = .ok (.iload_n 2, 1) := by decide +kernel
theorem dX2_tellFork_56 : decode cX2_tellFork 56 = .ok (.iaload, 1) := by decide +kernel
theorem dX2_tellFork_57 : decode cX2_tellFork 57 = .ok (.ireturn, 1) := by decide +kernel
theorem dX2_tellFork_58 : decode cX2_tellFork 58 = .ok (.aload_n 1, 1) := by decide +kernel
theorem dX2_tellFork_59 : decode cX2_tellFork 59 = .ok (.getfield 167, 3) := by decide +kernel
theorem dX2_tellFork_62 : decode cX2_tellFork 62 = .ok (.iload_n 2, 1) := by decide +kernel
theorem dX2_tellFork_63 : decode cX2_tellFork 63 = .ok (.iaload, 1) := by decide +kernel
theorem dX2_tellFork_64 : decode cX2_tellFork 64 = .ok (.ireturn, 1) := by decide +kernel
theorem dX2_tellFork_65 : decode cX2_tellFork 65 = .ok (.aload_n 1, 1) := by decide +kernel
theorem dX2_tellFork_66 : decode cX2_tellFork 66 = .ok (.getfield 170, 3) := by decide +kernel
theorem dX2_tellFork_69 : decode cX2_tellFork 69 = .ok (.iload_n 2, 1) := by decide +kernel
theorem dX2_tellFork_70 : decode cX2_tellFork 70 = .ok (.iaload, 1) := by decide +kernel
theorem dX2_tellFork_71 : decode cX2_tellFork 71 = .ok (.ireturn, 1) := by decide +kernel
theorem dX2_tellFork_72 : decode cX2_tellFork 72 = .ok (.aload_n 0, 1) := by decide +kernel
theorem dX2_tellFork_73 : decode cX2_tellFork 73 = .ok (.getfield 22, 3) := by decide +kernel
theorem dX2_tellFork_76 : decode cX2_tellFork 76 = .ok (.getfield 173, 3) := by decide +kernel
theorem dX2_tellFork_79 : decode cX2_tellFork 79 = .ok (.iload 4, 2) := by decide +kernel
theorem dX2_tellFork_81 : decode cX2_tellFork 81 = .ok (.iaload, 1) := by decide +kernel
theorem dX2_tellFork_82 : decode cX2_tellFork 82 = .ok (.ireturn, 1) := by decide +kernel
set_option maxRecDepth 20000 in
theorem ggX2_tellFold_X2_countYes : GoodIn wsX2_tellFold wsX2_countYes := goodIn_r _ [4, 42, 43, 44, 45, 46, 47, 48] (by decide +kernel) (by decide +kernel)
set_option maxRecDepth 20000 in
theorem gX2_tellFold_X2_countYes : GoodIn wsX2_tellFold (va_wsS RX2 176 yX2_countYes wsX2_countYes) := goodIn_app (goodIn_of _ (by decide +kernel)) ggX2_tellFold_X2_countYes
set_option maxRecDepth 20000 in
theorem ggX2_tellFold_X2_questionsThatMatter : GoodIn wsX2_tellFold wsX2_questionsThatMatter := goodIn_r _ [8, 9, 42, 43, 44, 45, 46, 47, 48, 49, 50, 51, 52, 53, 54, 55, 56, 57, 58, 59, 60, 61, 62, 63, 64] (by decide +kernel) (by decide +kernel)
set_option maxRecDepth 20000 in
theorem gX2_tellFold_X2_questionsThatMatter : GoodIn wsX2_tellFold (wsV RX2 180 RX2 yX2_questionsThatMatter wsX2_questionsThatMatter) := goodIn_app (goodIn_of _ (by decide +kernel)) ggX2_tellFold_X2_questionsThatMatter
set_option maxRecDepth 20000 in
theorem ggX2_tellFold_X2_leastAsked : GoodIn wsX2_tellFold wsX2_leastAsked := goodIn_r _ [13, 14, 15, 16, 17, 18, 19, 20, 3, 21, 9, 22, 23, 24, 42, 43, 44, 45, 46, 47, 48, 49, 50, 51, 52, 53, 54, 55, 56, 57, 58, 59, 60, 61, 62, 63, 64] (by decide +kernel) (by decide +kernel)
set_option maxRecDepth 20000 in
theorem gX2_tellFold_X2_leastAsked : GoodIn wsX2_tellFold (wsV RX2 183 RX2 yX2_leastAsked wsX2_leastAsked) := goodIn_app (goodIn_of _ (by decide +kernel)) ggX2_tellFold_X2_leastAsked
set_option maxRecDepth 20000 in
theorem ggX2_tellFold_X2_mostAsked : GoodIn wsX2_tellFold wsX2_mostAsked := goodIn_r _ [28, 29, 30, 16, 31, 18, 19, 20, 3, 21, 9, 22, 23, 24, 42, 43, 44, 45, 46, 47, 48, 49, 50, 51, 52, 53, 54, 55, 56, 57, 58, 59, 60, 61, 62, 63, 64] (by decide +kernel) (by decide +kernel)
set_option maxRecDepth 20000 in
theorem gX2_tellFold_X2_mostAsked : GoodIn wsX2_tellFold (wsV RX2 186 RX2 yX2_mostAsked wsX2_mostAsked) := goodIn_app (goodIn_of _ (by decide +kernel)) ggX2_tellFold_X2_mostAsked
set_option maxRecDepth 20000 in
theorem ggX2_tellFold_X2_smallestYes : GoodIn wsX2_tellFold wsX2_smallestYes := goodIn_r _ [34, 42, 43, 44, 45, 46, 47, 48] (by decide +kernel) (by decide +kernel)
set_option maxRecDepth 20000 in
theorem gX2_tellFold_X2_smallestYes : GoodIn wsX2_tellFold (va_wsS RX2 189 yX2_smallestYes wsX2_smallestYes) := goodIn_app (goodIn_of _ (by decide +kernel)) ggX2_tellFold_X2_smallestYes
set_option maxRecDepth 20000 in
theorem ggX2_tellFold_X2_greatestYes : GoodIn wsX2_tellFold wsX2_greatestYes := goodIn_r _ [37, 42, 43, 44, 45, 46, 47, 48] (by decide +kernel) (by decide +kernel)
set_option maxRecDepth 20000 in
theorem gX2_tellFold_X2_greatestYes : GoodIn wsX2_tellFold (va_wsS RX2 192 yX2_greatestYes wsX2_greatestYes) := goodIn_app (goodIn_of _ (by decide +kernel)) ggX2_tellFold_X2_greatestYes
set_option maxRecDepth 20000 in
theorem ggX2_tellFold_X2_countOwnForks : GoodIn wsX2_tellFold wsX2_countOwnForks := goodIn_r _ [41, 9, 42, 43, 44, 45, 46, 47, 48, 49, 50, 51, 52, 53, 54, 55, 56, 57, 58, 59, 60, 61, 62, 63, 64] (by decide +kernel) (by decide +kernel)
set_option maxRecDepth 20000 in
theorem gX2_tellFold_X2_countOwnForks : GoodIn wsX2_tellFold (wsV RX2 195 RX2 yX2_countOwnForks wsX2_countOwnForks) := goodIn_app (goodIn_of _ (by decide +kernel)) ggX2_tellFold_X2_countOwnForks
theorem dX2_tellFold_0 : decode cX2_tellFold 0 = .ok (.iload_n 2, 1) := by decide +kernel
theorem dX2_tellFold_1 : decode cX2_tellFold 1 = .ok (.tableswitch 81 0 6 #[43, 48, 53, 59, 65, 71, 76], 43) := by decide +kernel
theorem dX2_tellFold_44 : decode cX2_tellFold 44 = .ok (.aload_n 1, 1) := by decide +kernel
theorem dX2_tellFold_45 : decode cX2_tellFold 45 = .ok (.getfield 93, 3) := by decide +kernel
theorem dX2_tellFold_48 : decode cX2_tellFold 48 = .ok (.ireturn, 1) := by decide +kernel
theorem dX2_tellFold_49 : decode cX2_tellFold 49 = .ok (.aload_n 1, 1) := by decide +kernel
theorem dX2_tellFold_50 : decode cX2_tellFold 50 = .ok (.invokestatic 176, 3) := by decide +kernel
theorem dX2_tellFold_53 : decode cX2_tellFold 53 = .ok (.ireturn, 1) := by decide +kernel
theorem dX2_tellFold_54 : decode cX2_tellFold 54 = .ok (.aload_n 0, 1) := by decide +kernel
theorem dX2_tellFold_55 : decode cX2_tellFold 55 = .ok (.aload_n 1, 1) := by decide +kernel
theorem dX2_tellFold_56 : decode cX2_tellFold 56 = .ok (.invokevirtual 180, 3) := by decide +kernel
theorem dX2_tellFold_59 : decode cX2_tellFold 59 = .ok (.ireturn, 1) := by decide +kernel
theorem dX2_tellFold_60 : decode cX2_tellFold 60 = .ok (.aload_n 0, 1) := by decide +kernel
theorem dX2_tellFold_61 : decode cX2_tellFold 61 = .ok (.aload_n 1, 1) := by decide +kernel
theorem dX2_tellFold_62 : decode cX2_tellFold 62 = .ok (.invokevirtual 183, 3) := by decide +kernel
theorem dX2_tellFold_65 : decode cX2_tellFold 65 = .ok (.ireturn, 1) := by decide +kernel
theorem dX2_tellFold_66 : decode cX2_tellFold 66 = .ok (.aload_n 0, 1) := by decide +kernel
theorem dX2_tellFold_67 : decode cX2_tellFold 67 = .ok (.aload_n 1, 1) := by decide +kernel
theorem dX2_tellFold_68 : decode cX2_tellFold 68 = .ok (.invokevirtual 186, 3) := by decide +kernel
theorem dX2_tellFold_71 : decode cX2_tellFold 71 = .ok (.ireturn, 1) := by decide +kernel
theorem dX2_tellFold_72 : decode cX2_tellFold 72 = .ok (.aload_n 1, 1) := by decide +kernel
theorem dX2_tellFold_73 : decode cX2_tellFold 73 = .ok (.invokestatic 189, 3) := by decide +kernel
theorem dX2_tellFold_76 : decode cX2_tellFold 76 = .ok (.ireturn, 1) := by decide +kernel
theorem dX2_tellFold_77 : decode cX2_tellFold 77 = .ok (.aload_n 1, 1) := by decide +kernel
theorem dX2_tellFold_78 : decode cX2_tellFold 78 = .ok (.invokestatic 192, 3) := by decide +kernel
theorem dX2_tellFold_81 : decode cX2_tellFold 81 = .ok (.ireturn, 1) := by decide +kernel
theorem dX2_tellFold_82 : decode cX2_tellFold 82 = .ok (.aload_n 0, 1) := by decide +kernel
theorem dX2_tellFold_83 : decode cX2_tellFold 83 = .ok (.aload_n 1, 1) := by decide +kernel
theorem dX2_tellFold_84 : decode cX2_tellFold 84 = .ok (.invokevirtual 195, 3) := by decide +kernel
theorem dX2_tellFold_87 : decode cX2_tellFold 87 = .ok (.ireturn, 1) := by decide +kernel
set_option maxRecDepth 20000 in
theorem ggX2_tellCount_X2_countKept : GoodIn wsX2_tellCount wsX2_countKept := goodIn_r _ [6, 7, 21, 22, 23, 24, 25, 26, 37, 38, 39, 40, 41, 42, 43] (by decide +kernel) (by decide +kernel)
set_option maxRecDepth 20000 in
theorem gX2_tellCount_X2_countKept : GoodIn wsX2_tellCount (wsV RX2 75 RX2 yX2_countKept wsX2_countKept) := goodIn_app (goodIn_of _ (by decide +kernel)) ggX2_tellCount_X2_countKept
set_option maxRecDepth 20000 in
theorem ggX2_tellCount_X2_addForks : GoodIn wsX2_tellCount wsX2_addForks := goodIn_r _ [11, 7, 21, 22, 23, 24, 25, 26, 37, 38, 39, 40, 41, 42, 43] (by decide +kernel) (by decide +kernel)
set_option maxRecDepth 20000 in
theorem gX2_tellCount_X2_addForks : GoodIn wsX2_tellCount (wsV RX2 121 RX2 yX2_addForks wsX2_addForks) := goodIn_app (goodIn_of _ (by decide +kernel)) ggX2_tellCount_X2_addForks
set_option maxRecDepth 20000 in
theorem ggX2_tellCount_X2_countForksAtFirstPlace : GoodIn wsX2_tellCount wsX2_countForksAtFirstPlace := goodIn_r _ [15, 1, 16, 21, 22, 23, 24, 25, 26, 27, 28, 29, 30, 31, 32, 33, 34, 35, 36] (by decide +kernel) (by decide +kernel)
set_option maxRecDepth 20000 in
theorem gX2_tellCount_X2_countForksAtFirstPlace : GoodIn wsX2_tellCount (wsV RX2 198 RX2 yX2_countForksAtFirstPlace wsX2_countForksAtFirstPlace) := goodIn_app (goodIn_of _ (by decide +kernel)) ggX2_tellCount_X2_countForksAtFirstPlace
set_option maxRecDepth 20000 in
theorem ggX2_tellCount_X2_countLeaves : GoodIn wsX2_tellCount wsX2_countLeaves := goodIn_r _ [20, 7, 21, 22, 23, 24, 25, 26, 37, 38, 39, 40, 41, 42, 43] (by decide +kernel) (by decide +kernel)
set_option maxRecDepth 20000 in
theorem gX2_tellCount_X2_countLeaves : GoodIn wsX2_tellCount (wsV RX2 201 RX2 yX2_countLeaves wsX2_countLeaves) := goodIn_app (goodIn_of _ (by decide +kernel)) ggX2_tellCount_X2_countLeaves
theorem dX2_tellCount_0 : decode cX2_tellCount 0 = .ok (.iload_n 1, 1) := by decide +kernel
theorem dX2_tellCount_1 : decode cX2_tellCount 1 = .ok (.tableswitch 54 0 3 #[31, 36, 44, 49], 31) := by decide +kernel
theorem dX2_tellCount_32 : decode cX2_tellCount 32 = .ok (.aload_n 0, 1) := by decide +kernel
theorem dX2_tellCount_33 : decode cX2_tellCount 33 = .ok (.invokevirtual 75, 3) := by decide +kernel
theorem dX2_tellCount_36 : decode cX2_tellCount 36 = .ok (.ireturn, 1) := by decide +kernel
theorem dX2_tellCount_37 : decode cX2_tellCount 37 = .ok (.aload_n 0, 1) := by decide +kernel
theorem dX2_tellCount_38 : decode cX2_tellCount 38 = .ok (.getfield 22, 3) := by decide +kernel
theorem dX2_tellCount_41 : decode cX2_tellCount 41 = .ok (.getfield 82, 3) := by decide +kernel
theorem dX2_tellCount_44 : decode cX2_tellCount 44 = .ok (.ireturn, 1) := by decide +kernel
theorem dX2_tellCount_45 : decode cX2_tellCount 45 = .ok (.aload_n 0, 1) := by decide +kernel
theorem dX2_tellCount_46 : decode cX2_tellCount 46 = .ok (.invokevirtual 121, 3) := by decide +kernel
theorem dX2_tellCount_49 : decode cX2_tellCount 49 = .ok (.ireturn, 1) := by decide +kernel
theorem dX2_tellCount_50 : decode cX2_tellCount 50 = .ok (.aload_n 0, 1) := by decide +kernel
theorem dX2_tellCount_51 : decode cX2_tellCount 51 = .ok (.invokevirtual 198, 3) := by decide +kernel
theorem dX2_tellCount_54 : decode cX2_tellCount 54 = .ok (.ireturn, 1) := by decide +kernel
theorem dX2_tellCount_55 : decode cX2_tellCount 55 = .ok (.aload_n 0, 1) := by decide +kernel
theorem dX2_tellCount_56 : decode cX2_tellCount 56 = .ok (.invokevirtual 201, 3) := by decide +kernel
theorem dX2_tellCount_59 : decode cX2_tellCount 59 = .ok (.ireturn, 1) := by decide +kernel
theorem dX2_countYes_0 : decode cX2_countYes 0 = .ok (.iconst 0, 1) := by decide +kernel
theorem dX2_countYes_1 : decode cX2_countYes 1 = .ok (.istore_n 1, 1) := by decide +kernel
theorem dX2_countYes_2 : decode cX2_countYes 2 = .ok (.iconst 0, 1) := by decide +kernel
theorem dX2_countYes_3 : decode cX2_countYes 3 = .ok (.istore_n 2, 1) := by decide +kernel
theorem dX2_countYes_4 : decode cX2_countYes 4 = .ok (.iload_n 2, 1) := by decide +kernel
theorem dX2_countYes_5 : decode cX2_countYes 5 = .ok (.sipush 256, 3) := by decide +kernel
theorem dX2_countYes_8 : decode cX2_countYes 8 = .ok (.if_icmp .ge 26, 3) := by decide +kernel
theorem dX2_countYes_11 : decode cX2_countYes 11 = .ok (.iload_n 1, 1) := by decide +kernel
theorem dX2_countYes_12 : decode cX2_countYes 12 = .ok (.aload_n 0, 1) := by decide +kernel
theorem dX2_countYes_13 : decode cX2_countYes 13 = .ok (.getfield 41, 3) := by decide +kernel
theorem dX2_countYes_16 : decode cX2_countYes 16 = .ok (.iload_n 2, 1) := by decide +kernel
theorem dX2_countYes_17 : decode cX2_countYes 17 = .ok (.baload, 1) := by decide +kernel
theorem dX2_countYes_18 : decode cX2_countYes 18 = .ok (.ifCond .eq 7, 3) := by decide +kernel
theorem dX2_countYes_21 : decode cX2_countYes 21 = .ok (.iconst 1, 1) := by decide +kernel
theorem dX2_countYes_22 : decode cX2_countYes 22 = .ok (.goto 4, 3) := by decide +kernel
theorem dX2_countYes_25 : decode cX2_countYes 25 = .ok (.iconst 0, 1) := by decide +kernel
theorem dX2_countYes_26 : decode cX2_countYes 26 = .ok (.iadd, 1) := by decide +kernel
theorem dX2_countYes_27 : decode cX2_countYes 27 = .ok (.istore_n 1, 1) := by decide +kernel
theorem dX2_countYes_28 : decode cX2_countYes 28 = .ok (.iinc 2 1, 3) := by decide +kernel
theorem dX2_countYes_31 : decode cX2_countYes 31 = .ok (.goto (-27), 3) := by decide +kernel
theorem dX2_countYes_34 : decode cX2_countYes 34 = .ok (.iload_n 1, 1) := by decide +kernel
theorem dX2_countYes_35 : decode cX2_countYes 35 = .ok (.ireturn, 1) := by decide +kernel
theorem dX2_questionsThatMatter_0 : decode cX2_questionsThatMatter 0 = .ok (.iconst 0, 1) := by decide +kernel
theorem dX2_questionsThatMatter_1 : decode cX2_questionsThatMatter 1 = .ok (.istore_n 2, 1) := by decide +kernel
theorem dX2_questionsThatMatter_2 : decode cX2_questionsThatMatter 2 = .ok (.iconst 0, 1) := by decide +kernel
theorem dX2_questionsThatMatter_3 : decode cX2_questionsThatMatter 3 = .ok (.istore_n 3, 1) := by decide +kernel
theorem dX2_questionsThatMatter_4 : decode cX2_questionsThatMatter 4 = .ok (.iload_n 3, 1) := by decide +kernel
theorem dX2_questionsThatMatter_5 : decode cX2_questionsThatMatter 5 = .ok (.aload_n 1, 1) := by decide +kernel
theorem dX2_questionsThatMatter_6 : decode cX2_questionsThatMatter 6 = .ok (.getfield 93, 3) := by decide +kernel
theorem dX2_questionsThatMatter_9 : decode cX2_questionsThatMatter 9 = .ok (.if_icmp .ge 28, 3) := by decide +kernel
theorem dX2_questionsThatMatter_12 : decode cX2_questionsThatMatter 12 = .ok (.iload_n 2, 1) := by decide +kernel
theorem dX2_questionsThatMatter_13 : decode cX2_questionsThatMatter 13 = .ok (.iconst 1, 1) := by decide +kernel
theorem dX2_questionsThatMatter_14 : decode cX2_questionsThatMatter 14 = .ok (.aload_n 0, 1) := by decide +kernel
theorem dX2_questionsThatMatter_15 : decode cX2_questionsThatMatter 15 = .ok (.getfield 22, 3) := by decide +kernel
theorem dX2_questionsThatMatter_18 : decode cX2_questionsThatMatter 18 = .ok (.getfield 161, 3) := by decide +kernel
theorem dX2_questionsThatMatter_21 : decode cX2_questionsThatMatter 21 = .ok (.aload_n 1, 1) := by decide +kernel
theorem dX2_questionsThatMatter_22 : decode cX2_questionsThatMatter 22 = .ok (.getfield 158, 3) := by decide +kernel
theorem dX2_questionsThatMatter_25 : decode cX2_questionsThatMatter 25 = .ok (.iload_n 3, 1) := by decide +kernel
theorem dX2_questionsThatMatter_26 : decode cX2_questionsThatMatter 26 = .ok (.iaload, 1) := by decide +kernel
theorem dX2_questionsThatMatter_27 : decode cX2_questionsThatMatter 27 = .ok (.iaload, 1) := by decide +kernel
theorem dX2_questionsThatMatter_28 : decode cX2_questionsThatMatter 28 = .ok (.ishl, 1) := by decide +kernel
theorem dX2_questionsThatMatter_29 : decode cX2_questionsThatMatter 29 = .ok (.ior, 1) := by decide +kernel
theorem dX2_questionsThatMatter_30 : decode cX2_questionsThatMatter 30 = .ok (.istore_n 2, 1) := by decide +kernel
theorem dX2_questionsThatMatter_31 : decode cX2_questionsThatMatter 31 = .ok (.iinc 3 1, 3) := by decide +kernel
theorem dX2_questionsThatMatter_34 : decode cX2_questionsThatMatter 34 = .ok (.goto (-30), 3) := by decide +kernel
theorem dX2_questionsThatMatter_37 : decode cX2_questionsThatMatter 37 = .ok (.iload_n 2, 1) := by decide +kernel
theorem dX2_questionsThatMatter_38 : decode cX2_questionsThatMatter 38 = .ok (.ireturn, 1) := by decide +kernel
set_option maxRecDepth 20000 in
theorem ggX2_leastAsked_X2_countAsked : GoodIn wsX2_leastAsked wsX2_countAsked := goodIn_r _ [9, 10, 11, 12, 8, 13, 14, 15, 16, 17, 18, 19, 20, 21, 22, 23, 24, 25, 26, 27, 28, 29, 30, 31, 32, 33, 34, 35, 36] (by decide +kernel) (by decide +kernel)
set_option maxRecDepth 20000 in
theorem gX2_leastAsked_X2_countAsked : GoodIn wsX2_leastAsked (wsV RX2 102 RX2 yX2_countAsked wsX2_countAsked) := goodIn_app (goodIn_of _ (by decide +kernel)) ggX2_leastAsked_X2_countAsked
theorem dX2_leastAsked_0 : decode cX2_leastAsked 0 = .ok (.bipush 8, 2) := by decide +kernel
theorem dX2_leastAsked_2 : decode cX2_leastAsked 2 = .ok (.istore_n 2, 1) := by decide +kernel
theorem dX2_leastAsked_3 : decode cX2_leastAsked 3 = .ok (.iconst 0, 1) := by decide +kernel
theorem dX2_leastAsked_4 : decode cX2_leastAsked 4 = .ok (.istore_n 3, 1) := by decide +kernel
theorem dX2_leastAsked_5 : decode cX2_leastAsked 5 = .ok (.iload_n 3, 1) := by decide +kernel
theorem dX2_leastAsked_6 : decode cX2_leastAsked 6 = .ok (.sipush 256, 3) := by decide +kernel
theorem dX2_leastAsked_9 : decode cX2_leastAsked 9 = .ok (.if_icmp .ge 20, 3) := by decide +kernel
theorem dX2_leastAsked_12 : decode cX2_leastAsked 12 = .ok (.iload_n 2, 1) := by decide +kernel
theorem dX2_leastAsked_13 : decode cX2_leastAsked 13 = .ok (.aload_n 0, 1) := by decide +kernel
theorem dX2_leastAsked_14 : decode cX2_leastAsked 14 = .ok (.aload_n 1, 1) := by decide +kernel
theorem dX2_leastAsked_15 : decode cX2_leastAsked 15 = .ok (.iload_n 3, 1) := by decide +kernel
theorem dX2_leastAsked_16 : decode cX2_leastAsked 16 = .ok (.invokevirtual 102, 3) := by decide +kernel
theorem dX2_leastAsked_19 : decode cX2_leastAsked 19 = .ok (.invokestatic 204, 3) := by decide +kernel
theorem dX2_leastAsked_22 : decode cX2_leastAsked 22 = .ok (.istore_n 2, 1) := by decide +kernel
theorem dX2_leastAsked_23 : decode cX2_leastAsked 23 = .ok (.iinc 3 1, 3) := by decide +kernel
theorem dX2_leastAsked_26 : decode cX2_leastAsked 26 = .ok (.goto (-21), 3) := by decide +kernel
theorem dX2_leastAsked_29 : decode cX2_leastAsked 29 = .ok (.iload_n 2, 1) := by decide +kernel
theorem dX2_leastAsked_30 : decode cX2_leastAsked 30 = .ok (.ireturn, 1) := by decide +kernel
set_option maxRecDepth 20000 in
theorem ggX2_mostAsked_X2_countAsked : GoodIn wsX2_mostAsked wsX2_countAsked := goodIn_r _ [9, 10, 11, 12, 8, 13, 14, 15, 16, 17, 18, 19, 20, 21, 22, 23, 24, 25, 26, 27, 28, 29, 30, 31, 32, 33, 34, 35, 36] (by decide +kernel) (by decide +kernel)
set_option maxRecDepth 20000 in
theorem gX2_mostAsked_X2_countAsked : GoodIn wsX2_mostAsked (wsV RX2 102 RX2 yX2_countAsked wsX2_countAsked) := goodIn_app (goodIn_of _ (by decide +kernel)) ggX2_mostAsked_X2_countAsked
theorem dX2_mostAsked_0 : decode cX2_mostAsked 0 = .ok (.iconst 0, 1) := by decide +kernel
theorem dX2_mostAsked_1 : decode cX2_mostAsked 1 = .ok (.istore_n 2, 1) := by decide +kernel
theorem dX2_mostAsked_2 : decode cX2_mostAsked 2 = .ok (.iconst 0, 1) := by decide +kernel
theorem dX2_mostAsked_3 : decode cX2_mostAsked 3 = .ok (.istore_n 3, 1) := by decide +kernel
theorem dX2_mostAsked_4 : decode cX2_mostAsked 4 = .ok (.iload_n 3, 1) := by decide +kernel
theorem dX2_mostAsked_5 : decode cX2_mostAsked 5 = .ok (.sipush 256, 3) := by decide +kernel
theorem dX2_mostAsked_8 : decode cX2_mostAsked 8 = .ok (.if_icmp .ge 20, 3) := by decide +kernel
theorem dX2_mostAsked_11 : decode cX2_mostAsked 11 = .ok (.iload_n 2, 1) := by decide +kernel
theorem dX2_mostAsked_12 : decode cX2_mostAsked 12 = .ok (.aload_n 0, 1) := by decide +kernel
theorem dX2_mostAsked_13 : decode cX2_mostAsked 13 = .ok (.aload_n 1, 1) := by decide +kernel
theorem dX2_mostAsked_14 : decode cX2_mostAsked 14 = .ok (.iload_n 3, 1) := by decide +kernel
theorem dX2_mostAsked_15 : decode cX2_mostAsked 15 = .ok (.invokevirtual 102, 3) := by decide +kernel
theorem dX2_mostAsked_18 : decode cX2_mostAsked 18 = .ok (.invokestatic 210, 3) := by decide +kernel
theorem dX2_mostAsked_21 : decode cX2_mostAsked 21 = .ok (.istore_n 2, 1) := by decide +kernel
theorem dX2_mostAsked_22 : decode cX2_mostAsked 22 = .ok (.iinc 3 1, 3) := by decide +kernel
theorem dX2_mostAsked_25 : decode cX2_mostAsked 25 = .ok (.goto (-21), 3) := by decide +kernel
theorem dX2_mostAsked_28 : decode cX2_mostAsked 28 = .ok (.iload_n 2, 1) := by decide +kernel
theorem dX2_mostAsked_29 : decode cX2_mostAsked 29 = .ok (.ireturn, 1) := by decide +kernel
set_option maxRecDepth 20000 in
theorem ggX2_countAsked_X2_isYes : GoodIn wsX2_countAsked wsX2_isYes := goodIn_r _ [5] (by decide +kernel) (by decide +kernel)
set_option maxRecDepth 20000 in
theorem gX2_countAsked_X2_isYes : GoodIn wsX2_countAsked (va_wsS RX2 52 yX2_isYes wsX2_isYes) := goodIn_app (goodIn_of _ (by decide +kernel)) ggX2_countAsked_X2_isYes
theorem dX2_countAsked_0 : decode cX2_countAsked 0 = .ok (.iconst 0, 1) := by decide +kernel
theorem dX2_countAsked_1 : decode cX2_countAsked 1 = .ok (.istore_n 3, 1) := by decide +kernel
theorem dX2_countAsked_2 : decode cX2_countAsked 2 = .ok (.aload_n 1, 1) := by decide +kernel
theorem dX2_countAsked_3 : decode cX2_countAsked 3 = .ok (.getfield 93, 3) := by decide +kernel
theorem dX2_countAsked_6 : decode cX2_countAsked 6 = .ok (.ifCond .ne 7, 3) := by decide +kernel
theorem dX2_countAsked_9 : decode cX2_countAsked 9 = .ok (.iconst (-1), 1) := by decide +kernel
theorem dX2_countAsked_10 : decode cX2_countAsked 10 = .ok (.goto 4, 3) := by decide +kernel
theorem dX2_countAsked_13 : decode cX2_countAsked 13 = .ok (.iconst 0, 1) := by decide +kernel
theorem dX2_countAsked_14 : decode cX2_countAsked 14 = .ok (.istore 4, 2) := by decide +kernel
theorem dX2_countAsked_16 : decode cX2_countAsked 16 = .ok (.iload 4, 2) := by decide +kernel
theorem dX2_countAsked_18 : decode cX2_countAsked 18 = .ok (.ifCond .lt 69, 3) := by decide +kernel
theorem dX2_countAsked_21 : decode cX2_countAsked 21 = .ok (.iload 4, 2) := by decide +kernel
theorem dX2_countAsked_23 : decode cX2_countAsked 23 = .ok (.aload_n 1, 1) := by decide +kernel
theorem dX2_countAsked_24 : decode cX2_countAsked 24 = .ok (.getfield 93, 3) := by decide +kernel
theorem dX2_countAsked_27 : decode cX2_countAsked 27 = .ok (.if_icmp .ge 60, 3) := by decide +kernel
theorem dX2_countAsked_30 : decode cX2_countAsked 30 = .ok (.iload_n 3, 1) := by decide +kernel
theorem dX2_countAsked_31 : decode cX2_countAsked 31 = .ok (.bipush 8, 2) := by decide +kernel
theorem dX2_countAsked_33 : decode cX2_countAsked 33 = .ok (.if_icmp .ge 54, 3) := by decide +kernel
theorem dX2_countAsked_36 : decode cX2_countAsked 36 = .ok (.iload_n 2, 1) := by decide +kernel
theorem dX2_countAsked_37 : decode cX2_countAsked 37 = .ok (.aload_n 0, 1) := by decide +kernel
theorem dX2_countAsked_38 : decode cX2_countAsked 38 = .ok (.getfield 22, 3) := by decide +kernel
theorem dX2_countAsked_41 : decode cX2_countAsked 41 = .ok (.getfield 161, 3) := by decide +kernel
theorem dX2_countAsked_44 : decode cX2_countAsked 44 = .ok (.aload_n 1, 1) := by decide +kernel
theorem dX2_countAsked_45 : decode cX2_countAsked 45 = .ok (.getfield 158, 3) := by decide +kernel
theorem dX2_countAsked_48 : decode cX2_countAsked 48 = .ok (.iload 4, 2) := by decide +kernel
theorem dX2_countAsked_50 : decode cX2_countAsked 50 = .ok (.iaload, 1) := by decide +kernel
theorem dX2_countAsked_51 : decode cX2_countAsked 51 = .ok (.iaload, 1) := by decide +kernel
theorem dX2_countAsked_52 : decode cX2_countAsked 52 = .ok (.invokestatic 52, 3) := by decide +kernel
theorem dX2_countAsked_55 : decode cX2_countAsked 55 = .ok (.istore 5, 2) := by decide +kernel
theorem dX2_countAsked_57 : decode cX2_countAsked 57 = .ok (.iload 5, 2) := by decide +kernel
theorem dX2_countAsked_59 : decode cX2_countAsked 59 = .ok (.ifCond .eq 13, 3) := by decide +kernel
theorem dX2_countAsked_62 : decode cX2_countAsked 62 = .ok (.aload_n 1, 1) := by decide +kernel
theorem dX2_countAsked_63 : decode cX2_countAsked 63 = .ok (.getfield 167, 3) := by decide +kernel
theorem dX2_countAsked_66 : decode cX2_countAsked 66 = .ok (.iload 4, 2) := by decide +kernel
theorem dX2_countAsked_68 : decode cX2_countAsked 68 = .ok (.iaload, 1) := by decide +kernel
theorem dX2_countAsked_69 : decode cX2_countAsked 69 = .ok (.goto 10, 3) := by decide +kernel
theorem dX2_countAsked_72 : decode cX2_countAsked 72 = .ok (.aload_n 1, 1) := by decide +kernel
theorem dX2_countAsked_73 : decode cX2_countAsked 73 = .ok (.getfield 164, 3) := by decide +kernel
theorem dX2_countAsked_76 : decode cX2_countAsked 76 = .ok (.iload 4, 2) := by decide +kernel
theorem dX2_countAsked_78 : decode cX2_countAsked 78 = .ok (.iaload, 1) := by decide +kernel
theorem dX2_countAsked_79 : decode cX2_countAsked 79 = .ok (.istore 4, 2) := by decide +kernel
theorem dX2_countAsked_81 : decode cX2_countAsked 81 = .ok (.iinc 3 1, 3) := by decide +kernel
theorem dX2_countAsked_84 : decode cX2_countAsked 84 = .ok (.goto (-68), 3) := by decide +kernel
theorem dX2_countAsked_87 : decode cX2_countAsked 87 = .ok (.iload_n 3, 1) := by decide +kernel
theorem dX2_countAsked_88 : decode cX2_countAsked 88 = .ok (.ireturn, 1) := by decide +kernel
theorem dX2_smallestYes_0 : decode cX2_smallestYes 0 = .ok (.iconst 0, 1) := by decide +kernel
theorem dX2_smallestYes_1 : decode cX2_smallestYes 1 = .ok (.istore_n 1, 1) := by decide +kernel
theorem dX2_smallestYes_2 : decode cX2_smallestYes 2 = .ok (.iload_n 1, 1) := by decide +kernel
theorem dX2_smallestYes_3 : decode cX2_smallestYes 3 = .ok (.sipush 256, 3) := by decide +kernel
theorem dX2_smallestYes_6 : decode cX2_smallestYes 6 = .ok (.if_icmp .ge 20, 3) := by decide +kernel
theorem dX2_smallestYes_9 : decode cX2_smallestYes 9 = .ok (.aload_n 0, 1) := by decide +kernel
theorem dX2_smallestYes_10 : decode cX2_smallestYes 10 = .ok (.getfield 41, 3) := by decide +kernel
theorem dX2_smallestYes_13 : decode cX2_smallestYes 13 = .ok (.iload_n 1, 1) := by decide +kernel
theorem dX2_smallestYes_14 : decode cX2_smallestYes 14 = .ok (.baload, 1) := by decide +kernel
theorem dX2_smallestYes_15 : decode cX2_smallestYes 15 = .ok (.ifCond .eq 5, 3) := by decide +kernel
theorem dX2_smallestYes_18 : decode cX2_smallestYes 18 = .ok (.iload_n 1, 1) := by decide +kernel
theorem dX2_smallestYes_19 : decode cX2_smallestYes 19 = .ok (.ireturn, 1) := by decide +kernel
theorem dX2_smallestYes_20 : decode cX2_smallestYes 20 = .ok (.iinc 1 1, 3) := by decide +kernel
theorem dX2_smallestYes_23 : decode cX2_smallestYes 23 = .ok (.goto (-21), 3) := by decide +kernel
theorem dX2_smallestYes_26 : decode cX2_smallestYes 26 = .ok (.iconst (-1), 1) := by decide +kernel
theorem dX2_smallestYes_27 : decode cX2_smallestYes 27 = .ok (.ireturn, 1) := by decide +kernel
theorem dX2_greatestYes_0 : decode cX2_greatestYes 0 = .ok (.sipush 255, 3) := by decide +kernel
theorem dX2_greatestYes_3 : decode cX2_greatestYes 3 = .ok (.istore_n 1, 1) := by decide +kernel
theorem dX2_greatestYes_4 : decode cX2_greatestYes 4 = .ok (.iload_n 1, 1) := by decide +kernel
theorem dX2_greatestYes_5 : decode cX2_greatestYes 5 = .ok (.ifCond .lt 20, 3) := by decide +kernel
theorem dX2_greatestYes_8 : decode cX2_greatestYes 8 = .ok (.aload_n 0, 1) := by decide +kernel
theorem dX2_greatestYes_9 : decode cX2_greatestYes 9 = .ok (.getfield 41, 3) := by decide +kernel
theorem dX2_greatestYes_12 : decode cX2_greatestYes 12 = .ok (.iload_n 1, 1) := by decide +kernel
theorem dX2_greatestYes_13 : decode cX2_greatestYes 13 = .ok (.baload, 1) := by decide +kernel
theorem dX2_greatestYes_14 : decode cX2_greatestYes 14 = .ok (.ifCond .eq 5, 3) := by decide +kernel
theorem dX2_greatestYes_17 : decode cX2_greatestYes 17 = .ok (.iload_n 1, 1) := by decide +kernel
theorem dX2_greatestYes_18 : decode cX2_greatestYes 18 = .ok (.ireturn, 1) := by decide +kernel
theorem dX2_greatestYes_19 : decode cX2_greatestYes 19 = .ok (.iinc 1 (-1), 3) := by decide +kernel
theorem dX2_greatestYes_22 : decode cX2_greatestYes 22 = .ok (.goto (-18), 3) := by decide +kernel
theorem dX2_greatestYes_25 : decode cX2_greatestYes 25 = .ok (.iconst (-1), 1) := by decide +kernel
theorem dX2_greatestYes_26 : decode cX2_greatestYes 26 = .ok (.ireturn, 1) := by decide +kernel
theorem dX2_countOwnForks_0 : decode cX2_countOwnForks 0 = .ok (.iconst 0, 1) := by decide +kernel
theorem dX2_countOwnForks_1 : decode cX2_countOwnForks 1 = .ok (.istore_n 2, 1) := by decide +kernel
theorem dX2_countOwnForks_2 : decode cX2_countOwnForks 2 = .ok (.iconst 0, 1) := by decide +kernel
theorem dX2_countOwnForks_3 : decode cX2_countOwnForks 3 = .ok (.istore_n 3, 1) := by decide +kernel
theorem dX2_countOwnForks_4 : decode cX2_countOwnForks 4 = .ok (.iload_n 3, 1) := by decide +kernel
theorem dX2_countOwnForks_5 : decode cX2_countOwnForks 5 = .ok (.aload_n 1, 1) := by decide +kernel
theorem dX2_countOwnForks_6 : decode cX2_countOwnForks 6 = .ok (.getfield 93, 3) := by decide +kernel
theorem dX2_countOwnForks_9 : decode cX2_countOwnForks 9 = .ok (.if_icmp .ge 35, 3) := by decide +kernel
theorem dX2_countOwnForks_12 : decode cX2_countOwnForks 12 = .ok (.iload_n 2, 1) := by decide +kernel
theorem dX2_countOwnForks_13 : decode cX2_countOwnForks 13 = .ok (.aload_n 0, 1) := by decide +kernel
theorem dX2_countOwnForks_14 : decode cX2_countOwnForks 14 = .ok (.getfield 22, 3) := by decide +kernel
theorem dX2_countOwnForks_17 : decode cX2_countOwnForks 17 = .ok (.getfield 173, 3) := by decide +kernel
theorem dX2_countOwnForks_20 : decode cX2_countOwnForks 20 = .ok (.aload_n 1, 1) := by decide +kernel
theorem dX2_countOwnForks_21 : decode cX2_countOwnForks 21 = .ok (.getfield 158, 3) := by decide +kernel
theorem dX2_countOwnForks_24 : decode cX2_countOwnForks 24 = .ok (.iload_n 3, 1) := by decide +kernel
theorem dX2_countOwnForks_25 : decode cX2_countOwnForks 25 = .ok (.iaload, 1) := by decide +kernel
theorem dX2_countOwnForks_26 : decode cX2_countOwnForks 26 = .ok (.iaload, 1) := by decide +kernel
theorem dX2_countOwnForks_27 : decode cX2_countOwnForks 27 = .ok (.iconst 1, 1) := by decide +kernel
theorem dX2_countOwnForks_28 : decode cX2_countOwnForks 28 = .ok (.if_icmp .ne 7, 3) := by decide +kernel
theorem dX2_countOwnForks_31 : decode cX2_countOwnForks 31 = .ok (.iconst 1, 1) := by decide +kernel
theorem dX2_countOwnForks_32 : decode cX2_countOwnForks 32 = .ok (.goto 4, 3) := by decide +kernel
theorem dX2_countOwnForks_35 : decode cX2_countOwnForks 35 = .ok (.iconst 0, 1) := by decide +kernel
theorem dX2_countOwnForks_36 : decode cX2_countOwnForks 36 = .ok (.iadd, 1) := by decide +kernel
theorem dX2_countOwnForks_37 : decode cX2_countOwnForks 37 = .ok (.istore_n 2, 1) := by decide +kernel
theorem dX2_countOwnForks_38 : decode cX2_countOwnForks 38 = .ok (.iinc 3 1, 3) := by decide +kernel
theorem dX2_countOwnForks_41 : decode cX2_countOwnForks 41 = .ok (.goto (-37), 3) := by decide +kernel
theorem dX2_countOwnForks_44 : decode cX2_countOwnForks 44 = .ok (.iload_n 2, 1) := by decide +kernel
theorem dX2_countOwnForks_45 : decode cX2_countOwnForks 45 = .ok (.ireturn, 1) := by decide +kernel
theorem dX2_countKept_0 : decode cX2_countKept 0 = .ok (.iconst 0, 1) := by decide +kernel
theorem dX2_countKept_1 : decode cX2_countKept 1 = .ok (.istore_n 1, 1) := by decide +kernel
theorem dX2_countKept_2 : decode cX2_countKept 2 = .ok (.iconst 0, 1) := by decide +kernel
theorem dX2_countKept_3 : decode cX2_countKept 3 = .ok (.istore_n 2, 1) := by decide +kernel
theorem dX2_countKept_4 : decode cX2_countKept 4 = .ok (.iload_n 2, 1) := by decide +kernel
theorem dX2_countKept_5 : decode cX2_countKept 5 = .ok (.bipush 12, 2) := by decide +kernel
theorem dX2_countKept_7 : decode cX2_countKept 7 = .ok (.if_icmp .ge 29, 3) := by decide +kernel
theorem dX2_countKept_10 : decode cX2_countKept 10 = .ok (.iload_n 1, 1) := by decide +kernel
theorem dX2_countKept_11 : decode cX2_countKept 11 = .ok (.aload_n 0, 1) := by decide +kernel
theorem dX2_countKept_12 : decode cX2_countKept 12 = .ok (.getfield 11, 3) := by decide +kernel
theorem dX2_countKept_15 : decode cX2_countKept 15 = .ok (.iload_n 2, 1) := by decide +kernel
theorem dX2_countKept_16 : decode cX2_countKept 16 = .ok (.aaload, 1) := by decide +kernel
theorem dX2_countKept_17 : decode cX2_countKept 17 = .ok (.getfield 68, 3) := by decide +kernel
theorem dX2_countKept_20 : decode cX2_countKept 20 = .ok (.ifCond .eq 7, 3) := by decide +kernel
theorem dX2_countKept_23 : decode cX2_countKept 23 = .ok (.iconst 1, 1) := by decide +kernel
theorem dX2_countKept_24 : decode cX2_countKept 24 = .ok (.goto 4, 3) := by decide +kernel
theorem dX2_countKept_27 : decode cX2_countKept 27 = .ok (.iconst 0, 1) := by decide +kernel
theorem dX2_countKept_28 : decode cX2_countKept 28 = .ok (.iadd, 1) := by decide +kernel
theorem dX2_countKept_29 : decode cX2_countKept 29 = .ok (.istore_n 1, 1) := by decide +kernel
theorem dX2_countKept_30 : decode cX2_countKept 30 = .ok (.iinc 2 1, 3) := by decide +kernel
theorem dX2_countKept_33 : decode cX2_countKept 33 = .ok (.goto (-29), 3) := by decide +kernel
theorem dX2_countKept_36 : decode cX2_countKept 36 = .ok (.iload_n 1, 1) := by decide +kernel
theorem dX2_countKept_37 : decode cX2_countKept 37 = .ok (.ireturn, 1) := by decide +kernel
theorem dX2_addForks_0 : decode cX2_addForks 0 = .ok (.iconst 0, 1) := by decide +kernel
theorem dX2_addForks_1 : decode cX2_addForks 1 = .ok (.istore_n 1, 1) := by decide +kernel
theorem dX2_addForks_2 : decode cX2_addForks 2 = .ok (.iconst 0, 1) := by decide +kernel
theorem dX2_addForks_3 : decode cX2_addForks 3 = .ok (.istore_n 2, 1) := by decide +kernel
theorem dX2_addForks_4 : decode cX2_addForks 4 = .ok (.iload_n 2, 1) := by decide +kernel
theorem dX2_addForks_5 : decode cX2_addForks 5 = .ok (.bipush 12, 2) := by decide +kernel
theorem dX2_addForks_7 : decode cX2_addForks 7 = .ok (.if_icmp .ge 37, 3) := by decide +kernel
theorem dX2_addForks_10 : decode cX2_addForks 10 = .ok (.iload_n 1, 1) := by decide +kernel
theorem dX2_addForks_11 : decode cX2_addForks 11 = .ok (.aload_n 0, 1) := by decide +kernel
theorem dX2_addForks_12 : decode cX2_addForks 12 = .ok (.getfield 11, 3) := by decide +kernel
theorem dX2_addForks_15 : decode cX2_addForks 15 = .ok (.iload_n 2, 1) := by decide +kernel
theorem dX2_addForks_16 : decode cX2_addForks 16 = .ok (.aaload, 1) := by decide +kernel
theorem dX2_addForks_17 : decode cX2_addForks 17 = .ok (.getfield 68, 3) := by decide +kernel
theorem dX2_addForks_20 : decode cX2_addForks 20 = .ok (.ifCond .eq 15, 3) := by decide +kernel
theorem dX2_addForks_23 : decode cX2_addForks 23 = .ok (.aload_n 0, 1) := by decide +kernel
theorem dX2_addForks_24 : decode cX2_addForks 24 = .ok (.getfield 11, 3) := by decide +kernel
theorem dX2_addForks_27 : decode cX2_addForks 27 = .ok (.iload_n 2, 1) := by decide +kernel
theorem dX2_addForks_28 : decode cX2_addForks 28 = .ok (.aaload, 1) := by decide +kernel
theorem dX2_addForks_29 : decode cX2_addForks 29 = .ok (.getfield 93, 3) := by decide +kernel
theorem dX2_addForks_32 : decode cX2_addForks 32 = .ok (.goto 4, 3) := by decide +kernel
theorem dX2_addForks_35 : decode cX2_addForks 35 = .ok (.iconst 0, 1) := by decide +kernel
theorem dX2_addForks_36 : decode cX2_addForks 36 = .ok (.iadd, 1) := by decide +kernel
theorem dX2_addForks_37 : decode cX2_addForks 37 = .ok (.istore_n 1, 1) := by decide +kernel
theorem dX2_addForks_38 : decode cX2_addForks 38 = .ok (.iinc 2 1, 3) := by decide +kernel
theorem dX2_addForks_41 : decode cX2_addForks 41 = .ok (.goto (-37), 3) := by decide +kernel
theorem dX2_addForks_44 : decode cX2_addForks 44 = .ok (.iload_n 1, 1) := by decide +kernel
theorem dX2_addForks_45 : decode cX2_addForks 45 = .ok (.ireturn, 1) := by decide +kernel
theorem dX2_countForksAtFirstPlace_0 : decode cX2_countForksAtFirstPlace 0 = .ok (.iconst 0, 1) := by decide +kernel
theorem dX2_countForksAtFirstPlace_1 : decode cX2_countForksAtFirstPlace 1 = .ok (.istore_n 1, 1) := by decide +kernel
theorem dX2_countForksAtFirstPlace_2 : decode cX2_countForksAtFirstPlace 2 = .ok (.iconst 0, 1) := by decide +kernel
theorem dX2_countForksAtFirstPlace_3 : decode cX2_countForksAtFirstPlace 3 = .ok (.istore_n 2, 1) := by decide +kernel
theorem dX2_countForksAtFirstPlace_4 : decode cX2_countForksAtFirstPlace 4 = .ok (.iload_n 2, 1) := by decide +kernel
theorem dX2_countForksAtFirstPlace_5 : decode cX2_countForksAtFirstPlace 5 = .ok (.aload_n 0, 1) := by decide +kernel
theorem dX2_countForksAtFirstPlace_6 : decode cX2_countForksAtFirstPlace 6 = .ok (.getfield 22, 3) := by decide +kernel
theorem dX2_countForksAtFirstPlace_9 : decode cX2_countForksAtFirstPlace 9 = .ok (.getfield 82, 3) := by decide +kernel
theorem dX2_countForksAtFirstPlace_12 : decode cX2_countForksAtFirstPlace 12 = .ok (.if_icmp .ge 35, 3) := by decide +kernel
theorem dX2_countForksAtFirstPlace_15 : decode cX2_countForksAtFirstPlace 15 = .ok (.iload_n 1, 1) := by decide +kernel
theorem dX2_countForksAtFirstPlace_16 : decode cX2_countForksAtFirstPlace 16 = .ok (.aload_n 0, 1) := by decide +kernel
theorem dX2_countForksAtFirstPlace_17 : decode cX2_countForksAtFirstPlace 17 = .ok (.getfield 22, 3) := by decide +kernel
theorem dX2_countForksAtFirstPlace_20 : decode cX2_countForksAtFirstPlace 20 = .ok (.getfield 161, 3) := by decide +kernel
theorem dX2_countForksAtFirstPlace_23 : decode cX2_countForksAtFirstPlace 23 = .ok (.iload_n 2, 1) := by decide +kernel
theorem dX2_countForksAtFirstPlace_24 : decode cX2_countForksAtFirstPlace 24 = .ok (.iaload, 1) := by decide +kernel
theorem dX2_countForksAtFirstPlace_25 : decode cX2_countForksAtFirstPlace 25 = .ok (.aload_n 0, 1) := by decide +kernel
theorem dX2_countForksAtFirstPlace_26 : decode cX2_countForksAtFirstPlace 26 = .ok (.getfield 15, 3) := by decide +kernel
theorem dX2_countForksAtFirstPlace_29 : decode cX2_countForksAtFirstPlace 29 = .ok (.iconst 0, 1) := by decide +kernel
theorem dX2_countForksAtFirstPlace_30 : decode cX2_countForksAtFirstPlace 30 = .ok (.iaload, 1) := by decide +kernel
theorem dX2_countForksAtFirstPlace_31 : decode cX2_countForksAtFirstPlace 31 = .ok (.if_icmp .ne 7, 3) := by decide +kernel
theorem dX2_countForksAtFirstPlace_34 : decode cX2_countForksAtFirstPlace 34 = .ok (.iconst 1, 1) := by decide +kernel
theorem dX2_countForksAtFirstPlace_35 : decode cX2_countForksAtFirstPlace 35 = .ok (.goto 4, 3) := by decide +kernel
theorem dX2_countForksAtFirstPlace_38 : decode cX2_countForksAtFirstPlace 38 = .ok (.iconst 0, 1) := by decide +kernel
theorem dX2_countForksAtFirstPlace_39 : decode cX2_countForksAtFirstPlace 39 = .ok (.iadd, 1) := by decide +kernel
theorem dX2_countForksAtFirstPlace_40 : decode cX2_countForksAtFirstPlace 40 = .ok (.istore_n 1, 1) := by decide +kernel
theorem dX2_countForksAtFirstPlace_41 : decode cX2_countForksAtFirstPlace 41 = .ok (.iinc 2 1, 3) := by decide +kernel
theorem dX2_countForksAtFirstPlace_44 : decode cX2_countForksAtFirstPlace 44 = .ok (.goto (-40), 3) := by decide +kernel
theorem dX2_countForksAtFirstPlace_47 : decode cX2_countForksAtFirstPlace 47 = .ok (.iload_n 1, 1) := by decide +kernel
theorem dX2_countForksAtFirstPlace_48 : decode cX2_countForksAtFirstPlace 48 = .ok (.ireturn, 1) := by decide +kernel
theorem dX2_countLeaves_0 : decode cX2_countLeaves 0 = .ok (.iconst 0, 1) := by decide +kernel
theorem dX2_countLeaves_1 : decode cX2_countLeaves 1 = .ok (.istore_n 1, 1) := by decide +kernel
theorem dX2_countLeaves_2 : decode cX2_countLeaves 2 = .ok (.iconst 0, 1) := by decide +kernel
theorem dX2_countLeaves_3 : decode cX2_countLeaves 3 = .ok (.istore_n 2, 1) := by decide +kernel
theorem dX2_countLeaves_4 : decode cX2_countLeaves 4 = .ok (.iload_n 2, 1) := by decide +kernel
theorem dX2_countLeaves_5 : decode cX2_countLeaves 5 = .ok (.bipush 12, 2) := by decide +kernel
theorem dX2_countLeaves_7 : decode cX2_countLeaves 7 = .ok (.if_icmp .ge 41, 3) := by decide +kernel
theorem dX2_countLeaves_10 : decode cX2_countLeaves 10 = .ok (.iload_n 1, 1) := by decide +kernel
theorem dX2_countLeaves_11 : decode cX2_countLeaves 11 = .ok (.aload_n 0, 1) := by decide +kernel
theorem dX2_countLeaves_12 : decode cX2_countLeaves 12 = .ok (.getfield 11, 3) := by decide +kernel
theorem dX2_countLeaves_15 : decode cX2_countLeaves 15 = .ok (.iload_n 2, 1) := by decide +kernel
theorem dX2_countLeaves_16 : decode cX2_countLeaves 16 = .ok (.aaload, 1) := by decide +kernel
theorem dX2_countLeaves_17 : decode cX2_countLeaves 17 = .ok (.getfield 68, 3) := by decide +kernel
theorem dX2_countLeaves_20 : decode cX2_countLeaves 20 = .ok (.ifCond .eq 19, 3) := by decide +kernel
theorem dX2_countLeaves_23 : decode cX2_countLeaves 23 = .ok (.aload_n 0, 1) := by decide +kernel
theorem dX2_countLeaves_24 : decode cX2_countLeaves 24 = .ok (.getfield 11, 3) := by decide +kernel
theorem dX2_countLeaves_27 : decode cX2_countLeaves 27 = .ok (.iload_n 2, 1) := by decide +kernel
theorem dX2_countLeaves_28 : decode cX2_countLeaves 28 = .ok (.aaload, 1) := by decide +kernel
theorem dX2_countLeaves_29 : decode cX2_countLeaves 29 = .ok (.getfield 93, 3) := by decide +kernel
theorem dX2_countLeaves_32 : decode cX2_countLeaves 32 = .ok (.ifCond .ne 7, 3) := by decide +kernel
theorem dX2_countLeaves_35 : decode cX2_countLeaves 35 = .ok (.iconst 1, 1) := by decide +kernel
theorem dX2_countLeaves_36 : decode cX2_countLeaves 36 = .ok (.goto 4, 3) := by decide +kernel
theorem dX2_countLeaves_39 : decode cX2_countLeaves 39 = .ok (.iconst 0, 1) := by decide +kernel
theorem dX2_countLeaves_40 : decode cX2_countLeaves 40 = .ok (.iadd, 1) := by decide +kernel
theorem dX2_countLeaves_41 : decode cX2_countLeaves 41 = .ok (.istore_n 1, 1) := by decide +kernel
theorem dX2_countLeaves_42 : decode cX2_countLeaves 42 = .ok (.iinc 2 1, 3) := by decide +kernel
theorem dX2_countLeaves_45 : decode cX2_countLeaves 45 = .ok (.goto (-41), 3) := by decide +kernel
theorem dX2_countLeaves_48 : decode cX2_countLeaves 48 = .ok (.iload_n 1, 1) := by decide +kernel
theorem dX2_countLeaves_49 : decode cX2_countLeaves 49 = .ok (.ireturn, 1) := by decide +kernel
