theorem dX3_init_0 : decode cX3_init 0 = .ok (.aload_n 0, 1) := by decide +kernel
theorem dX3_init_1 : decode cX3_init 1 = .ok (.invokespecial 1, 3) := by decide +kernel
theorem dX3_init_4 : decode cX3_init 4 = .ok (.aload_n 0, 1) := by decide +kernel
theorem dX3_init_5 : decode cX3_init 5 = .ok (.bipush 80, 2) := by decide +kernel
theorem dX3_init_7 : decode cX3_init 7 = .ok (.anewarray 7, 3) := by decide +kernel
theorem dX3_init_10 : decode cX3_init 10 = .ok (.putfield 9, 3) := by decide +kernel
theorem dX3_init_13 : decode cX3_init 13 = .ok (.aload_n 0, 1) := by decide +kernel
theorem dX3_init_14 : decode cX3_init 14 = .ok (.bipush 80, 2) := by decide +kernel
theorem dX3_init_16 : decode cX3_init 16 = .ok (.anewarray 15, 3) := by decide +kernel
theorem dX3_init_19 : decode cX3_init 19 = .ok (.putfield 17, 3) := by decide +kernel
theorem dX3_init_22 : decode cX3_init 22 = .ok (.return_, 1) := by decide +kernel
set_option maxRecDepth 20000 in
theorem ggX3_stand_L_leafOf : GoodIn wsX3_stand wsL_leafOf := goodIn_r _ [7, 8] (by decide +kernel) (by decide +kernel)
set_option maxRecDepth 20000 in
theorem gX3_stand_L_leafOf_n21 : GoodIn wsX3_stand (wsL_leafOf) := ggX3_stand_L_leafOf
set_option maxRecDepth 20000 in
theorem ggX3_stand_L_alike : GoodIn wsX3_stand wsL_alike := goodIn_r _ [10] (by decide +kernel) (by decide +kernel)
set_option maxRecDepth 20000 in
theorem gX3_stand_L_alike_n31 : GoodIn wsX3_stand (wsL_alike) := ggX3_stand_L_alike
set_option maxRecDepth 20000 in
theorem ggX3_stand_L_given : GoodIn wsX3_stand wsL_given := goodIn_r _ [12, 13, 14, 15, 6, 16, 17, 18, 19] (by decide +kernel) (by decide +kernel)
set_option maxRecDepth 20000 in
theorem gX3_stand_L_given_n35 : GoodIn wsX3_stand (wsL_given) := ggX3_stand_L_given
set_option maxRecDepth 20000 in
theorem ggX3_stand_X3_stand : GoodIn wsX3_stand wsX3_stand := goodIn_r _ [0, 1, 2, 3, 4, 5, 6, 7, 8, 9, 10, 11, 12, 13, 14, 15, 16, 17, 18, 19, 20, 21, 22, 23, 24, 25, 26] (by decide +kernel) (by decide +kernel)
set_option maxRecDepth 20000 in
theorem gX3_stand_X3_stand : GoodIn wsX3_stand (wsV RX3 39 RX3 yX3_stand wsX3_stand) := goodIn_app (goodIn_of _ (by decide +kernel)) ggX3_stand_X3_stand
theorem dX3_stand_0 : decode cX3_stand 0 = .ok (.aload_n 1, 1) := by decide +kernel
theorem dX3_stand_1 : decode cX3_stand 1 = .ok (.invokestatic 21, 3) := by decide +kernel
theorem dX3_stand_4 : decode cX3_stand 4 = .ok (.istore 4, 2) := by decide +kernel
theorem dX3_stand_6 : decode cX3_stand 6 = .ok (.iload 4, 2) := by decide +kernel
theorem dX3_stand_8 : decode cX3_stand 8 = .ok (.ifCond .ge 6, 3) := by decide +kernel
theorem dX3_stand_11 : decode cX3_stand 11 = .ok (.iload 4, 2) := by decide +kernel
theorem dX3_stand_13 : decode cX3_stand 13 = .ok (.ireturn, 1) := by decide +kernel
theorem dX3_stand_14 : decode cX3_stand 14 = .ok (.iconst 0, 1) := by decide +kernel
theorem dX3_stand_15 : decode cX3_stand 15 = .ok (.istore 5, 2) := by decide +kernel
theorem dX3_stand_17 : decode cX3_stand 17 = .ok (.iload 5, 2) := by decide +kernel
theorem dX3_stand_19 : decode cX3_stand 19 = .ok (.aload_n 0, 1) := by decide +kernel
theorem dX3_stand_20 : decode cX3_stand 20 = .ok (.getfield 27, 3) := by decide +kernel
theorem dX3_stand_23 : decode cX3_stand 23 = .ok (.if_icmp .ge 26, 3) := by decide +kernel
theorem dX3_stand_26 : decode cX3_stand 26 = .ok (.aload_n 0, 1) := by decide +kernel
theorem dX3_stand_27 : decode cX3_stand 27 = .ok (.getfield 9, 3) := by decide +kernel
theorem dX3_stand_30 : decode cX3_stand 30 = .ok (.iload 5, 2) := by decide +kernel
theorem dX3_stand_32 : decode cX3_stand 32 = .ok (.aaload, 1) := by decide +kernel
theorem dX3_stand_33 : decode cX3_stand 33 = .ok (.aload_n 1, 1) := by decide +kernel
theorem dX3_stand_34 : decode cX3_stand 34 = .ok (.invokestatic 31, 3) := by decide +kernel
theorem dX3_stand_37 : decode cX3_stand 37 = .ok (.ifCond .eq 6, 3) := by decide +kernel
theorem dX3_stand_40 : decode cX3_stand 40 = .ok (.iload 5, 2) := by decide +kernel
theorem dX3_stand_42 : decode cX3_stand 42 = .ok (.ireturn, 1) := by decide +kernel
theorem dX3_stand_43 : decode cX3_stand 43 = .ok (.iinc 5 1, 3) := by decide +kernel
theorem dX3_stand_46 : decode cX3_stand 46 = .ok (.goto (-29), 3) := by decide +kernel
theorem dX3_stand_49 : decode cX3_stand 49 = .ok (.aload_n 0, 1) := by decide +kernel
theorem dX3_stand_50 : decode cX3_stand 50 = .ok (.getfield 27, 3) := by decide +kernel
theorem dX3_stand_53 : decode cX3_stand 53 = .ok (.istore 5, 2) := by decide +kernel
theorem dX3_stand_55 : decode cX3_stand 55 = .ok (.aload_n 0, 1) := by decide +kernel
theorem dX3_stand_56 : decode cX3_stand 56 = .ok (.getfield 9, 3) := by decide +kernel
theorem dX3_stand_59 : decode cX3_stand 59 = .ok (.iload 5, 2) := by decide +kernel
theorem dX3_stand_61 : decode cX3_stand 61 = .ok (.aload_n 1, 1) := by decide +kernel
theorem dX3_stand_62 : decode cX3_stand 62 = .ok (.aastore, 1) := by decide +kernel
theorem dX3_stand_63 : decode cX3_stand 63 = .ok (.aload_n 0, 1) := by decide +kernel
theorem dX3_stand_64 : decode cX3_stand 64 = .ok (.dup, 1) := by decide +kernel
theorem dX3_stand_65 : decode cX3_stand 65 = .ok (.getfield 27, 3) := by decide +kernel
theorem dX3_stand_68 : decode cX3_stand 68 = .ok (.iconst 1, 1) := by decide +kernel
theorem dX3_stand_69 : decode cX3_stand 69 = .ok (.iadd, 1) := by decide +kernel
theorem dX3_stand_70 : decode cX3_stand 70 = .ok (.putfield 27, 3) := by decide +kernel
theorem dX3_stand_73 : decode cX3_stand 73 = .ok (.iload_n 3, 1) := by decide +kernel
theorem dX3_stand_74 : decode cX3_stand 74 = .ok (.istore 6, 2) := by decide +kernel
theorem dX3_stand_76 : decode cX3_stand 76 = .ok (.iload 6, 2) := by decide +kernel
theorem dX3_stand_78 : decode cX3_stand 78 = .ok (.bipush 8, 2) := by decide +kernel
theorem dX3_stand_80 : decode cX3_stand 80 = .ok (.if_icmp .ge 117, 3) := by decide +kernel
theorem dX3_stand_83 : decode cX3_stand 83 = .ok (.aload_n 1, 1) := by decide +kernel
theorem dX3_stand_84 : decode cX3_stand 84 = .ok (.aload_n 2, 1) := by decide +kernel
theorem dX3_stand_85 : decode cX3_stand 85 = .ok (.iload 6, 2) := by decide +kernel
theorem dX3_stand_87 : decode cX3_stand 87 = .ok (.iaload, 1) := by decide +kernel
theorem dX3_stand_88 : decode cX3_stand 88 = .ok (.iconst 0, 1) := by decide +kernel
theorem dX3_stand_89 : decode cX3_stand 89 = .ok (.invokestatic 35, 3) := by decide +kernel
theorem dX3_stand_92 : decode cX3_stand 92 = .ok (.astore 7, 2) := by decide +kernel
theorem dX3_stand_94 : decode cX3_stand 94 = .ok (.aload_n 1, 1) := by decide +kernel
theorem dX3_stand_95 : decode cX3_stand 95 = .ok (.aload_n 2, 1) := by decide +kernel
theorem dX3_stand_96 : decode cX3_stand 96 = .ok (.iload 6, 2) := by decide +kernel
theorem dX3_stand_98 : decode cX3_stand 98 = .ok (.iaload, 1) := by decide +kernel
theorem dX3_stand_99 : decode cX3_stand 99 = .ok (.iconst 1, 1) := by decide +kernel
theorem dX3_stand_100 : decode cX3_stand 100 = .ok (.invokestatic 35, 3) := by decide +kernel
theorem dX3_stand_103 : decode cX3_stand 103 = .ok (.astore 8, 2) := by decide +kernel
theorem dX3_stand_105 : decode cX3_stand 105 = .ok (.aload 7, 2) := by decide +kernel
theorem dX3_stand_107 : decode cX3_stand 107 = .ok (.aload 8, 2) := by decide +kernel
theorem dX3_stand_109 : decode cX3_stand 109 = .ok (.invokestatic 31, 3) := by decide +kernel
theorem dX3_stand_112 : decode cX3_stand 112 = .ok (.ifCond .eq 6, 3) := by decide +kernel
theorem dX3_stand_115 : decode cX3_stand 115 = .ok (.goto 76, 3) := by decide +kernel
theorem dX3_stand_118 : decode cX3_stand 118 = .ok (.aload_n 0, 1) := by decide +kernel
theorem dX3_stand_119 : decode cX3_stand 119 = .ok (.getfield 17, 3) := by decide +kernel
theorem dX3_stand_122 : decode cX3_stand 122 = .ok (.iload 5, 2) := by decide +kernel
theorem dX3_stand_124 : decode cX3_stand 124 = .ok (.iconst 4, 1) := by decide +kernel
theorem dX3_stand_125 : decode cX3_stand 125 = .ok (.newarray .int, 2) := by decide +kernel
theorem dX3_stand_127 : decode cX3_stand 127 = .ok (.dup, 1) := by decide +kernel
theorem dX3_stand_128 : decode cX3_stand 128 = .ok (.iconst 0, 1) := by decide +kernel
theorem dX3_stand_129 : decode cX3_stand 129 = .ok (.aload_n 2, 1) := by decide +kernel
theorem dX3_stand_130 : decode cX3_stand 130 = .ok (.iload 6, 2) := by decide +kernel
theorem dX3_stand_132 : decode cX3_stand 132 = .ok (.iaload, 1) := by decide +kernel
theorem dX3_stand_133 : decode cX3_stand 133 = .ok (.iastore, 1) := by decide +kernel
theorem dX3_stand_134 : decode cX3_stand 134 = .ok (.dup, 1) := by decide +kernel
theorem dX3_stand_135 : decode cX3_stand 135 = .ok (.iconst 1, 1) := by decide +kernel
theorem dX3_stand_136 : decode cX3_stand 136 = .ok (.iconst 0, 1) := by decide +kernel
theorem dX3_stand_137 : decode cX3_stand 137 = .ok (.iastore, 1) := by decide +kernel
theorem dX3_stand_138 : decode cX3_stand 138 = .ok (.dup, 1) := by decide +kernel
theorem dX3_stand_139 : decode cX3_stand 139 = .ok (.iconst 2, 1) := by decide +kernel
theorem dX3_stand_140 : decode cX3_stand 140 = .ok (.iconst 0, 1) := by decide +kernel
theorem dX3_stand_141 : decode cX3_stand 141 = .ok (.iastore, 1) := by decide +kernel
theorem dX3_stand_142 : decode cX3_stand 142 = .ok (.dup, 1) := by decide +kernel
theorem dX3_stand_143 : decode cX3_stand 143 = .ok (.iconst 3, 1) := by decide +kernel
theorem dX3_stand_144 : decode cX3_stand 144 = .ok (.bipush 99, 2) := by decide +kernel
theorem dX3_stand_146 : decode cX3_stand 146 = .ok (.iastore, 1) := by decide +kernel
theorem dX3_stand_147 : decode cX3_stand 147 = .ok (.aastore, 1) := by decide +kernel
theorem dX3_stand_148 : decode cX3_stand 148 = .ok (.aload_n 0, 1) := by decide +kernel
theorem dX3_stand_149 : decode cX3_stand 149 = .ok (.getfield 17, 3) := by decide +kernel
theorem dX3_stand_152 : decode cX3_stand 152 = .ok (.iload 5, 2) := by decide +kernel
theorem dX3_stand_154 : decode cX3_stand 154 = .ok (.aaload, 1) := by decide +kernel
theorem dX3_stand_155 : decode cX3_stand 155 = .ok (.iconst 1, 1) := by decide +kernel
theorem dX3_stand_156 : decode cX3_stand 156 = .ok (.aload_n 0, 1) := by decide +kernel
theorem dX3_stand_157 : decode cX3_stand 157 = .ok (.aload 7, 2) := by decide +kernel
theorem dX3_stand_159 : decode cX3_stand 159 = .ok (.aload_n 2, 1) := by decide +kernel
theorem dX3_stand_160 : decode cX3_stand 160 = .ok (.iload 6, 2) := by decide +kernel
theorem dX3_stand_162 : decode cX3_stand 162 = .ok (.iconst 1, 1) := by decide +kernel
theorem dX3_stand_163 : decode cX3_stand 163 = .ok (.iadd, 1) := by decide +kernel
theorem dX3_stand_164 : decode cX3_stand 164 = .ok (.invokevirtual 39, 3) := by decide +kernel
theorem dX3_stand_167 : decode cX3_stand 167 = .ok (.iastore, 1) := by decide +kernel
theorem dX3_stand_168 : decode cX3_stand 168 = .ok (.aload_n 0, 1) := by decide +kernel
theorem dX3_stand_169 : decode cX3_stand 169 = .ok (.getfield 17, 3) := by decide +kernel
theorem dX3_stand_172 : decode cX3_stand 172 = .ok (.iload 5, 2) := by decide +kernel
theorem dX3_stand_174 : decode cX3_stand 174 = .ok (.aaload, 1) := by decide +kernel
theorem dX3_stand_175 : decode cX3_stand 175 = .ok (.iconst 2, 1) := by decide +kernel
theorem dX3_stand_176 : decode cX3_stand 176 = .ok (.aload_n 0, 1) := by decide +kernel
theorem dX3_stand_177 : decode cX3_stand 177 = .ok (.aload 8, 2) := by decide +kernel
theorem dX3_stand_179 : decode cX3_stand 179 = .ok (.aload_n 2, 1) := by decide +kernel
theorem dX3_stand_180 : decode cX3_stand 180 = .ok (.iload 6, 2) := by decide +kernel
theorem dX3_stand_182 : decode cX3_stand 182 = .ok (.iconst 1, 1) := by decide +kernel
theorem dX3_stand_183 : decode cX3_stand 183 = .ok (.iadd, 1) := by decide +kernel
theorem dX3_stand_184 : decode cX3_stand 184 = .ok (.invokevirtual 39, 3) := by decide +kernel
theorem dX3_stand_187 : decode cX3_stand 187 = .ok (.iastore, 1) := by decide +kernel
theorem dX3_stand_188 : decode cX3_stand 188 = .ok (.goto 9, 3) := by decide +kernel
theorem dX3_stand_191 : decode cX3_stand 191 = .ok (.iinc 6 1, 3) := by decide +kernel
theorem dX3_stand_194 : decode cX3_stand 194 = .ok (.goto (-118), 3) := by decide +kernel
theorem dX3_stand_197 : decode cX3_stand 197 = .ok (.iload 5, 2) := by decide +kernel
theorem dX3_stand_199 : decode cX3_stand 199 = .ok (.ireturn, 1) := by decide +kernel
set_option maxRecDepth 20000 in
theorem ggX3_walk_X3_walk : GoodIn wsX3_walk wsX3_walk := goodIn_r _ [0, 1, 2, 3, 4, 5, 6, 7, 8] (by decide +kernel) (by decide +kernel)
set_option maxRecDepth 20000 in
theorem gX3_walk_X3_walk : GoodIn wsX3_walk (wsV RX3 43 RX3 yX3_walk wsX3_walk) := goodIn_app (goodIn_of _ (by decide +kernel)) ggX3_walk_X3_walk
theorem dX3_walk_0 : decode cX3_walk 0 = .ok (.iload_n 1, 1) := by decide +kernel
theorem dX3_walk_1 : decode cX3_walk 1 = .ok (.ifCond .lt 15, 3) := by decide +kernel
theorem dX3_walk_4 : decode cX3_walk 4 = .ok (.aload_n 0, 1) := by decide +kernel
theorem dX3_walk_5 : decode cX3_walk 5 = .ok (.getfield 17, 3) := by decide +kernel
theorem dX3_walk_8 : decode cX3_walk 8 = .ok (.iload_n 1, 1) := by decide +kernel
theorem dX3_walk_9 : decode cX3_walk 9 = .ok (.aaload, 1) := by decide +kernel
theorem dX3_walk_10 : decode cX3_walk 10 = .ok (.iconst 3, 1) := by decide +kernel
theorem dX3_walk_11 : decode cX3_walk 11 = .ok (.iaload, 1) := by decide +kernel
theorem dX3_walk_12 : decode cX3_walk 12 = .ok (.iload_n 2, 1) := by decide +kernel
theorem dX3_walk_13 : decode cX3_walk 13 = .ok (.if_icmp .gt 4, 3) := by decide +kernel
theorem dX3_walk_16 : decode cX3_walk 16 = .ok (.return_, 1) := by decide +kernel
theorem dX3_walk_17 : decode cX3_walk 17 = .ok (.aload_n 0, 1) := by decide +kernel
theorem dX3_walk_18 : decode cX3_walk 18 = .ok (.getfield 17, 3) := by decide +kernel
theorem dX3_walk_21 : decode cX3_walk 21 = .ok (.iload_n 1, 1) := by decide +kernel
theorem dX3_walk_22 : decode cX3_walk 22 = .ok (.aaload, 1) := by decide +kernel
theorem dX3_walk_23 : decode cX3_walk 23 = .ok (.iconst 3, 1) := by decide +kernel
theorem dX3_walk_24 : decode cX3_walk 24 = .ok (.iload_n 2, 1) := by decide +kernel
theorem dX3_walk_25 : decode cX3_walk 25 = .ok (.iastore, 1) := by decide +kernel
theorem dX3_walk_26 : decode cX3_walk 26 = .ok (.aload_n 0, 1) := by decide +kernel
theorem dX3_walk_27 : decode cX3_walk 27 = .ok (.aload_n 0, 1) := by decide +kernel
theorem dX3_walk_28 : decode cX3_walk 28 = .ok (.getfield 17, 3) := by decide +kernel
theorem dX3_walk_31 : decode cX3_walk 31 = .ok (.iload_n 1, 1) := by decide +kernel
theorem dX3_walk_32 : decode cX3_walk 32 = .ok (.aaload, 1) := by decide +kernel
theorem dX3_walk_33 : decode cX3_walk 33 = .ok (.iconst 1, 1) := by decide +kernel
theorem dX3_walk_34 : decode cX3_walk 34 = .ok (.iaload, 1) := by decide +kernel
theorem dX3_walk_35 : decode cX3_walk 35 = .ok (.iload_n 2, 1) := by decide +kernel
theorem dX3_walk_36 : decode cX3_walk 36 = .ok (.iconst 1, 1) := by decide +kernel
theorem dX3_walk_37 : decode cX3_walk 37 = .ok (.iadd, 1) := by decide +kernel
theorem dX3_walk_38 : decode cX3_walk 38 = .ok (.invokevirtual 43, 3) := by decide +kernel
theorem dX3_walk_41 : decode cX3_walk 41 = .ok (.aload_n 0, 1) := by decide +kernel
theorem dX3_walk_42 : decode cX3_walk 42 = .ok (.aload_n 0, 1) := by decide +kernel
theorem dX3_walk_43 : decode cX3_walk 43 = .ok (.getfield 17, 3) := by decide +kernel
theorem dX3_walk_46 : decode cX3_walk 46 = .ok (.iload_n 1, 1) := by decide +kernel
theorem dX3_walk_47 : decode cX3_walk 47 = .ok (.aaload, 1) := by decide +kernel
theorem dX3_walk_48 : decode cX3_walk 48 = .ok (.iconst 2, 1) := by decide +kernel
theorem dX3_walk_49 : decode cX3_walk 49 = .ok (.iaload, 1) := by decide +kernel
theorem dX3_walk_50 : decode cX3_walk 50 = .ok (.iload_n 2, 1) := by decide +kernel
theorem dX3_walk_51 : decode cX3_walk 51 = .ok (.iconst 1, 1) := by decide +kernel
theorem dX3_walk_52 : decode cX3_walk 52 = .ok (.iadd, 1) := by decide +kernel
theorem dX3_walk_53 : decode cX3_walk 53 = .ok (.invokevirtual 43, 3) := by decide +kernel
theorem dX3_walk_56 : decode cX3_walk 56 = .ok (.return_, 1) := by decide +kernel
theorem dX4_init_0 : decode cX4_init 0 = .ok (.aload_n 0, 1) := by decide +kernel
theorem dX4_init_1 : decode cX4_init 1 = .ok (.invokespecial 1, 3) := by decide +kernel
theorem dX4_init_4 : decode cX4_init 4 = .ok (.aload_n 0, 1) := by decide +kernel
theorem dX4_init_5 : decode cX4_init 5 = .ok (.bipush 12, 2) := by decide +kernel
theorem dX4_init_7 : decode cX4_init 7 = .ok (.anewarray 7, 3) := by decide +kernel
theorem dX4_init_10 : decode cX4_init 10 = .ok (.putfield 9, 3) := by decide +kernel
theorem dX4_init_13 : decode cX4_init 13 = .ok (.aload_n 0, 1) := by decide +kernel
theorem dX4_init_14 : decode cX4_init 14 = .ok (.bipush 8, 2) := by decide +kernel
theorem dX4_init_16 : decode cX4_init 16 = .ok (.newarray .int, 2) := by decide +kernel
theorem dX4_init_18 : decode cX4_init 18 = .ok (.dup, 1) := by decide +kernel
theorem dX4_init_19 : decode cX4_init 19 = .ok (.iconst 0, 1) := by decide +kernel
theorem dX4_init_20 : decode cX4_init 20 = .ok (.iconst 0, 1) := by decide +kernel
theorem dX4_init_21 : decode cX4_init 21 = .ok (.iastore, 1) := by decide +kernel
theorem dX4_init_22 : decode cX4_init 22 = .ok (.dup, 1) := by decide +kernel
theorem dX4_init_23 : decode cX4_init 23 = .ok (.iconst 1, 1) := by decide +kernel
theorem dX4_init_24 : decode cX4_init 24 = .ok (.iconst 1, 1) := by decide +kernel
theorem dX4_init_25 : decode cX4_init 25 = .ok (.iastore, 1) := by decide +kernel
theorem dX4_init_26 : decode cX4_init 26 = .ok (.dup, 1) := by decide +kernel
theorem dX4_init_27 : decode cX4_init 27 = .ok (.iconst 2, 1) := by decide +kernel
theorem dX4_init_28 : decode cX4_init 28 = .ok (.iconst 2, 1) := by decide +kernel
theorem dX4_init_29 : decode cX4_init 29 = .ok (.iastore, 1) := by decide +kernel
theorem dX4_init_30 : decode cX4_init 30 = .ok (.dup, 1) := by decide +kernel
theorem dX4_init_31 : decode cX4_init 31 = .ok (.iconst 3, 1) := by decide +kernel
theorem dX4_init_32 : decode cX4_init 32 = .ok (.iconst 3, 1) := by decide +kernel
theorem dX4_init_33 : decode cX4_init 33 = .ok (.iastore, 1) := by decide +kernel
theorem dX4_init_34 : decode cX4_init 34 = .ok (.dup, 1) := by decide +kernel
theorem dX4_init_35 : decode cX4_init 35 = .ok (.iconst 4, 1) := by decide +kernel
theorem dX4_init_36 : decode cX4_init 36 = .ok (.iconst 4, 1) := by decide +kernel
theorem dX4_init_37 : decode cX4_init 37 = .ok (.iastore, 1) := by decide +kernel
theorem dX4_init_38 : decode cX4_init 38 = .ok (.dup, 1) := by decide +kernel
theorem dX4_init_39 : decode cX4_init 39 = .ok (.iconst 5, 1) := by decide +kernel
theorem dX4_init_40 : decode cX4_init 40 = .ok (.iconst 5, 1) := by decide +kernel
theorem dX4_init_41 : decode cX4_init 41 = .ok (.iastore, 1) := by decide +kernel
theorem dX4_init_42 : decode cX4_init 42 = .ok (.dup, 1) := by decide +kernel
theorem dX4_init_43 : decode cX4_init 43 = .ok (.bipush 6, 2) := by decide +kernel
theorem dX4_init_45 : decode cX4_init 45 = .ok (.bipush 6, 2) := by decide +kernel
theorem dX4_init_47 : decode cX4_init 47 = .ok (.iastore, 1) := by decide +kernel
theorem dX4_init_48 : decode cX4_init 48 = .ok (.dup, 1) := by decide +kernel
theorem dX4_init_49 : decode cX4_init 49 = .ok (.bipush 7, 2) := by decide +kernel
theorem dX4_init_51 : decode cX4_init 51 = .ok (.bipush 7, 2) := by decide +kernel
theorem dX4_init_53 : decode cX4_init 53 = .ok (.iastore, 1) := by decide +kernel
theorem dX4_init_54 : decode cX4_init 54 = .ok (.putfield 15, 3) := by decide +kernel
theorem dX4_init_57 : decode cX4_init 57 = .ok (.return_, 1) := by decide +kernel
theorem dX4_free_0 : decode cX4_free 0 = .ok (.iconst 0, 1) := by decide +kernel
theorem dX4_free_1 : decode cX4_free 1 = .ok (.istore_n 1, 1) := by decide +kernel
theorem dX4_free_2 : decode cX4_free 2 = .ok (.iload_n 1, 1) := by decide +kernel
theorem dX4_free_3 : decode cX4_free 3 = .ok (.bipush 12, 2) := by decide +kernel
theorem dX4_free_5 : decode cX4_free 5 = .ok (.if_icmp .ge 18, 3) := by decide +kernel
theorem dX4_free_8 : decode cX4_free 8 = .ok (.aload_n 0, 1) := by decide +kernel
theorem dX4_free_9 : decode cX4_free 9 = .ok (.getfield 9, 3) := by decide +kernel
theorem dX4_free_12 : decode cX4_free 12 = .ok (.iload_n 1, 1) := by decide +kernel
theorem dX4_free_13 : decode cX4_free 13 = .ok (.aaload, 1) := by decide +kernel
theorem dX4_free_14 : decode cX4_free 14 = .ok (.ifnull 9, 3) := by decide +kernel
theorem dX4_free_17 : decode cX4_free 17 = .ok (.iinc 1 1, 3) := by decide +kernel
theorem dX4_free_20 : decode cX4_free 20 = .ok (.goto (-18), 3) := by decide +kernel
theorem dX4_free_23 : decode cX4_free 23 = .ok (.iload_n 1, 1) := by decide +kernel
theorem dX4_free_24 : decode cX4_free 24 = .ok (.ireturn, 1) := by decide +kernel
theorem dX4_many_0 : decode cX4_many 0 = .ok (.iconst 0, 1) := by decide +kernel
theorem dX4_many_1 : decode cX4_many 1 = .ok (.istore_n 1, 1) := by decide +kernel
theorem dX4_many_2 : decode cX4_many 2 = .ok (.aload_n 0, 1) := by decide +kernel
theorem dX4_many_3 : decode cX4_many 3 = .ok (.getfield 9, 3) := by decide +kernel
theorem dX4_many_6 : decode cX4_many 6 = .ok (.astore_n 2, 1) := by decide +kernel
theorem dX4_many_7 : decode cX4_many 7 = .ok (.aload_n 2, 1) := by decide +kernel
theorem dX4_many_8 : decode cX4_many 8 = .ok (.arraylength, 1) := by decide +kernel
theorem dX4_many_9 : decode cX4_many 9 = .ok (.istore_n 3, 1) := by decide +kernel
theorem dX4_many_10 : decode cX4_many 10 = .ok (.iconst 0, 1) := by decide +kernel
theorem dX4_many_11 : decode cX4_many 11 = .ok (.istore 4, 2) := by decide +kernel
theorem dX4_many_13 : decode cX4_many 13 = .ok (.iload 4, 2) := by decide +kernel
theorem dX4_many_15 : decode cX4_many 15 = .ok (.iload_n 3, 1) := by decide +kernel
theorem dX4_many_16 : decode cX4_many 16 = .ok (.if_icmp .ge 28, 3) := by decide +kernel
theorem dX4_many_19 : decode cX4_many 19 = .ok (.aload_n 2, 1) := by decide +kernel
theorem dX4_many_20 : decode cX4_many 20 = .ok (.iload 4, 2) := by decide +kernel
theorem dX4_many_22 : decode cX4_many 22 = .ok (.aaload, 1) := by decide +kernel
theorem dX4_many_23 : decode cX4_many 23 = .ok (.astore 5, 2) := by decide +kernel
theorem dX4_many_25 : decode cX4_many 25 = .ok (.iload_n 1, 1) := by decide +kernel
theorem dX4_many_26 : decode cX4_many 26 = .ok (.aload 5, 2) := by decide +kernel
theorem dX4_many_28 : decode cX4_many 28 = .ok (.ifnonnull 7, 3) := by decide +kernel
theorem dX4_many_31 : decode cX4_many 31 = .ok (.iconst 0, 1) := by decide +kernel
theorem dX4_many_32 : decode cX4_many 32 = .ok (.goto 4, 3) := by decide +kernel
theorem dX4_many_35 : decode cX4_many 35 = .ok (.iconst 1, 1) := by decide +kernel
theorem dX4_many_36 : decode cX4_many 36 = .ok (.iadd, 1) := by decide +kernel
theorem dX4_many_37 : decode cX4_many 37 = .ok (.istore_n 1, 1) := by decide +kernel
theorem dX4_many_38 : decode cX4_many 38 = .ok (.iinc 4 1, 3) := by decide +kernel
theorem dX4_many_41 : decode cX4_many 41 = .ok (.goto (-28), 3) := by decide +kernel
theorem dX4_many_44 : decode cX4_many 44 = .ok (.iload_n 1, 1) := by decide +kernel
theorem dX4_many_45 : decode cX4_many 45 = .ok (.ireturn, 1) := by decide +kernel
set_option maxRecDepth 20000 in
theorem ggX4_all_L_row : GoodIn wsX4_all wsL_row := goodIn_r _ [6, 7, 8, 9, 10, 11, 12, 13, 14, 15, 16, 17, 18, 19, 20, 21, 22, 23, 24, 25, 5, 26, 27, 28, 29, 30, 31, 32, 33, 34, 35, 36, 37, 38, 39, 40, 41, 42, 43, 44, 48, 49, 50] (by decide +kernel) (by decide +kernel)
set_option maxRecDepth 20000 in
theorem gX4_all_L_row_n21 : GoodIn wsX4_all (wsL_row) := ggX4_all_L_row
theorem dX4_all_0 : decode cX4_all 0 = .ok (.bipush 12, 2) := by decide +kernel
theorem dX4_all_2 : decode cX4_all 2 = .ok (.anewarray 19, 3) := by decide +kernel
theorem dX4_all_5 : decode cX4_all 5 = .ok (.astore_n 1, 1) := by decide +kernel
theorem dX4_all_6 : decode cX4_all 6 = .ok (.iconst 0, 1) := by decide +kernel
theorem dX4_all_7 : decode cX4_all 7 = .ok (.istore_n 2, 1) := by decide +kernel
theorem dX4_all_8 : decode cX4_all 8 = .ok (.iload_n 2, 1) := by decide +kernel
theorem dX4_all_9 : decode cX4_all 9 = .ok (.bipush 12, 2) := by decide +kernel
theorem dX4_all_11 : decode cX4_all 11 = .ok (.if_icmp .ge 34, 3) := by decide +kernel
theorem dX4_all_14 : decode cX4_all 14 = .ok (.aload_n 0, 1) := by decide +kernel
theorem dX4_all_15 : decode cX4_all 15 = .ok (.getfield 9, 3) := by decide +kernel
theorem dX4_all_18 : decode cX4_all 18 = .ok (.iload_n 2, 1) := by decide +kernel
theorem dX4_all_19 : decode cX4_all 19 = .ok (.aaload, 1) := by decide +kernel
theorem dX4_all_20 : decode cX4_all 20 = .ok (.ifnull 19, 3) := by decide +kernel
theorem dX4_all_23 : decode cX4_all 23 = .ok (.aload_n 1, 1) := by decide +kernel
theorem dX4_all_24 : decode cX4_all 24 = .ok (.iload_n 2, 1) := by decide +kernel
theorem dX4_all_25 : decode cX4_all 25 = .ok (.aload_n 0, 1) := by decide +kernel
theorem dX4_all_26 : decode cX4_all 26 = .ok (.getfield 9, 3) := by decide +kernel
theorem dX4_all_29 : decode cX4_all 29 = .ok (.iload_n 2, 1) := by decide +kernel
theorem dX4_all_30 : decode cX4_all 30 = .ok (.aaload, 1) := by decide +kernel
theorem dX4_all_31 : decode cX4_all 31 = .ok (.aload_n 0, 1) := by decide +kernel
theorem dX4_all_32 : decode cX4_all 32 = .ok (.getfield 15, 3) := by decide +kernel
theorem dX4_all_35 : decode cX4_all 35 = .ok (.invokestatic 21, 3) := by decide +kernel
theorem dX4_all_38 : decode cX4_all 38 = .ok (.aastore, 1) := by decide +kernel
theorem dX4_all_39 : decode cX4_all 39 = .ok (.iinc 2 1, 3) := by decide +kernel
theorem dX4_all_42 : decode cX4_all 42 = .ok (.goto (-34), 3) := by decide +kernel
theorem dX4_all_45 : decode cX4_all 45 = .ok (.aload_n 1, 1) := by decide +kernel
theorem dX4_all_46 : decode cX4_all 46 = .ok (.areturn, 1) := by decide +kernel
set_option maxRecDepth 20000 in
theorem ggX4_together_X4_has : GoodIn wsX4_together wsX4_has := goodIn_r _ [7, 1, 3, 8, 9, 10, 11, 12, 13] (by decide +kernel) (by decide +kernel)
set_option maxRecDepth 20000 in
theorem gX4_together_X4_has : GoodIn wsX4_together (va_wsS RX4 38 yX4_has wsX4_has) := goodIn_app (goodIn_of _ (by decide +kernel)) ggX4_together_X4_has
theorem dX4_together_0 : decode cX4_together 0 = .ok (.iconst 0, 1) := by decide +kernel
theorem dX4_together_1 : decode cX4_together 1 = .ok (.istore_n 2, 1) := by decide +kernel
theorem dX4_together_2 : decode cX4_together 2 = .ok (.iconst 0, 1) := by decide +kernel
theorem dX4_together_3 : decode cX4_together 3 = .ok (.istore_n 3, 1) := by decide +kernel
theorem dX4_together_4 : decode cX4_together 4 = .ok (.iload_n 3, 1) := by decide +kernel
theorem dX4_together_5 : decode cX4_together 5 = .ok (.bipush 12, 2) := by decide +kernel
theorem dX4_together_7 : decode cX4_together 7 = .ok (.if_icmp .ge 130, 3) := by decide +kernel
theorem dX4_together_10 : decode cX4_together 10 = .ok (.aload_n 0, 1) := by decide +kernel
theorem dX4_together_11 : decode cX4_together 11 = .ok (.iload_n 3, 1) := by decide +kernel
theorem dX4_together_12 : decode cX4_together 12 = .ok (.aaload, 1) := by decide +kernel
theorem dX4_together_13 : decode cX4_together 13 = .ok (.ifnonnull 6, 3) := by decide +kernel
theorem dX4_together_16 : decode cX4_together 16 = .ok (.goto 115, 3) := by decide +kernel
theorem dX4_together_19 : decode cX4_together 19 = .ok (.iconst 0, 1) := by decide +kernel
theorem dX4_together_20 : decode cX4_together 20 = .ok (.istore 4, 2) := by decide +kernel
theorem dX4_together_22 : decode cX4_together 22 = .ok (.iload 4, 2) := by decide +kernel
theorem dX4_together_24 : decode cX4_together 24 = .ok (.aload_n 0, 1) := by decide +kernel
theorem dX4_together_25 : decode cX4_together 25 = .ok (.iload_n 3, 1) := by decide +kernel
theorem dX4_together_26 : decode cX4_together 26 = .ok (.aaload, 1) := by decide +kernel
theorem dX4_together_27 : decode cX4_together 27 = .ok (.getfield 27, 3) := by decide +kernel
theorem dX4_together_30 : decode cX4_together 30 = .ok (.if_icmp .ge 101, 3) := by decide +kernel
theorem dX4_together_33 : decode cX4_together 33 = .ok (.iload_n 1, 1) := by decide +kernel
theorem dX4_together_34 : decode cX4_together 34 = .ok (.ifCond .lt 18, 3) := by decide +kernel
theorem dX4_together_37 : decode cX4_together 37 = .ok (.aload_n 0, 1) := by decide +kernel
theorem dX4_together_38 : decode cX4_together 38 = .ok (.iload_n 3, 1) := by decide +kernel
theorem dX4_together_39 : decode cX4_together 39 = .ok (.aaload, 1) := by decide +kernel
theorem dX4_together_40 : decode cX4_together 40 = .ok (.getfield 31, 3) := by decide +kernel
theorem dX4_together_43 : decode cX4_together 43 = .ok (.iload 4, 2) := by decide +kernel
theorem dX4_together_45 : decode cX4_together 45 = .ok (.aaload, 1) := by decide +kernel
theorem dX4_together_46 : decode cX4_together 46 = .ok (.iconst 0, 1) := by decide +kernel
theorem dX4_together_47 : decode cX4_together 47 = .ok (.iaload, 1) := by decide +kernel
theorem dX4_together_48 : decode cX4_together 48 = .ok (.iload_n 1, 1) := by decide +kernel
theorem dX4_together_49 : decode cX4_together 49 = .ok (.if_icmp .ne 7, 3) := by decide +kernel
theorem dX4_together_52 : decode cX4_together 52 = .ok (.iconst 1, 1) := by decide +kernel
theorem dX4_together_53 : decode cX4_together 53 = .ok (.goto 4, 3) := by decide +kernel
theorem dX4_together_56 : decode cX4_together 56 = .ok (.iconst 0, 1) := by decide +kernel
theorem dX4_together_57 : decode cX4_together 57 = .ok (.istore 5, 2) := by decide +kernel
theorem dX4_together_59 : decode cX4_together 59 = .ok (.iconst 0, 1) := by decide +kernel
theorem dX4_together_60 : decode cX4_together 60 = .ok (.istore 6, 2) := by decide +kernel
theorem dX4_together_62 : decode cX4_together 62 = .ok (.iload 6, 2) := by decide +kernel
theorem dX4_together_64 : decode cX4_together 64 = .ok (.iload_n 3, 1) := by decide +kernel
theorem dX4_together_65 : decode cX4_together 65 = .ok (.if_icmp .ge 47, 3) := by decide +kernel
theorem dX4_together_68 : decode cX4_together 68 = .ok (.iload 5, 2) := by decide +kernel
theorem dX4_together_70 : decode cX4_together 70 = .ok (.ifCond .eq 42, 3) := by decide +kernel
theorem dX4_together_73 : decode cX4_together 73 = .ok (.aload_n 0, 1) := by decide +kernel
theorem dX4_together_74 : decode cX4_together 74 = .ok (.iload 6, 2) := by decide +kernel
theorem dX4_together_76 : decode cX4_together 76 = .ok (.aaload, 1) := by decide +kernel
theorem dX4_together_77 : decode cX4_together 77 = .ok (.ifnull 22, 3) := by decide +kernel
theorem dX4_together_80 : decode cX4_together 80 = .ok (.aload_n 0, 1) := by decide +kernel
theorem dX4_together_81 : decode cX4_together 81 = .ok (.iload 6, 2) := by decide +kernel
theorem dX4_together_83 : decode cX4_together 83 = .ok (.aaload, 1) := by decide +kernel
theorem dX4_together_84 : decode cX4_together 84 = .ok (.aload_n 0, 1) := by decide +kernel
theorem dX4_together_85 : decode cX4_together 85 = .ok (.iload_n 3, 1) := by decide +kernel
theorem dX4_together_86 : decode cX4_together 86 = .ok (.aaload, 1) := by decide +kernel
theorem dX4_together_87 : decode cX4_together 87 = .ok (.getfield 35, 3) := by decide +kernel
theorem dX4_together_90 : decode cX4_together 90 = .ok (.iload 4, 2) := by decide +kernel
theorem dX4_together_92 : decode cX4_together 92 = .ok (.aaload, 1) := by decide +kernel
theorem dX4_together_93 : decode cX4_together 93 = .ok (.invokestatic 38, 3) := by decide +kernel
theorem dX4_together_96 : decode cX4_together 96 = .ok (.ifCond .ne 7, 3) := by decide +kernel
theorem dX4_together_99 : decode cX4_together 99 = .ok (.iconst 1, 1) := by decide +kernel
theorem dX4_together_100 : decode cX4_together 100 = .ok (.goto 4, 3) := by decide +kernel
theorem dX4_together_103 : decode cX4_together 103 = .ok (.iconst 0, 1) := by decide +kernel
theorem dX4_together_104 : decode cX4_together 104 = .ok (.istore 5, 2) := by decide +kernel
theorem dX4_together_106 : decode cX4_together 106 = .ok (.iinc 6 1, 3) := by decide +kernel
theorem dX4_together_109 : decode cX4_together 109 = .ok (.goto (-47), 3) := by decide +kernel
theorem dX4_together_112 : decode cX4_together 112 = .ok (.iload_n 2, 1) := by decide +kernel
theorem dX4_together_113 : decode cX4_together 113 = .ok (.iload 5, 2) := by decide +kernel
theorem dX4_together_115 : decode cX4_together 115 = .ok (.ifCond .eq 7, 3) := by decide +kernel
theorem dX4_together_118 : decode cX4_together 118 = .ok (.iconst 1, 1) := by decide +kernel
theorem dX4_together_119 : decode cX4_together 119 = .ok (.goto 4, 3) := by decide +kernel
theorem dX4_together_122 : decode cX4_together 122 = .ok (.iconst 0, 1) := by decide +kernel
theorem dX4_together_123 : decode cX4_together 123 = .ok (.iadd, 1) := by decide +kernel
theorem dX4_together_124 : decode cX4_together 124 = .ok (.istore_n 2, 1) := by decide +kernel
theorem dX4_together_125 : decode cX4_together 125 = .ok (.iinc 4 1, 3) := by decide +kernel
theorem dX4_together_128 : decode cX4_together 128 = .ok (.goto (-106), 3) := by decide +kernel
theorem dX4_together_131 : decode cX4_together 131 = .ok (.iinc 3 1, 3) := by decide +kernel
theorem dX4_together_134 : decode cX4_together 134 = .ok (.goto (-130), 3) := by decide +kernel
theorem dX4_together_137 : decode cX4_together 137 = .ok (.iload_n 2, 1) := by decide +kernel
theorem dX4_together_138 : decode cX4_together 138 = .ok (.ireturn, 1) := by decide +kernel
set_option maxRecDepth 20000 in
theorem ggX4_has_L_alike : GoodIn wsX4_has wsL_alike := goodIn_r _ [5] (by decide +kernel) (by decide +kernel)
set_option maxRecDepth 20000 in
theorem gX4_has_L_alike_n42 : GoodIn wsX4_has (wsL_alike) := ggX4_has_L_alike
theorem dX4_has_0 : decode cX4_has 0 = .ok (.iconst 0, 1) := by decide +kernel
theorem dX4_has_1 : decode cX4_has 1 = .ok (.istore_n 2, 1) := by decide +kernel
theorem dX4_has_2 : decode cX4_has 2 = .ok (.iload_n 2, 1) := by decide +kernel
theorem dX4_has_3 : decode cX4_has 3 = .ok (.aload_n 0, 1) := by decide +kernel
theorem dX4_has_4 : decode cX4_has 4 = .ok (.getfield 27, 3) := by decide +kernel
theorem dX4_has_7 : decode cX4_has 7 = .ok (.if_icmp .ge 24, 3) := by decide +kernel
theorem dX4_has_10 : decode cX4_has 10 = .ok (.aload_n 0, 1) := by decide +kernel
theorem dX4_has_11 : decode cX4_has 11 = .ok (.getfield 35, 3) := by decide +kernel
theorem dX4_has_14 : decode cX4_has 14 = .ok (.iload_n 2, 1) := by decide +kernel
theorem dX4_has_15 : decode cX4_has 15 = .ok (.aaload, 1) := by decide +kernel
theorem dX4_has_16 : decode cX4_has 16 = .ok (.aload_n 1, 1) := by decide +kernel
theorem dX4_has_17 : decode cX4_has 17 = .ok (.invokestatic 42, 3) := by decide +kernel
theorem dX4_has_20 : decode cX4_has 20 = .ok (.ifCond .eq 5, 3) := by decide +kernel
theorem dX4_has_23 : decode cX4_has 23 = .ok (.iconst 1, 1) := by decide +kernel
theorem dX4_has_24 : decode cX4_has 24 = .ok (.ireturn, 1) := by decide +kernel
theorem dX4_has_25 : decode cX4_has 25 = .ok (.iinc 2 1, 3) := by decide +kernel
theorem dX4_has_28 : decode cX4_has 28 = .ok (.goto (-26), 3) := by decide +kernel
theorem dX4_has_31 : decode cX4_has 31 = .ok (.iconst 0, 1) := by decide +kernel
theorem dX4_has_32 : decode cX4_has 32 = .ok (.ireturn, 1) := by decide +kernel
set_option maxRecDepth 20000 in
theorem ggX4_isSame_X4_all : GoodIn wsX4_isSame wsX4_all := goodIn_r _ [12, 13, 2, 6, 14, 15, 16, 17, 18, 19, 20, 21, 22, 23, 24, 25, 26, 27, 28, 29, 30, 31, 32, 33, 7, 34, 35, 36, 37, 38, 39, 40, 41, 42, 43, 44, 45, 46, 47, 48, 49, 50, 51, 52, 53, 168, 169, 170, 171, 172, 173] (by decide +kernel) (by decide +kernel)
set_option maxRecDepth 20000 in
theorem gX4_isSame_X4_all : GoodIn wsX4_isSame (wsV RX4 46 RX4 yX4_all wsX4_all) := goodIn_app (goodIn_of _ (by decide +kernel)) ggX4_isSame_X4_all
set_option maxRecDepth 20000 in
theorem ggX4_isSame_X2_has : GoodIn wsX4_isSame wsX2_has := goodIn_ca (goodIn_r _ [58, 59, 60, 61, 57, 62, 63, 64, 174, 175, 176, 177, 178, 179, 180, 181, 182, 183, 184, 185, 186] (by decide +kernel) (by decide +kernel)) (goodIn_sub (fun _ h => List.mem_cons_of_mem _ (List.mem_append_right _ h)) (by decide +kernel))
set_option maxRecDepth 20000 in
theorem gX4_isSame_X2_has : GoodIn wsX4_isSame (wsV RX4 54 RX2 yX2_has wsX2_has) := goodIn_app (goodIn_of _ (by decide +kernel)) ggX4_isSame_X2_has
set_option maxRecDepth 20000 in
theorem ggX4_isSame_X2_about : GoodIn wsX4_isSame wsX2_about := goodIn_ca (goodIn_r _ [68, 69, 70, 71, 57, 72, 63, 64, 59, 60, 61, 62, 73, 74, 75, 76, 77, 78, 79, 80, 81, 82, 83, 84, 85, 86, 87, 88, 89, 90, 91, 92, 93, 94, 95, 96, 97, 98, 99, 100, 101, 102, 103, 104, 105, 106, 107, 108, 109, 110, 111, 112, 113, 114, 115, 116, 174, 175, 176, 177, 178, 179, 180, 181, 182, 183, 184, 185, 186, 187, 188, 189, 190, 191, 192, 193, 194, 195, 196] (by decide +kernel) (by decide +kernel)) (goodIn_sub (fun _ h => List.mem_cons_of_mem _ (List.mem_append_right _ h)) (by decide +kernel))
set_option maxRecDepth 20000 in
theorem gX4_isSame_X2_about : GoodIn wsX4_isSame (wsV RX4 59 RX2 yX2_about wsX2_about) := goodIn_app (goodIn_of _ (by decide +kernel)) ggX4_isSame_X2_about
set_option maxRecDepth 20000 in
theorem ggX4_isSame_X4_has : GoodIn wsX4_isSame wsX4_has := goodIn_r _ [119, 3, 4, 37, 15, 38, 171, 172, 173] (by decide +kernel) (by decide +kernel)
set_option maxRecDepth 20000 in
theorem gX4_isSame_X4_has : GoodIn wsX4_isSame (va_wsS RX4 38 yX4_has wsX4_has) := goodIn_app (goodIn_of _ (by decide +kernel)) ggX4_isSame_X4_has
set_option maxRecDepth 20000 in
theorem ggX4_isSame_X2_fork : GoodIn wsX4_isSame wsX2_fork := goodIn_ca (goodIn_r _ [123, 69, 70, 71, 57, 72, 63, 64, 59, 60, 61, 62, 124, 125, 126, 127, 84, 180, 181, 182, 183, 184, 185, 186, 174, 175, 176, 177, 178, 179, 187, 188, 189, 190, 191, 192, 193, 194, 195, 196] (by decide +kernel) (by decide +kernel)) (goodIn_sub (fun _ h => List.mem_cons_of_mem _ (List.mem_append_right _ h)) (by decide +kernel))
set_option maxRecDepth 20000 in
theorem gX4_isSame_X2_fork : GoodIn wsX4_isSame (wsV RX4 63 RX2 yX2_fork wsX2_fork) := goodIn_app (goodIn_of _ (by decide +kernel)) ggX4_isSame_X2_fork
set_option maxRecDepth 20000 in
theorem ggX4_isSame_X2_order : GoodIn wsX4_isSame wsX2_order := goodIn_ca (goodIn_r _ [131, 132, 60, 61, 57, 62, 63, 64, 174, 175, 176, 177, 178, 179] (by decide +kernel) (by decide +kernel)) (goodIn_sub (fun _ h => List.mem_cons_of_mem _ (List.mem_append_right _ h)) (by decide +kernel))
set_option maxRecDepth 20000 in
theorem gX4_isSame_X2_order : GoodIn wsX4_isSame (wsV RX4 67 RX2 yX2_order wsX2_order) := goodIn_app (goodIn_of _ (by decide +kernel)) ggX4_isSame_X2_order
set_option maxRecDepth 20000 in
theorem ggX4_isSame_X4_many : GoodIn wsX4_isSame wsX4_many := goodIn_r _ [136, 2, 168, 169, 170] (by decide +kernel) (by decide +kernel)
set_option maxRecDepth 20000 in
theorem gX4_isSame_X4_many : GoodIn wsX4_isSame (wsV RX4 70 RX4 yX4_many wsX4_many) := goodIn_app (goodIn_of _ (by decide +kernel)) ggX4_isSame_X4_many
set_option maxRecDepth 20000 in
theorem ggX4_isSame_X4_together : GoodIn wsX4_isSame wsX4_together := goodIn_r _ [139, 3, 5, 4, 117, 118, 11, 119, 37, 15, 38, 171, 172, 173] (by decide +kernel) (by decide +kernel)
set_option maxRecDepth 20000 in
theorem gX4_isSame_X4_together : GoodIn wsX4_isSame (va_wsS RX4 74 yX4_together wsX4_together) := goodIn_app (goodIn_of _ (by decide +kernel)) ggX4_isSame_X4_together
set_option maxRecDepth 20000 in
theorem ggX4_isSame_X2_count : GoodIn wsX4_isSame wsX2_count := goodIn_ca (goodIn_r _ [143, 60, 61, 57, 62, 63, 64, 144, 145, 146, 147, 84, 148, 149, 150, 151, 59, 152, 153, 154, 155, 156, 157, 158, 159, 132, 160, 161, 162, 163, 174, 175, 176, 177, 178, 179, 187, 188, 189, 190, 191, 192, 193, 194, 195, 196, 180, 181, 182, 183, 184, 185, 186] (by decide +kernel) (by decide +kernel)) (goodIn_sub (fun _ h => List.mem_cons_of_mem _ (List.mem_append_right _ h)) (by decide +kernel))
set_option maxRecDepth 20000 in
theorem gX4_isSame_X2_count : GoodIn wsX4_isSame (wsV RX4 78 RX2 yX2_count wsX2_count) := goodIn_app (goodIn_of _ (by decide +kernel)) ggX4_isSame_X2_count
set_option maxRecDepth 20000 in
theorem ggX4_isSame_X2_mean : GoodIn wsX4_isSame wsX2_mean := goodIn_r _ [167, 148, 149, 150, 57, 151, 59, 152, 153, 154, 155, 174, 175, 176, 177, 178, 179, 180, 181, 182, 183, 184, 185, 186] (by decide +kernel) (by decide +kernel)
set_option maxRecDepth 20000 in
theorem gX4_isSame_X2_mean : GoodIn wsX4_isSame (wsV RX4 81 RX2 yX2_mean wsX2_mean) := goodIn_app (goodIn_of _ (by decide +kernel)) ggX4_isSame_X2_mean
theorem dX4_isSame_0 : decode cX4_isSame 0 = .ok (.aload_n 0, 1) := by decide +kernel
theorem dX4_isSame_1 : decode cX4_isSame 1 = .ok (.aload_n 0, 1) := by decide +kernel
theorem dX4_isSame_2 : decode cX4_isSame 2 = .ok (.invokevirtual 46, 3) := by decide +kernel
theorem dX4_isSame_5 : decode cX4_isSame 5 = .ok (.putfield 50, 3) := by decide +kernel
theorem dX4_isSame_8 : decode cX4_isSame 8 = .ok (.iconst 0, 1) := by decide +kernel
theorem dX4_isSame_9 : decode cX4_isSame 9 = .ok (.istore_n 3, 1) := by decide +kernel
theorem dX4_isSame_10 : decode cX4_isSame 10 = .ok (.iconst 0, 1) := by decide +kernel
theorem dX4_isSame_11 : decode cX4_isSame 11 = .ok (.istore 4, 2) := by decide +kernel
theorem dX4_isSame_13 : decode cX4_isSame 13 = .ok (.iconst 0, 1) := by decide +kernel
theorem dX4_isSame_14 : decode cX4_isSame 14 = .ok (.istore 5, 2) := by decide +kernel
theorem dX4_isSame_16 : decode cX4_isSame 16 = .ok (.iload 5, 2) := by decide +kernel
theorem dX4_isSame_18 : decode cX4_isSame 18 = .ok (.bipush 12, 2) := by decide +kernel
theorem dX4_isSame_20 : decode cX4_isSame 20 = .ok (.if_icmp .ge 305, 3) := by decide +kernel
theorem dX4_isSame_23 : decode cX4_isSame 23 = .ok (.aload_n 1, 1) := by decide +kernel
theorem dX4_isSame_24 : decode cX4_isSame 24 = .ok (.iload 5, 2) := by decide +kernel
theorem dX4_isSame_26 : decode cX4_isSame 26 = .ok (.invokevirtual 54, 3) := by decide +kernel
theorem dX4_isSame_29 : decode cX4_isSame 29 = .ok (.aload_n 0, 1) := by decide +kernel
theorem dX4_isSame_30 : decode cX4_isSame 30 = .ok (.getfield 9, 3) := by decide +kernel
theorem dX4_isSame_33 : decode cX4_isSame 33 = .ok (.iload 5, 2) := by decide +kernel
theorem dX4_isSame_35 : decode cX4_isSame 35 = .ok (.aaload, 1) := by decide +kernel
theorem dX4_isSame_36 : decode cX4_isSame 36 = .ok (.ifnull 7, 3) := by decide +kernel
theorem dX4_isSame_39 : decode cX4_isSame 39 = .ok (.iconst 1, 1) := by decide +kernel
theorem dX4_isSame_40 : decode cX4_isSame 40 = .ok (.goto 4, 3) := by decide +kernel
theorem dX4_isSame_43 : decode cX4_isSame 43 = .ok (.iconst 0, 1) := by decide +kernel
theorem dX4_isSame_44 : decode cX4_isSame 44 = .ok (.if_icmp .eq 5, 3) := by decide +kernel
theorem dX4_isSame_47 : decode cX4_isSame 47 = .ok (.iconst 0, 1) := by decide +kernel
theorem dX4_isSame_48 : decode cX4_isSame 48 = .ok (.ireturn, 1) := by decide +kernel
theorem dX4_isSame_49 : decode cX4_isSame 49 = .ok (.aload_n 0, 1) := by decide +kernel
theorem dX4_isSame_50 : decode cX4_isSame 50 = .ok (.getfield 9, 3) := by decide +kernel
theorem dX4_isSame_53 : decode cX4_isSame 53 = .ok (.iload 5, 2) := by decide +kernel
theorem dX4_isSame_55 : decode cX4_isSame 55 = .ok (.aaload, 1) := by decide +kernel
theorem dX4_isSame_56 : decode cX4_isSame 56 = .ok (.ifnonnull 6, 3) := by decide +kernel
theorem dX4_isSame_59 : decode cX4_isSame 59 = .ok (.goto 260, 3) := by decide +kernel
theorem dX4_isSame_62 : decode cX4_isSame 62 = .ok (.iload_n 3, 1) := by decide +kernel
theorem dX4_isSame_63 : decode cX4_isSame 63 = .ok (.aload_n 0, 1) := by decide +kernel
theorem dX4_isSame_64 : decode cX4_isSame 64 = .ok (.getfield 50, 3) := by decide +kernel
theorem dX4_isSame_67 : decode cX4_isSame 67 = .ok (.iload 5, 2) := by decide +kernel
theorem dX4_isSame_69 : decode cX4_isSame 69 = .ok (.aaload, 1) := by decide +kernel
theorem dX4_isSame_70 : decode cX4_isSame 70 = .ok (.getfield 27, 3) := by decide +kernel
theorem dX4_isSame_73 : decode cX4_isSame 73 = .ok (.iadd, 1) := by decide +kernel
theorem dX4_isSame_74 : decode cX4_isSame 74 = .ok (.istore_n 3, 1) := by decide +kernel
theorem dX4_isSame_75 : decode cX4_isSame 75 = .ok (.iload 4, 2) := by decide +kernel
theorem dX4_isSame_77 : decode cX4_isSame 77 = .ok (.aload_n 0, 1) := by decide +kernel
theorem dX4_isSame_78 : decode cX4_isSame 78 = .ok (.getfield 50, 3) := by decide +kernel
theorem dX4_isSame_81 : decode cX4_isSame 81 = .ok (.iload 5, 2) := by decide +kernel
theorem dX4_isSame_83 : decode cX4_isSame 83 = .ok (.aaload, 1) := by decide +kernel
theorem dX4_isSame_84 : decode cX4_isSame 84 = .ok (.getfield 27, 3) := by decide +kernel
theorem dX4_isSame_87 : decode cX4_isSame 87 = .ok (.ifCond .ne 7, 3) := by decide +kernel
theorem dX4_isSame_90 : decode cX4_isSame 90 = .ok (.iconst 1, 1) := by decide +kernel
theorem dX4_isSame_91 : decode cX4_isSame 91 = .ok (.goto 4, 3) := by decide +kernel
theorem dX4_isSame_94 : decode cX4_isSame 94 = .ok (.iconst 0, 1) := by decide +kernel
theorem dX4_isSame_95 : decode cX4_isSame 95 = .ok (.iadd, 1) := by decide +kernel
theorem dX4_isSame_96 : decode cX4_isSame 96 = .ok (.istore 4, 2) := by decide +kernel
theorem dX4_isSame_98 : decode cX4_isSame 98 = .ok (.aload_n 1, 1) := by decide +kernel
theorem dX4_isSame_99 : decode cX4_isSame 99 = .ok (.iload 5, 2) := by decide +kernel
theorem dX4_isSame_101 : decode cX4_isSame 101 = .ok (.iconst 0, 1) := by decide +kernel
theorem dX4_isSame_102 : decode cX4_isSame 102 = .ok (.invokevirtual 59, 3) := by decide +kernel
theorem dX4_isSame_105 : decode cX4_isSame 105 = .ok (.aload_n 0, 1) := by decide +kernel
theorem dX4_isSame_106 : decode cX4_isSame 106 = .ok (.getfield 50, 3) := by decide +kernel
theorem dX4_isSame_109 : decode cX4_isSame 109 = .ok (.iload 5, 2) := by decide +kernel
theorem dX4_isSame_111 : decode cX4_isSame 111 = .ok (.aaload, 1) := by decide +kernel
theorem dX4_isSame_112 : decode cX4_isSame 112 = .ok (.getfield 27, 3) := by decide +kernel
theorem dX4_isSame_115 : decode cX4_isSame 115 = .ok (.if_icmp .eq 5, 3) := by decide +kernel
theorem dX4_isSame_118 : decode cX4_isSame 118 = .ok (.iconst 0, 1) := by decide +kernel
theorem dX4_isSame_119 : decode cX4_isSame 119 = .ok (.ireturn, 1) := by decide +kernel
theorem dX4_isSame_120 : decode cX4_isSame 120 = .ok (.iconst 0, 1) := by decide +kernel
theorem dX4_isSame_121 : decode cX4_isSame 121 = .ok (.istore 6, 2) := by decide +kernel
theorem dX4_isSame_123 : decode cX4_isSame 123 = .ok (.iconst 0, 1) := by decide +kernel
theorem dX4_isSame_124 : decode cX4_isSame 124 = .ok (.istore 7, 2) := by decide +kernel
theorem dX4_isSame_126 : decode cX4_isSame 126 = .ok (.iload 7, 2) := by decide +kernel
theorem dX4_isSame_128 : decode cX4_isSame 128 = .ok (.aload_n 0, 1) := by decide +kernel
theorem dX4_isSame_129 : decode cX4_isSame 129 = .ok (.getfield 50, 3) := by decide +kernel
theorem dX4_isSame_132 : decode cX4_isSame 132 = .ok (.iload 5, 2) := by decide +kernel
theorem dX4_isSame_134 : decode cX4_isSame 134 = .ok (.aaload, 1) := by decide +kernel
theorem dX4_isSame_135 : decode cX4_isSame 135 = .ok (.getfield 27, 3) := by decide +kernel
theorem dX4_isSame_138 : decode cX4_isSame 138 = .ok (.if_icmp .ge 166, 3) := by decide +kernel
theorem dX4_isSame_141 : decode cX4_isSame 141 = .ok (.iconst 0, 1) := by decide +kernel
theorem dX4_isSame_142 : decode cX4_isSame 142 = .ok (.istore 8, 2) := by decide +kernel
theorem dX4_isSame_144 : decode cX4_isSame 144 = .ok (.iconst 0, 1) := by decide +kernel
theorem dX4_isSame_145 : decode cX4_isSame 145 = .ok (.istore 9, 2) := by decide +kernel
theorem dX4_isSame_147 : decode cX4_isSame 147 = .ok (.iload 9, 2) := by decide +kernel
theorem dX4_isSame_149 : decode cX4_isSame 149 = .ok (.bipush 12, 2) := by decide +kernel
theorem dX4_isSame_151 : decode cX4_isSame 151 = .ok (.if_icmp .ge 55, 3) := by decide +kernel
theorem dX4_isSame_154 : decode cX4_isSame 154 = .ok (.iload 8, 2) := by decide +kernel
theorem dX4_isSame_156 : decode cX4_isSame 156 = .ok (.aload_n 0, 1) := by decide +kernel
theorem dX4_isSame_157 : decode cX4_isSame 157 = .ok (.getfield 50, 3) := by decide +kernel
theorem dX4_isSame_160 : decode cX4_isSame 160 = .ok (.iload 9, 2) := by decide +kernel
theorem dX4_isSame_162 : decode cX4_isSame 162 = .ok (.aaload, 1) := by decide +kernel
theorem dX4_isSame_163 : decode cX4_isSame 163 = .ok (.ifnull 33, 3) := by decide +kernel
theorem dX4_isSame_166 : decode cX4_isSame 166 = .ok (.aload_n 0, 1) := by decide +kernel
theorem dX4_isSame_167 : decode cX4_isSame 167 = .ok (.getfield 50, 3) := by decide +kernel
theorem dX4_isSame_170 : decode cX4_isSame 170 = .ok (.iload 9, 2) := by decide +kernel
theorem dX4_isSame_172 : decode cX4_isSame 172 = .ok (.aaload, 1) := by decide +kernel
theorem dX4_isSame_173 : decode cX4_isSame 173 = .ok (.aload_n 0, 1) := by decide +kernel
theorem dX4_isSame_174 : decode cX4_isSame 174 = .ok (.getfield 50, 3) := by decide +kernel
theorem dX4_isSame_177 : decode cX4_isSame 177 = .ok (.iload 5, 2) := by decide +kernel
theorem dX4_isSame_179 : decode cX4_isSame 179 = .ok (.aaload, 1) := by decide +kernel
theorem dX4_isSame_180 : decode cX4_isSame 180 = .ok (.getfield 35, 3) := by decide +kernel
theorem dX4_isSame_183 : decode cX4_isSame 183 = .ok (.iload 7, 2) := by decide +kernel
theorem dX4_isSame_185 : decode cX4_isSame 185 = .ok (.aaload, 1) := by decide +kernel
theorem dX4_isSame_186 : decode cX4_isSame 186 = .ok (.invokestatic 38, 3) := by decide +kernel
theorem dX4_isSame_189 : decode cX4_isSame 189 = .ok (.ifCond .eq 7, 3) := by decide +kernel
theorem dX4_isSame_192 : decode cX4_isSame 192 = .ok (.iconst 1, 1) := by decide +kernel
theorem dX4_isSame_193 : decode cX4_isSame 193 = .ok (.goto 4, 3) := by decide +kernel
theorem dX4_isSame_196 : decode cX4_isSame 196 = .ok (.iconst 0, 1) := by decide +kernel
theorem dX4_isSame_197 : decode cX4_isSame 197 = .ok (.iadd, 1) := by decide +kernel
theorem dX4_isSame_198 : decode cX4_isSame 198 = .ok (.istore 8, 2) := by decide +kernel
theorem dX4_isSame_200 : decode cX4_isSame 200 = .ok (.iinc 9 1, 3) := by decide +kernel
theorem dX4_isSame_203 : decode cX4_isSame 203 = .ok (.goto (-56), 3) := by decide +kernel
theorem dX4_isSame_206 : decode cX4_isSame 206 = .ok (.iload 6, 2) := by decide +kernel
theorem dX4_isSame_208 : decode cX4_isSame 208 = .ok (.iload 8, 2) := by decide +kernel
theorem dX4_isSame_210 : decode cX4_isSame 210 = .ok (.iconst 1, 1) := by decide +kernel
theorem dX4_isSame_211 : decode cX4_isSame 211 = .ok (.if_icmp .ne 7, 3) := by decide +kernel
theorem dX4_isSame_214 : decode cX4_isSame 214 = .ok (.iconst 1, 1) := by decide +kernel
theorem dX4_isSame_215 : decode cX4_isSame 215 = .ok (.goto 4, 3) := by decide +kernel
theorem dX4_isSame_218 : decode cX4_isSame 218 = .ok (.iconst 0, 1) := by decide +kernel
theorem dX4_isSame_219 : decode cX4_isSame 219 = .ok (.iadd, 1) := by decide +kernel
theorem dX4_isSame_220 : decode cX4_isSame 220 = .ok (.istore 6, 2) := by decide +kernel
theorem dX4_isSame_222 : decode cX4_isSame 222 = .ok (.iload_n 2, 1) := by decide +kernel
theorem dX4_isSame_223 : decode cX4_isSame 223 = .ok (.ifCond .ne 13, 3) := by decide +kernel
theorem dX4_isSame_226 : decode cX4_isSame 226 = .ok (.iload 7, 2) := by decide +kernel
theorem dX4_isSame_228 : decode cX4_isSame 228 = .ok (.iconst 5, 1) := by decide +kernel
theorem dX4_isSame_229 : decode cX4_isSame 229 = .ok (.irem, 1) := by decide +kernel
theorem dX4_isSame_230 : decode cX4_isSame 230 = .ok (.ifCond .le 6, 3) := by decide +kernel
theorem dX4_isSame_233 : decode cX4_isSame 233 = .ok (.goto 65, 3) := by decide +kernel
theorem dX4_isSame_236 : decode cX4_isSame 236 = .ok (.iconst 0, 1) := by decide +kernel
theorem dX4_isSame_237 : decode cX4_isSame 237 = .ok (.istore 9, 2) := by decide +kernel
theorem dX4_isSame_239 : decode cX4_isSame 239 = .ok (.iload 9, 2) := by decide +kernel
theorem dX4_isSame_241 : decode cX4_isSame 241 = .ok (.iconst 4, 1) := by decide +kernel
theorem dX4_isSame_242 : decode cX4_isSame 242 = .ok (.if_icmp .ge 40, 3) := by decide +kernel
theorem dX4_isSame_245 : decode cX4_isSame 245 = .ok (.aload_n 1, 1) := by decide +kernel
theorem dX4_isSame_246 : decode cX4_isSame 246 = .ok (.iload 5, 2) := by decide +kernel
theorem dX4_isSame_248 : decode cX4_isSame 248 = .ok (.iload 7, 2) := by decide +kernel
theorem dX4_isSame_250 : decode cX4_isSame 250 = .ok (.iload 9, 2) := by decide +kernel
theorem dX4_isSame_252 : decode cX4_isSame 252 = .ok (.invokevirtual 63, 3) := by decide +kernel
theorem dX4_isSame_255 : decode cX4_isSame 255 = .ok (.aload_n 0, 1) := by decide +kernel
theorem dX4_isSame_256 : decode cX4_isSame 256 = .ok (.getfield 50, 3) := by decide +kernel
theorem dX4_isSame_259 : decode cX4_isSame 259 = .ok (.iload 5, 2) := by decide +kernel
theorem dX4_isSame_261 : decode cX4_isSame 261 = .ok (.aaload, 1) := by decide +kernel
theorem dX4_isSame_262 : decode cX4_isSame 262 = .ok (.getfield 31, 3) := by decide +kernel
theorem dX4_isSame_265 : decode cX4_isSame 265 = .ok (.iload 7, 2) := by decide +kernel
theorem dX4_isSame_267 : decode cX4_isSame 267 = .ok (.aaload, 1) := by decide +kernel
theorem dX4_isSame_268 : decode cX4_isSame 268 = .ok (.iload 9, 2) := by decide +kernel
theorem dX4_isSame_270 : decode cX4_isSame 270 = .ok (.iaload, 1) := by decide +kernel
theorem dX4_isSame_271 : decode cX4_isSame 271 = .ok (.if_icmp .eq 5, 3) := by decide +kernel
theorem dX4_isSame_274 : decode cX4_isSame 274 = .ok (.iconst 0, 1) := by decide +kernel
theorem dX4_isSame_275 : decode cX4_isSame 275 = .ok (.ireturn, 1) := by decide +kernel
theorem dX4_isSame_276 : decode cX4_isSame 276 = .ok (.iinc 9 1, 3) := by decide +kernel
theorem dX4_isSame_279 : decode cX4_isSame 279 = .ok (.goto (-40), 3) := by decide +kernel
theorem dX4_isSame_282 : decode cX4_isSame 282 = .ok (.aload_n 1, 1) := by decide +kernel
theorem dX4_isSame_283 : decode cX4_isSame 283 = .ok (.iload 5, 2) := by decide +kernel
theorem dX4_isSame_285 : decode cX4_isSame 285 = .ok (.iload 7, 2) := by decide +kernel
theorem dX4_isSame_287 : decode cX4_isSame 287 = .ok (.iconst 4, 1) := by decide +kernel
theorem dX4_isSame_288 : decode cX4_isSame 288 = .ok (.invokevirtual 63, 3) := by decide +kernel
theorem dX4_isSame_291 : decode cX4_isSame 291 = .ok (.iload 8, 2) := by decide +kernel
theorem dX4_isSame_293 : decode cX4_isSame 293 = .ok (.if_icmp .eq 5, 3) := by decide +kernel
theorem dX4_isSame_296 : decode cX4_isSame 296 = .ok (.iconst 0, 1) := by decide +kernel
theorem dX4_isSame_297 : decode cX4_isSame 297 = .ok (.ireturn, 1) := by decide +kernel
theorem dX4_isSame_298 : decode cX4_isSame 298 = .ok (.iinc 7 1, 3) := by decide +kernel
theorem dX4_isSame_301 : decode cX4_isSame 301 = .ok (.goto (-175), 3) := by decide +kernel
theorem dX4_isSame_304 : decode cX4_isSame 304 = .ok (.aload_n 1, 1) := by decide +kernel
theorem dX4_isSame_305 : decode cX4_isSame 305 = .ok (.iload 5, 2) := by decide +kernel
theorem dX4_isSame_307 : decode cX4_isSame 307 = .ok (.bipush 7, 2) := by decide +kernel
theorem dX4_isSame_309 : decode cX4_isSame 309 = .ok (.invokevirtual 59, 3) := by decide +kernel
theorem dX4_isSame_312 : decode cX4_isSame 312 = .ok (.iload 6, 2) := by decide +kernel
theorem dX4_isSame_314 : decode cX4_isSame 314 = .ok (.if_icmp .eq 5, 3) := by decide +kernel
theorem dX4_isSame_317 : decode cX4_isSame 317 = .ok (.iconst 0, 1) := by decide +kernel
theorem dX4_isSame_318 : decode cX4_isSame 318 = .ok (.ireturn, 1) := by decide +kernel
theorem dX4_isSame_319 : decode cX4_isSame 319 = .ok (.iinc 5 1, 3) := by decide +kernel
theorem dX4_isSame_322 : decode cX4_isSame 322 = .ok (.goto (-306), 3) := by decide +kernel
theorem dX4_isSame_325 : decode cX4_isSame 325 = .ok (.iconst 0, 1) := by decide +kernel
theorem dX4_isSame_326 : decode cX4_isSame 326 = .ok (.istore 5, 2) := by decide +kernel
theorem dX4_isSame_328 : decode cX4_isSame 328 = .ok (.iload 5, 2) := by decide +kernel
theorem dX4_isSame_330 : decode cX4_isSame 330 = .ok (.bipush 8, 2) := by decide +kernel
theorem dX4_isSame_332 : decode cX4_isSame 332 = .ok (.if_icmp .ge 27, 3) := by decide +kernel
theorem dX4_isSame_335 : decode cX4_isSame 335 = .ok (.aload_n 1, 1) := by decide +kernel
theorem dX4_isSame_336 : decode cX4_isSame 336 = .ok (.iload 5, 2) := by decide +kernel
theorem dX4_isSame_338 : decode cX4_isSame 338 = .ok (.invokevirtual 67, 3) := by decide +kernel
theorem dX4_isSame_341 : decode cX4_isSame 341 = .ok (.aload_n 0, 1) := by decide +kernel
theorem dX4_isSame_342 : decode cX4_isSame 342 = .ok (.getfield 15, 3) := by decide +kernel
theorem dX4_isSame_345 : decode cX4_isSame 345 = .ok (.iload 5, 2) := by decide +kernel
theorem dX4_isSame_347 : decode cX4_isSame 347 = .ok (.iaload, 1) := by decide +kernel
theorem dX4_isSame_348 : decode cX4_isSame 348 = .ok (.if_icmp .eq 5, 3) := by decide +kernel
theorem dX4_isSame_351 : decode cX4_isSame 351 = .ok (.iconst 0, 1) := by decide +kernel
theorem dX4_isSame_352 : decode cX4_isSame 352 = .ok (.ireturn, 1) := by decide +kernel
theorem dX4_isSame_353 : decode cX4_isSame 353 = .ok (.iinc 5 1, 3) := by decide +kernel
theorem dX4_isSame_356 : decode cX4_isSame 356 = .ok (.goto (-28), 3) := by decide +kernel
theorem dX4_isSame_359 : decode cX4_isSame 359 = .ok (.iconst 5, 1) := by decide +kernel
theorem dX4_isSame_360 : decode cX4_isSame 360 = .ok (.newarray .int, 2) := by decide +kernel
theorem dX4_isSame_362 : decode cX4_isSame 362 = .ok (.dup, 1) := by decide +kernel
theorem dX4_isSame_363 : decode cX4_isSame 363 = .ok (.iconst 0, 1) := by decide +kernel
theorem dX4_isSame_364 : decode cX4_isSame 364 = .ok (.aload_n 0, 1) := by decide +kernel
theorem dX4_isSame_365 : decode cX4_isSame 365 = .ok (.invokevirtual 70, 3) := by decide +kernel
theorem dX4_isSame_368 : decode cX4_isSame 368 = .ok (.iastore, 1) := by decide +kernel
theorem dX4_isSame_369 : decode cX4_isSame 369 = .ok (.dup, 1) := by decide +kernel
theorem dX4_isSame_370 : decode cX4_isSame 370 = .ok (.iconst 1, 1) := by decide +kernel
theorem dX4_isSame_371 : decode cX4_isSame 371 = .ok (.aload_n 0, 1) := by decide +kernel
theorem dX4_isSame_372 : decode cX4_isSame 372 = .ok (.getfield 50, 3) := by decide +kernel
theorem dX4_isSame_375 : decode cX4_isSame 375 = .ok (.iconst (-1), 1) := by decide +kernel
theorem dX4_isSame_376 : decode cX4_isSame 376 = .ok (.invokestatic 74, 3) := by decide +kernel
theorem dX4_isSame_379 : decode cX4_isSame 379 = .ok (.iastore, 1) := by decide +kernel
theorem dX4_isSame_380 : decode cX4_isSame 380 = .ok (.dup, 1) := by decide +kernel
theorem dX4_isSame_381 : decode cX4_isSame 381 = .ok (.iconst 2, 1) := by decide +kernel
theorem dX4_isSame_382 : decode cX4_isSame 382 = .ok (.iload_n 3, 1) := by decide +kernel
theorem dX4_isSame_383 : decode cX4_isSame 383 = .ok (.iastore, 1) := by decide +kernel
theorem dX4_isSame_384 : decode cX4_isSame 384 = .ok (.dup, 1) := by decide +kernel
theorem dX4_isSame_385 : decode cX4_isSame 385 = .ok (.iconst 3, 1) := by decide +kernel
theorem dX4_isSame_386 : decode cX4_isSame 386 = .ok (.aload_n 0, 1) := by decide +kernel
theorem dX4_isSame_387 : decode cX4_isSame 387 = .ok (.getfield 50, 3) := by decide +kernel
theorem dX4_isSame_390 : decode cX4_isSame 390 = .ok (.aload_n 0, 1) := by decide +kernel
theorem dX4_isSame_391 : decode cX4_isSame 391 = .ok (.getfield 15, 3) := by decide +kernel
theorem dX4_isSame_394 : decode cX4_isSame 394 = .ok (.iconst 0, 1) := by decide +kernel
theorem dX4_isSame_395 : decode cX4_isSame 395 = .ok (.iaload, 1) := by decide +kernel
theorem dX4_isSame_396 : decode cX4_isSame 396 = .ok (.invokestatic 74, 3) := by decide +kernel
theorem dX4_isSame_399 : decode cX4_isSame 399 = .ok (.iastore, 1) := by decide +kernel
theorem dX4_isSame_400 : decode cX4_isSame 400 = .ok (.dup, 1) := by decide +kernel
theorem dX4_isSame_401 : decode cX4_isSame 401 = .ok (.iconst 4, 1) := by decide +kernel
theorem dX4_isSame_402 : decode cX4_isSame 402 = .ok (.iload 4, 2) := by decide +kernel
theorem dX4_isSame_404 : decode cX4_isSame 404 = .ok (.iastore, 1) := by decide +kernel
theorem dX4_isSame_405 : decode cX4_isSame 405 = .ok (.astore 5, 2) := by decide +kernel
theorem dX4_isSame_407 : decode cX4_isSame 407 = .ok (.iconst 0, 1) := by decide +kernel
theorem dX4_isSame_408 : decode cX4_isSame 408 = .ok (.istore 6, 2) := by decide +kernel
theorem dX4_isSame_410 : decode cX4_isSame 410 = .ok (.iload 6, 2) := by decide +kernel
theorem dX4_isSame_412 : decode cX4_isSame 412 = .ok (.iconst 5, 1) := by decide +kernel
theorem dX4_isSame_413 : decode cX4_isSame 413 = .ok (.if_icmp .ge 25, 3) := by decide +kernel
theorem dX4_isSame_416 : decode cX4_isSame 416 = .ok (.aload_n 1, 1) := by decide +kernel
theorem dX4_isSame_417 : decode cX4_isSame 417 = .ok (.iload 6, 2) := by decide +kernel
theorem dX4_isSame_419 : decode cX4_isSame 419 = .ok (.invokevirtual 78, 3) := by decide +kernel
theorem dX4_isSame_422 : decode cX4_isSame 422 = .ok (.aload 5, 2) := by decide +kernel
theorem dX4_isSame_424 : decode cX4_isSame 424 = .ok (.iload 6, 2) := by decide +kernel
theorem dX4_isSame_426 : decode cX4_isSame 426 = .ok (.iaload, 1) := by decide +kernel
theorem dX4_isSame_427 : decode cX4_isSame 427 = .ok (.if_icmp .eq 5, 3) := by decide +kernel
theorem dX4_isSame_430 : decode cX4_isSame 430 = .ok (.iconst 0, 1) := by decide +kernel
theorem dX4_isSame_431 : decode cX4_isSame 431 = .ok (.ireturn, 1) := by decide +kernel
theorem dX4_isSame_432 : decode cX4_isSame 432 = .ok (.iinc 6 1, 3) := by decide +kernel
theorem dX4_isSame_435 : decode cX4_isSame 435 = .ok (.goto (-25), 3) := by decide +kernel
theorem dX4_isSame_438 : decode cX4_isSame 438 = .ok (.aload_n 1, 1) := by decide +kernel
theorem dX4_isSame_439 : decode cX4_isSame 439 = .ok (.invokevirtual 81, 3) := by decide +kernel
theorem dX4_isSame_442 : decode cX4_isSame 442 = .ok (.aload_n 0, 1) := by decide +kernel
theorem dX4_isSame_443 : decode cX4_isSame 443 = .ok (.invokevirtual 70, 3) := by decide +kernel
theorem dX4_isSame_446 : decode cX4_isSame 446 = .ok (.ifCond .ne 7, 3) := by decide +kernel
theorem dX4_isSame_449 : decode cX4_isSame 449 = .ok (.dconst 0, 1) := by decide +kernel
theorem dX4_isSame_450 : decode cX4_isSame 450 = .ok (.goto 11, 3) := by decide +kernel
theorem dX4_isSame_453 : decode cX4_isSame 453 = .ok (.iload_n 3, 1) := by decide +kernel
theorem dX4_isSame_454 : decode cX4_isSame 454 = .ok (.i2d, 1) := by decide +kernel
theorem dX4_isSame_455 : decode cX4_isSame 455 = .ok (.aload_n 0, 1) := by decide +kernel
theorem dX4_isSame_456 : decode cX4_isSame 456 = .ok (.invokevirtual 70, 3) := by decide +kernel
theorem dX4_isSame_459 : decode cX4_isSame 459 = .ok (.i2d, 1) := by decide +kernel
theorem dX4_isSame_460 : decode cX4_isSame 460 = .ok (.ddiv, 1) := by decide +kernel
theorem dX4_isSame_461 : decode cX4_isSame 461 = .ok (.dcmp .l, 1) := by decide +kernel
theorem dX4_isSame_462 : decode cX4_isSame 462 = .ok (.ifCond .ne 7, 3) := by decide +kernel
theorem dX4_isSame_465 : decode cX4_isSame 465 = .ok (.iconst 1, 1) := by decide +kernel
theorem dX4_isSame_466 : decode cX4_isSame 466 = .ok (.goto 4, 3) := by decide +kernel
theorem dX4_isSame_469 : decode cX4_isSame 469 = .ok (.iconst 0, 1) := by decide +kernel
theorem dX4_isSame_470 : decode cX4_isSame 470 = .ok (.ireturn, 1) := by decide +kernel
