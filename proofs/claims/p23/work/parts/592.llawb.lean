theorem goodIn_cons {big a : List Cond} {c : Cond} (hc : GoodIn big [c]) (ha : GoodIn big a) : GoodIn big (c :: a) := fun w h => (List.mem_cons.mp h).elim (fun e => hc w (by rw [e]; exact List.mem_singleton.mpr rfl)) (ha w)
theorem goodIn_tr {big mid ws : List Cond} (h1 : GoodIn big mid) (h2 : GoodIn mid ws) : GoodIn big ws := fun w h => ⟨(h1 w (h2 w h).1).1, (h2 w h).2⟩
set_option maxHeartbeats 8000000 in
set_option maxRecDepth 200000 in
theorem ggL_build_L_act_h : GoodIn wsL_build [Cond.code yL_act cL_act 13 (some .boolean)] := goodIn_r _ [110] rfl (by decide +kernel)
set_option maxRecDepth 20000 in
theorem ggL_build_L_act_r1 : GoodIn wsL_build wsL_act_r1 := goodIn_r _ [13, 4, 111, 5, 112, 113, 114, 3, 115, 12, 116, 117, 118, 119, 20, 21, 17, 22, 23, 120, 121, 122, 30, 123] (by decide +kernel) (by decide +kernel)
set_option maxRecDepth 20000 in
theorem ggL_build_L_act_r2 : GoodIn wsL_build wsL_act_r2 := goodIn_r _ [124, 125, 126, 127, 36, 37, 32, 51, 52, 53, 54, 55, 56, 57, 58, 59, 60, 61, 62, 63, 64, 65, 66, 67] (by decide +kernel) (by decide +kernel)
set_option maxRecDepth 20000 in
theorem ggL_build_L_act_r3 : GoodIn wsL_build wsL_act_r3 := goodIn_r _ [68, 69, 70, 71, 72, 73, 74, 75, 76, 77, 78, 79, 80, 81, 82, 83, 84, 85, 86, 87, 88, 89, 90, 91] (by decide +kernel) (by decide +kernel)
set_option maxRecDepth 20000 in
theorem ggL_build_L_act_r4 : GoodIn wsL_build wsL_act_r4 := goodIn_r _ [92, 93, 94, 95, 96, 97, 98, 99, 100, 101, 102, 103, 104, 105, 106, 107, 128, 129, 130, 131, 132, 133, 134, 135] (by decide +kernel) (by decide +kernel)
set_option maxRecDepth 20000 in
theorem ggL_build_L_act_r5 : GoodIn wsL_build wsL_act_r5 := goodIn_r _ [33, 34, 35, 136, 137, 138, 139, 140, 141, 142, 143, 14, 144, 145, 146, 147, 148, 149, 150, 151, 9, 10, 152, 153] (by decide +kernel) (by decide +kernel)
set_option maxRecDepth 20000 in
theorem ggL_build_L_act_r6 : GoodIn wsL_build wsL_act_r6 := goodIn_r _ [154, 155, 156, 157, 158, 159, 160, 161, 162, 163, 164, 165, 166, 167, 168, 169, 170, 24, 25, 26, 171, 172, 173, 174] (by decide +kernel) (by decide +kernel)
set_option maxRecDepth 20000 in
theorem ggL_build_L_act_r7 : GoodIn wsL_build wsL_act_r7 := goodIn_r _ [175, 176, 177, 178, 179, 180, 181, 182, 183, 184, 185, 27, 28, 29, 31, 38, 39, 40, 41, 42, 43, 44, 45, 46] (by decide +kernel) (by decide +kernel)
set_option maxRecDepth 20000 in
theorem ggL_build_L_act_r8 : GoodIn wsL_build wsL_act_r8 := goodIn_r _ [47, 48, 49, 50, 186, 187, 188, 189, 190, 191, 192, 193, 194, 195, 196, 197, 198, 199, 200, 201, 202, 203, 204, 205] (by decide +kernel) (by decide +kernel)
set_option maxRecDepth 20000 in
theorem ggL_build_L_act_r9 : GoodIn wsL_build wsL_act_r9 := goodIn_r _ [206, 207, 208, 209, 210, 211, 212, 213, 214, 215, 216, 217, 218, 219, 220, 221] (by decide +kernel) (by decide +kernel)
set_option maxRecDepth 20000 in
theorem ggL_build_L_act_wsX40 : GoodIn wsL_build wsX40 := goodIn_r _ [222, 223, 224] (by decide +kernel) (by decide +kernel)
set_option maxRecDepth 20000 in
theorem ggL_build_L_act_wsX00 : GoodIn wsL_build wsX00 := goodIn_r _ [231, 232, 233, 234, 235, 236, 237] (by decide +kernel) (by decide +kernel)
set_option maxRecDepth 20000 in
theorem ggL_build_L_act_wsX20 : GoodIn wsL_build wsX20 := goodIn_r _ [225, 226, 227, 228, 229, 230] (by decide +kernel) (by decide +kernel)
set_option maxRecDepth 20000 in
theorem ggL_build_L_act_wsX10 : GoodIn wsL_build wsX10 := goodIn_r _ [238, 239, 240, 241, 242, 243, 244, 245, 246, 247] (by decide +kernel) (by decide +kernel)
set_option maxRecDepth 20000 in
theorem ggL_build_L_act_wsX30 : GoodIn wsL_build wsX30 := goodIn_r _ [248, 249, 250] (by decide +kernel) (by decide +kernel)
theorem ggL_build_L_act : GoodIn wsL_build wsL_act := goodIn_ca (goodIn_ca (goodIn_ca (goodIn_ca (goodIn_ca (goodIn_ca (goodIn_ca (goodIn_cons ggL_build_L_act_h (goodIn_app ggL_build_L_act_r1 (goodIn_app ggL_build_L_act_r2 (goodIn_app ggL_build_L_act_r3 (goodIn_app ggL_build_L_act_r4 (goodIn_app ggL_build_L_act_r5 (goodIn_app ggL_build_L_act_r6 (goodIn_app ggL_build_L_act_r7 (goodIn_app ggL_build_L_act_r8 (ggL_build_L_act_r9)))))))))) ggL_build_L_act_wsX40) ggL_build_L_act_wsX00) ggL_build_L_act_wsX20) ggL_build_L_act_wsX10) ggL_build_L_act_wsX30) (goodIn_sub (fun _ h => List.mem_cons_of_mem _ (List.mem_append_left _ (List.mem_append_right _ h))) (by decide +kernel))) (goodIn_sub (fun _ h => List.mem_cons_of_mem _ (List.mem_append_right _ h)) (by decide +kernel))
set_option maxRecDepth 20000 in
theorem ggL_law_L_build_h : GoodIn wsL_law [Cond.code yL_build cL_build 6 (some (.object "SharedForksLaw$Sim"))] := goodIn_r _ [51] (by decide +kernel) (by decide +kernel)
set_option maxRecDepth 20000 in
theorem ggL_law_L_build_r1 : GoodIn wsL_law wsL_build_r1 := goodIn_r _ [52, 53, 54, 3, 55, 56, 57, 58, 12, 13, 59, 60, 16, 61, 62, 63, 50, 64, 65, 66, 67, 68, 69, 70] (by decide +kernel) (by decide +kernel)
set_option maxRecDepth 20000 in
theorem ggL_law_L_build_r2 : GoodIn wsL_law wsL_build_r2 := goodIn_r _ [71, 72, 73, 74, 75, 2, 76, 15, 77, 78, 79, 80, 81, 82, 83, 84, 85, 86, 87, 88, 89, 90, 91, 92] (by decide +kernel) (by decide +kernel)
set_option maxRecDepth 20000 in
theorem ggL_law_L_build_r3 : GoodIn wsL_law wsL_build_r3 := goodIn_r _ [93, 94, 95, 96, 97, 98, 21, 17, 99, 20, 100, 101, 102, 35, 36, 103, 104, 105, 106, 37, 107, 108, 109, 110] (by decide +kernel) (by decide +kernel)
set_option maxRecDepth 20000 in
theorem ggL_law_L_build_r4 : GoodIn wsL_law wsL_build_r4 := goodIn_r _ [111, 112, 113, 114, 115, 116, 117, 38, 118, 119, 120, 121, 31, 32, 33, 122, 123, 124, 125, 34, 126, 127, 128, 39] (by decide +kernel) (by decide +kernel)
set_option maxHeartbeats 8000000 in
set_option maxRecDepth 200000 in
theorem ggL_law_L_build_r5 : GoodIn wsL_law wsL_build_r5 := goodIn_r _ [129, 130, 131, 132, 133, 134, 135, 136, 137, 138, 139, 140, 141, 142, 143, 144, 145, 146, 147, 148, 149, 150, 151, 152] rfl (by decide +kernel)
set_option maxRecDepth 20000 in
theorem ggL_law_L_build_r6 : GoodIn wsL_law wsL_build_r6 := goodIn_r _ [153, 154, 155, 156, 157, 158, 159, 160, 161, 162, 163, 164, 165, 166, 167, 168, 169, 170, 171, 172, 173, 174, 175, 176] (by decide +kernel) (by decide +kernel)
set_option maxRecDepth 20000 in
theorem ggL_law_L_build_r7 : GoodIn wsL_law wsL_build_r7 := goodIn_r _ [177, 178, 179, 180, 181, 182, 183, 184, 185, 186, 187, 188, 189, 190, 191, 192, 193, 194, 195, 196, 197, 198, 199, 200] (by decide +kernel) (by decide +kernel)
set_option maxRecDepth 20000 in
theorem ggL_law_L_build_r8 : GoodIn wsL_law wsL_build_r8 := goodIn_r _ [201, 202, 203, 204, 205, 206, 207, 208, 209, 210, 211, 212, 213, 214, 215, 216, 217, 218, 219, 220, 221, 222, 223, 224] (by decide +kernel) (by decide +kernel)
set_option maxRecDepth 20000 in
theorem ggL_law_L_build_r9 : GoodIn wsL_law wsL_build_r9 := goodIn_r _ [225, 226, 227, 228, 229, 230, 231, 232, 233, 234, 235, 236, 237, 238, 239, 240, 241, 242, 243, 244, 245, 246, 247, 248] (by decide +kernel) (by decide +kernel)
set_option maxRecDepth 20000 in
theorem ggL_law_L_build_r10 : GoodIn wsL_law wsL_build_r10 := goodIn_r _ [249, 250, 251, 252, 253] (by decide +kernel) (by decide +kernel)
set_option maxRecDepth 20000 in
theorem ggL_law_L_build_wsX40 : GoodIn wsL_law wsX40 := goodIn_r _ [381, 382, 383] (by decide +kernel) (by decide +kernel)
set_option maxRecDepth 20000 in
theorem ggL_law_L_build_wsX20 : GoodIn wsL_law wsX20 := goodIn_r _ [375, 376, 377, 378, 379, 380] (by decide +kernel) (by decide +kernel)
set_option maxRecDepth 20000 in
theorem ggL_law_L_build_wsX00 : GoodIn wsL_law wsX00 := goodIn_r _ [394, 395, 396, 397, 398, 399, 400] (by decide +kernel) (by decide +kernel)
set_option maxRecDepth 20000 in
theorem ggL_law_L_build_wsX10 : GoodIn wsL_law wsX10 := goodIn_r _ [384, 385, 386, 387, 388, 389, 390, 391, 392, 393] (by decide +kernel) (by decide +kernel)
set_option maxRecDepth 20000 in
theorem ggL_law_L_build_wsX30 : GoodIn wsL_law wsX30 := goodIn_r _ [401, 402, 403] (by decide +kernel) (by decide +kernel)
theorem ggL_law_L_build : GoodIn wsL_law wsL_build := goodIn_ca (goodIn_ca (goodIn_ca (goodIn_ca (goodIn_ca (goodIn_ca (goodIn_ca (goodIn_cons ggL_law_L_build_h (goodIn_app ggL_law_L_build_r1 (goodIn_app ggL_law_L_build_r2 (goodIn_app ggL_law_L_build_r3 (goodIn_app ggL_law_L_build_r4 (goodIn_app ggL_law_L_build_r5 (goodIn_app ggL_law_L_build_r6 (goodIn_app ggL_law_L_build_r7 (goodIn_app ggL_law_L_build_r8 (goodIn_app ggL_law_L_build_r9 (ggL_law_L_build_r10))))))))))) ggL_law_L_build_wsX40) ggL_law_L_build_wsX20) ggL_law_L_build_wsX00) ggL_law_L_build_wsX10) ggL_law_L_build_wsX30) (goodIn_sub (fun _ h => List.mem_append_left _ (List.mem_append_left _ (List.mem_append_right _ h))) (by decide +kernel))) (goodIn_sub (fun _ h => List.mem_append_left _ (List.mem_append_right _ h)) (by decide +kernel))
theorem ggL_law_L_act : GoodIn wsL_law wsL_act := goodIn_tr ggL_law_L_build ggL_build_L_act
set_option maxRecDepth 20000 in
theorem ggL_law_X4_isSame_h : GoodIn wsL_law [Cond.code yX4_isSame cX4_isSame 10 (some .boolean)] := goodIn_r _ [358] (by decide +kernel) (by decide +kernel)
set_option maxRecDepth 20000 in
theorem ggL_law_X4_isSame_r1 : GoodIn wsL_law wsX4_isSame_r1 := goodIn_r _ [359, 60, 212, 214, 213, 61, 16, 360, 172, 173, 54, 174, 175, 176, 50, 177, 178, 179, 180, 181, 182, 183, 12, 13] (by decide +kernel) (by decide +kernel)
set_option maxRecDepth 20000 in
theorem ggL_law_X4_isSame_r2 : GoodIn wsL_law wsX4_isSame_r2 := goodIn_r _ [184, 185, 186, 187, 188, 189, 190, 191, 192, 193, 194, 195, 196, 197, 198, 199, 55, 200, 201, 202, 70, 71, 72, 203] (by decide +kernel) (by decide +kernel)
set_option maxRecDepth 20000 in
theorem ggL_law_X4_isSame_r3 : GoodIn wsL_law wsX4_isSame_r3 := goodIn_r _ [204, 205, 206, 207, 208, 361, 255, 256, 2, 257, 15, 77, 78, 79, 80, 81, 362, 259, 260, 261, 156, 157, 158, 159] (by decide +kernel) (by decide +kernel)
set_option maxRecDepth 20000 in
theorem ggL_law_X4_isSame_r4 : GoodIn wsL_law wsX4_isSame_r4 := goodIn_r _ [262, 263, 264, 265, 266, 267, 268, 269, 270, 271, 272, 21, 273, 274, 275, 276, 277, 278, 6, 279, 280, 281, 282, 283] (by decide +kernel) (by decide +kernel)
set_option maxRecDepth 20000 in
theorem ggL_law_X4_isSame_r5 : GoodIn wsL_law wsX4_isSame_r5 := goodIn_r _ [88, 89, 90, 284, 285, 286, 287, 288, 5, 7, 289, 290, 291, 292, 293, 294, 295, 296, 297, 298, 215, 216, 217, 363] (by decide +kernel) (by decide +kernel)
set_option maxRecDepth 20000 in
theorem ggL_law_X4_isSame_r6 : GoodIn wsL_law wsX4_isSame_r6 := goodIn_r _ [300, 301, 302, 303, 304, 305, 306, 364, 365, 366, 367, 17, 368, 145, 146, 147, 369, 210, 211, 370, 319, 320, 321, 322] (by decide +kernel) (by decide +kernel)
set_option maxRecDepth 20000 in
theorem ggL_law_X4_isSame_r7 : GoodIn wsL_law wsX4_isSame_r7 := goodIn_r _ [323, 324, 325, 160, 161, 162, 163, 326, 327, 328, 329, 330, 331, 332, 333, 334, 335, 336, 337, 371, 372, 373, 374] (by decide +kernel) (by decide +kernel)
set_option maxRecDepth 20000 in
theorem ggL_law_X4_isSame_wsX40 : GoodIn wsL_law wsX40 := goodIn_r _ [381, 382, 383] (by decide +kernel) (by decide +kernel)
set_option maxRecDepth 20000 in
theorem ggL_law_X4_isSame_wsX30 : GoodIn wsL_law wsX30 := goodIn_r _ [401, 402, 403] (by decide +kernel) (by decide +kernel)
set_option maxRecDepth 20000 in
theorem ggL_law_X4_isSame_wsX20 : GoodIn wsL_law wsX20 := goodIn_r _ [375, 376, 377, 378, 379, 380] (by decide +kernel) (by decide +kernel)
set_option maxRecDepth 20000 in
theorem ggL_law_X4_isSame_wsX00 : GoodIn wsL_law wsX00 := goodIn_r _ [394, 395, 396, 397, 398, 399, 400] (by decide +kernel) (by decide +kernel)
set_option maxRecDepth 20000 in
theorem ggL_law_X4_isSame_wsX10 : GoodIn wsL_law wsX10 := goodIn_r _ [384, 385, 386, 387, 388, 389, 390, 391, 392, 393] (by decide +kernel) (by decide +kernel)
theorem ggL_law_X4_isSame : GoodIn wsL_law wsX4_isSame := goodIn_ca (goodIn_ca (goodIn_ca (goodIn_ca (goodIn_ca (goodIn_ca (goodIn_cons ggL_law_X4_isSame_h (goodIn_app ggL_law_X4_isSame_r1 (goodIn_app ggL_law_X4_isSame_r2 (goodIn_app ggL_law_X4_isSame_r3 (goodIn_app ggL_law_X4_isSame_r4 (goodIn_app ggL_law_X4_isSame_r5 (goodIn_app ggL_law_X4_isSame_r6 (ggL_law_X4_isSame_r7)))))))) ggL_law_X4_isSame_wsX40) ggL_law_X4_isSame_wsX30) ggL_law_X4_isSame_wsX20) ggL_law_X4_isSame_wsX00) ggL_law_X4_isSame_wsX10) (goodIn_sub (fun _ h => List.mem_append_left _ (List.mem_append_left _ (List.mem_append_right _ h))) (by decide +kernel))
set_option maxRecDepth 20000 in
theorem gL_build_L_act : GoodIn wsL_build (va_wsS RL 106 yL_act wsL_act) := goodIn_app (goodIn_of _ (by decide +kernel)) ggL_build_L_act
set_option maxRecDepth 20000 in
theorem gL_law_L_build : GoodIn wsL_law (va_wsS RL 111 yL_build wsL_build) := goodIn_app (goodIn_of _ (by decide +kernel)) ggL_law_L_build
set_option maxRecDepth 20000 in
theorem gL_law_L_act : GoodIn wsL_law (va_wsS RL 106 yL_act wsL_act) := goodIn_app (goodIn_of _ (by decide +kernel)) ggL_law_L_act
set_option maxRecDepth 20000 in
theorem gL_law_X4_isSame : GoodIn wsL_law (wsV RL 149 RX4 yX4_isSame wsX4_isSame) := goodIn_app (goodIn_of _ (by decide +kernel)) ggL_law_X4_isSame
