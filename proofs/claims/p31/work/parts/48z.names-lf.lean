set_option maxRecDepth 20000 in
theorem ggL_act_X4_contains : GoodIn wsL_act wsX4_contains := goodIn_ca (goodIn_r _ [5, 6, 7, 8, 9, 4, 10, 11, 12, 13, 14, 15, 16, 17, 18, 19, 20, 21, 22, 23, 24, 25, 26, 27, 28, 327, 328, 329, 330, 331, 332, 333, 334, 335, 336, 337, 338, 339, 340, 341, 342, 343] (by decide +kernel) (by decide +kernel)) (goodIn_sub (fun _ h => List.mem_cons_of_mem _ (List.mem_append_left _ (List.mem_append_left _ (List.mem_append_right _ h)))) (by decide +kernel))
set_option maxRecDepth 20000 in
theorem gL_act_X4_contains : GoodIn wsL_act (wsV RL 44 RX4 yX4_contains wsX4_contains) := goodIn_app (goodIn_of _ (by decide +kernel)) ggL_act_X4_contains
set_option maxRecDepth 20000 in
theorem ggL_act_L_call_c0 : GoodIn wsL_act [.codeWith yL_call cL_call 5 (some .int) [(0, 158, 159, 51), (0, 158, 164, 53), (0, 158, 169, 55)]] := goodIn_r _ [32] (by decide +kernel) (by decide +kernel)
set_option maxRecDepth 20000 in
theorem ggL_act_L_call_c1 : GoodIn wsL_act wsL_call_r1 := goodIn_r _ [33, 34, 35, 36, 37, 38, 4, 39, 40, 41, 8, 9, 10, 11, 12, 42, 43, 44, 45, 6, 7, 46, 47, 48] (by decide +kernel) (by decide +kernel)
set_option maxRecDepth 20000 in
theorem ggL_act_L_call_c2 : GoodIn wsL_act wsL_call_r2 := goodIn_r _ [49, 16, 50, 19, 20, 21, 22, 23, 24, 25, 26, 27, 28, 51, 52, 53, 54, 55, 56, 57, 58, 59, 60, 61] (by decide +kernel) (by decide +kernel)
set_option maxRecDepth 20000 in
theorem ggL_act_L_call_c3 : GoodIn wsL_act wsL_call_r3 := goodIn_r _ [62, 63, 64, 65, 66, 67, 68, 69, 70, 71, 72, 73, 74, 75, 76, 77, 78, 79, 18, 80, 81, 82, 83, 84] (by decide +kernel) (by decide +kernel)
set_option maxRecDepth 20000 in
theorem ggL_act_L_call_c4 : GoodIn wsL_act wsL_call_r4 := goodIn_r _ [85, 86, 87, 88, 89, 90, 91, 92, 93, 94, 95, 96, 97, 98, 99, 100, 101, 102, 103, 104, 105, 106, 107, 108] (by decide +kernel) (by decide +kernel)
set_option maxRecDepth 20000 in
theorem ggL_act_L_call_c5 : GoodIn wsL_act wsL_call_r5 := goodIn_r _ [109, 110, 111, 112, 113, 114, 115, 116, 117, 118, 119, 120, 121, 122, 123, 124, 125, 126, 127, 128, 129, 130, 131, 132] (by decide +kernel) (by decide +kernel)
set_option maxRecDepth 20000 in
theorem ggL_act_L_call_c6 : GoodIn wsL_act wsL_call_r6 := goodIn_r _ [133, 134, 135, 136, 137, 138, 139, 140, 141, 142, 143, 144, 145, 146, 147, 148, 149, 150, 151, 152, 153, 154, 155, 156] (by decide +kernel) (by decide +kernel)
set_option maxRecDepth 20000 in
theorem ggL_act_L_call_c7 : GoodIn wsL_act wsL_call_r7 := goodIn_r _ [157, 158, 159, 160, 161, 162, 163, 164, 165, 166, 167, 168, 169, 170, 171, 172, 173, 174, 175, 176, 177, 178, 179, 180] (by decide +kernel) (by decide +kernel)
set_option maxRecDepth 20000 in
theorem ggL_act_L_call_c8 : GoodIn wsL_act wsL_call_r8 := goodIn_r _ [181, 182, 183, 184, 185, 186, 187, 188, 189, 190, 191, 192, 193, 194, 195, 196, 197, 198, 199, 200, 201, 202, 203, 204] (by decide +kernel) (by decide +kernel)
set_option maxRecDepth 20000 in
theorem ggL_act_L_call_c9 : GoodIn wsL_act wsL_call_r9 := goodIn_r _ [205, 206, 207, 208, 209, 210, 211, 212, 213, 214, 215, 216, 217, 218, 219, 220, 221, 222, 223, 224, 225, 226, 227, 228] (by decide +kernel) (by decide +kernel)
set_option maxRecDepth 20000 in
theorem ggL_act_L_call_c10 : GoodIn wsL_act wsL_call_r10 := goodIn_r _ [229, 230, 231, 232, 233, 234, 235, 236, 237, 238, 239, 240, 241, 242, 243, 244, 245, 246, 247, 248, 249, 250, 251, 252] (by decide +kernel) (by decide +kernel)
set_option maxRecDepth 20000 in
theorem ggL_act_L_call_c11 : GoodIn wsL_act wsL_call_r11 := goodIn_r _ [253, 254, 255, 256, 257, 258, 259, 260, 261, 262, 263, 264, 265, 266, 267, 268, 269, 270, 271, 272, 273, 274, 275, 276] (by decide +kernel) (by decide +kernel)
set_option maxRecDepth 20000 in
theorem ggL_act_L_call_c12 : GoodIn wsL_act wsL_call_r12 := goodIn_r _ [277, 278, 279, 280, 281, 282, 283, 1, 2, 3, 5, 13, 14, 15, 17, 284, 285, 286, 287, 288, 289, 290, 291, 292] (by decide +kernel) (by decide +kernel)
set_option maxRecDepth 20000 in
theorem ggL_act_L_call_c13 : GoodIn wsL_act wsL_call_r13 := goodIn_r _ [293, 294, 295, 296, 297, 298] (by decide +kernel) (by decide +kernel)
set_option maxRecDepth 20000 in
theorem ggL_act_L_call_wsX40 : GoodIn wsL_act wsX40 := goodIn_r _ [327, 328, 329, 330, 331, 332, 333, 334, 335] (by decide +kernel) (by decide +kernel)
set_option maxRecDepth 20000 in
theorem ggL_act_L_call_wsX20 : GoodIn wsL_act wsX20 := goodIn_r _ [336, 337, 338, 339] (by decide +kernel) (by decide +kernel)
set_option maxRecDepth 20000 in
theorem ggL_act_L_call_wsX30 : GoodIn wsL_act wsX30 := goodIn_r _ [340, 341, 342, 343] (by decide +kernel) (by decide +kernel)
set_option maxRecDepth 20000 in
theorem ggL_act_L_call_wsX10 : GoodIn wsL_act wsX10 := goodIn_r _ [344, 345, 346, 347, 348, 349, 350] (by decide +kernel) (by decide +kernel)
set_option maxRecDepth 20000 in
theorem ggL_act_L_call_wsX00 : GoodIn wsL_act wsX00 := goodIn_r _ [351, 352] (by decide +kernel) (by decide +kernel)
set_option maxRecDepth 20000 in
theorem ggL_act_L_call : GoodIn wsL_act wsL_call := goodIn_ca (goodIn_ca (goodIn_ca (goodIn_cons1 ggL_act_L_call_c0 (goodIn_app (goodIn_app (goodIn_app (goodIn_app (goodIn_app (goodIn_app ggL_act_L_call_c1 (goodIn_app ggL_act_L_call_c2 (goodIn_app ggL_act_L_call_c3 (goodIn_app ggL_act_L_call_c4 (goodIn_app ggL_act_L_call_c5 (goodIn_app ggL_act_L_call_c6 (goodIn_app ggL_act_L_call_c7 (goodIn_app ggL_act_L_call_c8 (goodIn_app ggL_act_L_call_c9 (goodIn_app ggL_act_L_call_c10 (goodIn_app ggL_act_L_call_c11 (goodIn_app ggL_act_L_call_c12 (ggL_act_L_call_c13))))))))))))) ggL_act_L_call_wsX40) ggL_act_L_call_wsX20) ggL_act_L_call_wsX30) ggL_act_L_call_wsX10) ggL_act_L_call_wsX00)) (goodIn_sub (fun _ h => List.mem_cons_of_mem _ (List.mem_append_left _ (List.mem_append_right _ h))) (by decide +kernel))) (goodIn_sub (fun _ h => List.mem_cons_of_mem _ (List.mem_append_left _ (List.mem_append_left _ (List.mem_append_right _ h)))) (by decide +kernel))) (goodIn_sub (fun _ h => List.mem_cons_of_mem _ (List.mem_append_right _ h)) (by decide +kernel))
set_option maxRecDepth 20000 in
theorem gL_act_L_call : GoodIn wsL_act (va_wsS RL 99 yL_call wsL_call) := goodIn_app (goodIn_of _ (by decide +kernel)) ggL_act_L_call
set_option maxRecDepth 20000 in
theorem ggL_act_X4_count : GoodIn wsL_act wsX4_count := goodIn_ca (goodIn_r _ [302, 6, 125, 55, 236, 237, 288, 289, 4, 290, 11, 12, 327, 328, 329, 330, 331, 332, 333, 334, 335, 336, 337, 338, 339, 351, 352] (by decide +kernel) (by decide +kernel)) (goodIn_sub (fun _ h => List.mem_cons_of_mem _ (List.mem_append_left _ (List.mem_append_left _ (List.mem_append_right _ h)))) (by decide +kernel))
set_option maxRecDepth 20000 in
theorem gL_act_X4_count : GoodIn wsL_act (wsV RL 80 RX4 yX4_count wsX4_count) := goodIn_app (goodIn_of _ (by decide +kernel)) ggL_act_X4_count
set_option maxRecDepth 20000 in
theorem ggL_act_X4_idle_c0 : GoodIn wsL_act [.code yX4_idle cX4_idle 1 (some .int)] := goodIn_r _ [306] (by decide +kernel) (by decide +kernel)
set_option maxRecDepth 20000 in
theorem ggL_act_X4_idle_c1 : GoodIn wsL_act wsX4_idle_r1 := goodIn_r _ [6, 125, 51, 52, 53, 4, 54, 55, 56, 57, 58, 59, 60, 61, 62, 63, 64, 65, 66, 67, 68, 69, 70, 71] (by decide +kernel) (by decide +kernel)
set_option maxRecDepth 20000 in
theorem ggL_act_X4_idle_c2 : GoodIn wsL_act wsX4_idle_r2 := goodIn_r _ [72, 73, 74, 75, 76, 16, 77, 28, 23, 78, 79, 18, 80, 81, 82, 83, 84, 85, 86, 87, 88, 89, 90, 91] (by decide +kernel) (by decide +kernel)
set_option maxRecDepth 20000 in
theorem ggL_act_X4_idle_c3 : GoodIn wsL_act wsX4_idle_r3 := goodIn_r _ [92, 93, 94, 95, 96, 97, 7, 98, 99, 100, 101, 102, 103, 24, 25, 26, 27, 104, 105, 106, 107, 108, 109, 110] (by decide +kernel) (by decide +kernel)
set_option maxRecDepth 20000 in
theorem ggL_act_X4_idle_c4 : GoodIn wsL_act wsX4_idle_r4 := goodIn_r _ [111, 112, 113, 114, 115, 116, 117, 118, 119, 120, 121, 122, 123, 124, 126, 127, 128, 129, 130, 131, 132, 133, 134, 135] (by decide +kernel) (by decide +kernel)
set_option maxRecDepth 20000 in
theorem ggL_act_X4_idle_c5 : GoodIn wsL_act wsX4_idle_r5 := goodIn_r _ [136, 137, 138, 139, 140, 141, 142, 143, 144, 145, 146, 147, 148, 149, 150, 151, 152, 153, 154, 155, 156, 157, 158, 159] (by decide +kernel) (by decide +kernel)
set_option maxRecDepth 20000 in
theorem ggL_act_X4_idle_c6 : GoodIn wsL_act wsX4_idle_r6 := goodIn_r _ [160, 161, 162, 163, 46, 164, 165, 166, 167, 168, 169, 170, 171, 172, 173, 174, 175, 176, 177, 178, 179, 180, 181, 182] (by decide +kernel) (by decide +kernel)
set_option maxRecDepth 20000 in
theorem ggL_act_X4_idle_c7 : GoodIn wsL_act wsX4_idle_r7 := goodIn_r _ [183, 184, 185, 186, 187, 188, 189, 190, 191, 192, 193, 194, 195, 196, 197, 198, 199, 200, 201, 202, 203, 204, 205, 206] (by decide +kernel) (by decide +kernel)
set_option maxRecDepth 20000 in
theorem ggL_act_X4_idle_wsX40 : GoodIn wsL_act wsX40 := goodIn_r _ [327, 328, 329, 330, 331, 332, 333, 334, 335] (by decide +kernel) (by decide +kernel)
set_option maxRecDepth 20000 in
theorem ggL_act_X4_idle_wsX20 : GoodIn wsL_act wsX20 := goodIn_r _ [336, 337, 338, 339] (by decide +kernel) (by decide +kernel)
set_option maxRecDepth 20000 in
theorem ggL_act_X4_idle_wsX30 : GoodIn wsL_act wsX30 := goodIn_r _ [340, 341, 342, 343] (by decide +kernel) (by decide +kernel)
set_option maxRecDepth 20000 in
theorem ggL_act_X4_idle_wsX10 : GoodIn wsL_act wsX10 := goodIn_r _ [344, 345, 346, 347, 348, 349, 350] (by decide +kernel) (by decide +kernel)
set_option maxRecDepth 20000 in
theorem ggL_act_X4_idle : GoodIn wsL_act wsX4_idle := goodIn_cons1 ggL_act_X4_idle_c0 (goodIn_app (goodIn_app (goodIn_app (goodIn_app (goodIn_app ggL_act_X4_idle_c1 (goodIn_app ggL_act_X4_idle_c2 (goodIn_app ggL_act_X4_idle_c3 (goodIn_app ggL_act_X4_idle_c4 (goodIn_app ggL_act_X4_idle_c5 (goodIn_app ggL_act_X4_idle_c6 (ggL_act_X4_idle_c7))))))) ggL_act_X4_idle_wsX40) ggL_act_X4_idle_wsX20) ggL_act_X4_idle_wsX30) ggL_act_X4_idle_wsX10)
set_option maxRecDepth 20000 in
theorem gL_act_X4_idle : GoodIn wsL_act (wsV RL 126 RX4 yX4_idle wsX4_idle) := goodIn_app (goodIn_of _ (by decide +kernel)) ggL_act_X4_idle
set_option maxRecDepth 20000 in
theorem ggL_act_X4_rebuild_c0 : GoodIn wsL_act [.code yX4_rebuild cX4_rebuild 3 (some .int)] := goodIn_r _ [310] (by decide +kernel) (by decide +kernel)
set_option maxRecDepth 20000 in
theorem ggL_act_X4_rebuild_c1 : GoodIn wsL_act wsX4_rebuild_r1 := goodIn_r _ [6, 98, 215, 220, 120, 99, 288, 289, 4, 290, 11, 12, 311, 312, 313, 83, 314, 89, 87, 86, 315, 316, 317, 318] (by decide +kernel) (by decide +kernel)
set_option maxRecDepth 20000 in
theorem ggL_act_X4_rebuild_c2 : GoodIn wsL_act wsX4_rebuild_r2 := goodIn_r _ [90, 319, 320, 321, 322, 158, 7, 188, 189, 190, 191, 16, 192, 28, 23, 18, 323, 324, 325, 326, 193, 169, 170, 171] (by decide +kernel) (by decide +kernel)
set_option maxRecDepth 20000 in
theorem ggL_act_X4_rebuild_c3 : GoodIn wsL_act wsX4_rebuild_r3 := goodIn_r _ [172, 173, 174, 175] (by decide +kernel) (by decide +kernel)
set_option maxRecDepth 20000 in
theorem ggL_act_X4_rebuild_wsX40 : GoodIn wsL_act wsX40 := goodIn_r _ [327, 328, 329, 330, 331, 332, 333, 334, 335] (by decide +kernel) (by decide +kernel)
set_option maxRecDepth 20000 in
theorem ggL_act_X4_rebuild_wsX20 : GoodIn wsL_act wsX20 := goodIn_r _ [336, 337, 338, 339] (by decide +kernel) (by decide +kernel)
set_option maxRecDepth 20000 in
theorem ggL_act_X4_rebuild_wsX10 : GoodIn wsL_act wsX10 := goodIn_r _ [344, 345, 346, 347, 348, 349, 350] (by decide +kernel) (by decide +kernel)
set_option maxRecDepth 20000 in
theorem ggL_act_X4_rebuild_wsX30 : GoodIn wsL_act wsX30 := goodIn_r _ [340, 341, 342, 343] (by decide +kernel) (by decide +kernel)
set_option maxRecDepth 20000 in
theorem ggL_act_X4_rebuild : GoodIn wsL_act wsX4_rebuild := goodIn_ca (goodIn_cons1 ggL_act_X4_rebuild_c0 (goodIn_app (goodIn_app (goodIn_app (goodIn_app (goodIn_app ggL_act_X4_rebuild_c1 (goodIn_app ggL_act_X4_rebuild_c2 (ggL_act_X4_rebuild_c3))) ggL_act_X4_rebuild_wsX40) ggL_act_X4_rebuild_wsX20) ggL_act_X4_rebuild_wsX10) ggL_act_X4_rebuild_wsX30)) (goodIn_sub (fun _ h => List.mem_cons_of_mem _ (List.mem_append_left _ (List.mem_append_left _ (List.mem_append_right _ h)))) (by decide +kernel))
set_option maxRecDepth 20000 in
theorem gL_act_X4_rebuild : GoodIn wsL_act (wsV RL 74 RX4 yX4_rebuild wsX4_rebuild) := goodIn_app (goodIn_of _ (by decide +kernel)) ggL_act_X4_rebuild
