set_option maxRecDepth 20000 in
theorem ggL_act_X4_contains : GoodIn wsL_act wsX4_contains := goodIn_ca (goodIn_r _ [5, 6, 7, 8, 9, 4, 10, 11, 12, 13, 14, 15, 16, 17, 18, 19, 20, 21, 22, 23, 24, 25, 26, 27, 28, 327, 328, 329, 330, 331, 332, 333, 334, 335, 336, 337, 338, 339, 340, 341, 342, 343] (by decide +kernel) (by decide +kernel)) (goodIn_sub (fun _ h => List.mem_cons_of_mem _ (List.mem_append_left _ (List.mem_append_left _ (List.mem_append_right _ h)))) (by decide +kernel))
set_option maxRecDepth 20000 in
theorem gL_act_X4_contains : GoodIn wsL_act (wsV RL 44 RX4 yX4_contains wsX4_contains) := goodIn_app (goodIn_of _ (by decide +kernel)) ggL_act_X4_contains
set_option maxRecDepth 20000 in
theorem ggL_act_L_call_c0 : GoodIn wsL_act [.codeWith yL_call cL_call 5 (some .int) [(0, 158, 159, 51), (0, 158, 164, 53), (0, 158, 169, 55)]] := goodIn_r _ [32] (by decide +kernel) (by decide +kernel)
set_option maxRecDepth 20000 in
theorem ggL_act_L_call_c1 : GoodIn wsL_act wsL_call_r1 := goodIn_r _ [33, 34, 35, 36, 37, 38, 4, 39, 40, 41, 8, 9, 10, 11, 12, 42, 43, 44, 45, 6, 7, 46, 47, 48] (by decide +kernel) (by decide +kernel)
set_option maxRecDepth 20000 in
theorem ggL_act_L_call_c2 : GoodIn wsL_act wsL_call_r2 := goodIn_r _ [49, 16, 50, 19, 20, 21, 22, 23, 24, 25, 26, 27, 28, 51, 52, 53, 54, 55, 56, 57, 58, 59, 60, 61] (by decide +kernel) (by decide +kernel)
set_option maxRecDepth 20000 in
theorem ggL_act_L_call_c3 : GoodIn wsL_act wsL_call_r3 := goodIn_r _ [62, 63, 64, 65, 66, 67, 68, 69, 70, 71, 72, 73, 74, 75, 76, 77, 78, 79, 18, 80, 81, 82, 83, 84] (by decide +kernel) (by decide +kernel)
set_option maxRecDepth 20000 in
theorem ggL_act_L_call_c4 : GoodIn wsL_act wsL_call_r4 := goodIn_r _ [85, 86, 87, 88, 89, 90, 91, 92, 93, 94, 95, 96, 97, 98, 99, 100, 101, 102, 103, 104, 105, 106, 107, 108] (by decide +kernel) (by decide +kernel)
set_option maxRecDepth 20000 in
theorem ggL_act_L_call_c5 : GoodIn wsL_act wsL_call_r5 := goodIn_r _ [109, 110, 111, 112, 113, 114, 115, 116, 117, 118, 119, 120, 121, 122, 123, 124, 125, 126, 127, 128, 129, 130, 131, 132] (by decide +kernel) (by decide +kernel)
set_option maxRecDepth 20000 in
theorem ggL_act_L_call_c6 : GoodIn wsL_act wsL_call_r6 := goodIn_r _ [133, 134, 135, 136, 137, 138, 139, 140, 141, 142, 143, 144, 145, 146, 147, 148, 149, 150, 151, 152, 153, 154, 155, 156] (by decide +kernel) (by decide +kernel)
set_option maxRecDepth 20000 in
theorem ggL_act_L_call_c7 : GoodIn wsL_act wsL_call_r7 := goodIn_r _ [157, 158, 159, 160, 161, 162, 163, 164, 165, 166, 167, 168, 169, 170, 171, 172, 173, 174, 175, 176, 177, 178, 179, 180] (by decide +kernel) (by decide +kernel)
set_option maxRecDepth 20000 in
theorem ggL_act_L_call_c8 : GoodIn wsL_act wsL_call_r8 := goodIn_r _ [181, 182, 183, 184, 185, 186, 187, 188, 189, 190, 191, 192, 193, 194, 195, 196, 197, 198, 199, 200, 201, 202, 203, 204] (by decide +kernel) (by decide +kernel)
set_option maxRecDepth 20000 in
theorem ggL_act_L_call_c9 : GoodIn wsL_act wsL_call_r9 := goodIn_r _ [205, 206, 207, 208, 209, 210, 211, 212, 213, 214, 215, 216, 217, 218, 219, 220, 221, 222, 223, 224, 225, 226, 227, 228] (by decide +kernel) (by decide +kernel)
set_option maxRecDepth 20000 in
theorem ggL_act_L_call_c10 : GoodIn wsL_act wsL_call_r10 := goodIn_r _ [229, 230, 231, 232, 233, 234, 235, 236, 237, 238, 239, 240, 241, 242, 243, 244, 245, 246, 247, 248, 249, 250, 251, 252] (by decide +kernel) (by decide +kernel)
set_option maxRecDepth 20000 in
theorem ggL_act_L_call_c11 : GoodIn wsL_act wsL_call_r11 := goodIn_r _ [253, 254, 255, 256, 257, 258, 259, 260, 261, 262, 263, 264, 265, 266, 267, 268, 269, 270, 271, 272, 273, 274, 275, 276] (by decide +kernel) (by decide +kernel)
set_option maxRecDepth 20000 in
theorem ggL_act_L_call_c12 : GoodIn wsL_act wsL_call_r12 := goodIn_r _ [277, 278, 279, 280, 281, 282, 283, 1, 2, 3, 5, 13, 14, 15, 17, 284, 285, 286, 287, 288, 289, 290, 291, 292] (by decide +kernel) (by decide +kernel)
set_option maxRecDepth 20000 in
theorem ggL_act_L_call_c13 : GoodIn wsL_act wsL_call_r13 := goodIn_r _ [293, 294, 295, 296, 297, 298] (by decide +kernel) (by decide +kernel)
set_option maxRecDepth 20000 in
theorem ggL_act_L_call_wsX40 : GoodIn wsL_act wsX40 := goodIn_r _ [327, 328, 329, 330, 331, 332, 333, 334, 335] (by decide +kernel) (by decide +kernel)
set_option maxRecDepth 20000 in
theorem ggL_act_L_call_wsX20 : GoodIn wsL_act wsX20 := goodIn_r _ [336, 337, 338, 339] (by decide +kernel) (by decide +kernel)
set_option maxRecDepth 20000 in
theorem ggL_act_L_call_wsX30 : GoodIn wsL_act wsX30 := goodIn_r _ [340, 341, 342, 343] (by decide +kernel) (by decide +kernel)
set_option maxRecDepth 20000 in
theorem ggL_act_L_call_wsX10 : GoodIn wsL_act wsX10 := goodIn_r _ [344, 345, 346, 347, 348, 349, 350] (by decide +kernel) (by decide +kernel)
set_option maxRecDepth 20000 in
theorem ggL_act_L_call_wsX00 : GoodIn wsL_act wsX00 := goodIn_r _ [351, 352] (by decide +kernel) (by decide +kernel)
set_option maxRecDepth 20000 in
theorem ggL_act_L_call : GoodIn wsL_act wsL_call := goodIn_ca (goodIn_ca (goodIn_ca (goodIn_cons1 ggL_act_L_call_c0 (goodIn_app (goodIn_app (goodIn_app (goodIn_app (goodIn_app (goodIn_app ggL_act_L_call_c1 (goodIn_app ggL_act_L_call_c2 (goodIn_app ggL_act_L_call_c3 (goodIn_app ggL_act_L_call_c4 (goodIn_app ggL_act_L_call_c5 (goodIn_app ggL_act_L_call_c6 (goodIn_app ggL_act_L_call_c7 (goodIn_app ggL_act_L_call_c8 (goodIn_app ggL_act_L_call_c9 (goodIn_app ggL_act_L_call_c10 (goodIn_app ggL_act_L_call_c11 (goodIn_app ggL_act_L_call_c12 (ggL_act_L_call_c13))))))))))))) ggL_act_L_call_wsX40) ggL_act_L_call_wsX20) ggL_act_L_call_wsX30) ggL_act_L_call_wsX10) ggL_act_L_call_wsX00)) (goodIn_sub (fun _ h => List.mem_cons_of_mem _ (List.mem_append_left _ (List.mem_append_right _ h))) (by decide +kernel))) (goodIn_sub (fun _ h => List.mem_cons_of_mem _ (List.mem_append_left _ (List.mem_append_left _ (List.mem_append_right _ h)))) (by decide +kernel))) (goodIn_sub (fun _ h => List.mem_cons_of_mem _ (List.mem_append_right _ h)) (by decide +kernel))
set_option maxRecDepth 20000 in
theorem gL_act_L_call : GoodIn wsL_act (va_wsS RL 99 yL_call wsL_call) := goodIn_app (goodIn_of _ (by decide +kernel)) ggL_act_L_call
set_option maxRecDepth 20000 in
theorem ggL_act_X4_count : GoodIn wsL_act wsX4_count := goodIn_ca (goodIn_r _ [302, 6, 125, 55, 236, 237, 288, 289, 4, 290, 11, 12, 327, 328, 329, 330, 331, 332, 333, 334, 335, 336, 337, 338, 339, 351, 352] (by decide +kernel) (by decide +kernel)) (goodIn_sub (fun _ h => List.mem_cons_of_mem _ (List.mem_append_left _ (List.mem_append_left _ (List.mem_append_right _ h)))) (by decide +kernel))
set_option maxRecDepth 20000 in
theorem gL_act_X4_count : GoodIn wsL_act (wsV RL 80 RX4 yX4_count wsX4_count) := goodIn_app (goodIn_of _ (by decide +kernel)) ggL_act_X4_count
set_option maxRecDepth 20000 in
theorem ggL_act_X4_idle_c0 : GoodIn wsL_act [.code yX4_idle cX4_idle 1 (some .int)] := goodIn_r _ [306] (by decide +kernel) (by decide +kernel)
set_option maxRecDepth 20000 in
theorem ggL_act_X4_idle_c1 : GoodIn wsL_act wsX4_idle_r1 := goodIn_r _ [6, 125, 51, 52, 53, 4, 54, 55, 56, 57, 58, 59, 60, 61, 62, 63, 64, 65, 66, 67, 68, 69, 70, 71] (by decide +kernel) (by decide +kernel)
set_option maxRecDepth 20000 in
theorem ggL_act_X4_idle_c2 : GoodIn wsL_act wsX4_idle_r2 := goodIn_r _ [72, 73, 74, 75, 76, 16, 77, 28, 23, 78, 79, 18, 80, 81, 82, 83, 84, 85, 86, 87, 88, 89, 90, 91] (by decide +kernel) (by decide +kernel)
set_option maxRecDepth 20000 in
theorem ggL_act_X4_idle_c3 : GoodIn wsL_act wsX4_idle_r3 := goodIn_r _ [92, 93, 94, 95, 96, 97, 7, 98, 99, 100, 101, 102, 103, 24, 25, 26, 27, 104, 105, 106, 107, 108, 109, 110] (by decide +kernel) (by decide +kernel)
set_option maxRecDepth 20000 in
theorem ggL_act_X4_idle_c4 : GoodIn wsL_act wsX4_idle_r4 := goodIn_r _ [111, 112, 113, 114, 115, 116, 117, 118, 119, 120, 121, 122, 123, 124, 126, 127, 128, 129, 130, 131, 132, 133, 134, 135] (by decide +kernel) (by decide +kernel)
set_option maxRecDepth 20000 in
theorem ggL_act_X4_idle_c5 : GoodIn wsL_act wsX4_idle_r5 := goodIn_r _ [136, 137, 138, 139, 140, 141, 142, 143, 144, 145, 146, 147, 148, 149, 150, 151, 152, 153, 154, 155, 156, 157, 158, 159] (by decide +kernel) (by decide +kernel)
set_option maxRecDepth 20000 in
theorem ggL_act_X4_idle_c6 : GoodIn wsL_act wsX4_idle_r6 := goodIn_r _ [160, 161, 162, 163, 46, 164, 165, 166, 167, 168, 169, 170, 171, 172, 173, 174, 175, 176, 177, 178, 179, 180, 181, 182] (by decide +kernel) (by decide +kernel)
set_option maxRecDepth 20000 in
theorem ggL_act_X4_idle_c7 : GoodIn wsL_act wsX4_idle_r7 := goodIn_r _ [183, 184, 185, 186, 187, 188, 189, 190, 191, 192, 193, 194, 195, 196, 197, 198, 199, 200, 201, 202, 203, 204, 205, 206] (by decide +kernel) (by decide +kernel)
set_option maxRecDepth 20000 in
theorem ggL_act_X4_idle_wsX40 : GoodIn wsL_act wsX40 := goodIn_r _ [327, 328, 329, 330, 331, 332, 333, 334, 335] (by decide +kernel) (by decide +kernel)
set_option maxRecDepth 20000 in
theorem ggL_act_X4_idle_wsX20 : GoodIn wsL_act wsX20 := goodIn_r _ [336, 337, 338, 339] (by decide +kernel) (by decide +kernel)
set_option maxRecDepth 20000 in
theorem ggL_act_X4_idle_wsX30 : GoodIn wsL_act wsX30 := goodIn_r _ [340, 341, 342, 343] (by decide +kernel) (by decide +kernel)
set_option maxRecDepth 20000 in
theorem ggL_act_X4_idle_wsX10 : GoodIn wsL_act wsX10 := goodIn_r _ [344, 345, 346, 347, 348, 349, 350] (by decide +kernel) (by decide +kernel)
set_option maxRecDepth 20000 in
theorem ggL_act_X4_idle : GoodIn wsL_act wsX4_idle := goodIn_cons1 ggL_act_X4_idle_c0 (goodIn_app (goodIn_app (goodIn_app (goodIn_app (goodIn_app ggL_act_X4_idle_c1 (goodIn_app ggL_act_X4_idle_c2 (goodIn_app ggL_act_X4_idle_c3 (goodIn_app ggL_act_X4_idle_c4 (goodIn_app ggL_act_X4_idle_c5 (goodIn_app ggL_act_X4_idle_c6 (ggL_act_X4_idle_c7))))))) ggL_act_X4_idle_wsX40) ggL_act_X4_idle_wsX20) ggL_act_X4_idle_wsX30) ggL_act_X4_idle_wsX10)
set_option maxRecDepth 20000 in
theorem gL_act_X4_idle : GoodIn wsL_act (wsV RL 126 RX4 yX4_idle wsX4_idle) := goodIn_app (goodIn_of _ (by decide +kernel)) ggL_act_X4_idle
set_option maxRecDepth 20000 in
theorem ggL_act_X4_rebuild_c0 : GoodIn wsL_act [.code yX4_rebuild cX4_rebuild 3 (some .int)] := goodIn_r _ [310] (by decide +kernel) (by decide +kernel)
set_option maxRecDepth 20000 in
theorem ggL_act_X4_rebuild_c1 : GoodIn wsL_act wsX4_rebuild_r1 := goodIn_r _ [6, 98, 215, 220, 120, 99, 288, 289, 4, 290, 11, 12, 311, 312, 313, 83, 314, 89, 87, 86, 315, 316, 317, 318] (by decide +kernel) (by decide +kernel)
set_option maxRecDepth 20000 in
theorem ggL_act_X4_rebuild_c2 : GoodIn wsL_act wsX4_rebuild_r2 := goodIn_r _ [90, 319, 320, 321, 322, 158, 7, 188, 189, 190, 191, 16, 192, 28, 23, 18, 323, 324, 325, 326, 193, 169, 170, 171] (by decide +kernel) (by decide +kernel)
set_option maxRecDepth 20000 in
theorem ggL_act_X4_rebuild_c3 : GoodIn wsL_act wsX4_rebuild_r3 := goodIn_r _ [172, 173, 174, 175] (by decide +kernel) (by decide +kernel)
set_option maxRecDepth 20000 in
theorem ggL_act_X4_rebuild_wsX40 : GoodIn wsL_act wsX40 := goodIn_r _ [327, 328, 329, 330, 331, 332, 333, 334, 335] (by decide +kernel) (by decide +kernel)
set_option maxRecDepth 20000 in
theorem ggL_act_X4_rebuild_wsX20 : GoodIn wsL_act wsX20 := goodIn_r _ [336, 337, 338, 339] (by decide +kernel) (by decide +kernel)
set_option maxRecDepth 20000 in
theorem ggL_act_X4_rebuild_wsX10 : GoodIn wsL_act wsX10 := goodIn_r _ [344, 345, 346, 347, 348, 349, 350] (by decide +kernel) (by decide +kernel)
set_option maxRecDepth 20000 in
theorem ggL_act_X4_rebuild_wsX30 : GoodIn wsL_act wsX30 := goodIn_r _ [340, 341, 342, 343] (by decide +kernel) (by decide +kernel)
set_option maxRecDepth 20000 in
theorem ggL_act_X4_rebuild : GoodIn wsL_act wsX4_rebuild := goodIn_ca (goodIn_cons1 ggL_act_X4_rebuild_c0 (goodIn_app (goodIn_app (goodIn_app (goodIn_app (goodIn_app ggL_act_X4_rebuild_c1 (goodIn_app ggL_act_X4_rebuild_c2 (ggL_act_X4_rebuild_c3))) ggL_act_X4_rebuild_wsX40) ggL_act_X4_rebuild_wsX20) ggL_act_X4_rebuild_wsX10) ggL_act_X4_rebuild_wsX30)) (goodIn_sub (fun _ h => List.mem_cons_of_mem _ (List.mem_append_left _ (List.mem_append_left _ (List.mem_append_right _ h)))) (by decide +kernel))
set_option maxRecDepth 20000 in
theorem gL_act_X4_rebuild : GoodIn wsL_act (wsV RL 74 RX4 yX4_rebuild wsX4_rebuild) := goodIn_app (goodIn_of _ (by decide +kernel)) ggL_act_X4_rebuild
set_option maxRecDepth 20000 in
theorem ggL_law_X4_init : GoodIn wsL_law wsX4_init := goodIn_r _ [5, 6, 7, 8, 9, 10, 11, 12, 13, 14, 15, 16, 17, 18, 19, 20, 21, 22, 23, 24, 25, 26, 27, 28, 29, 30, 31, 32, 33, 34, 35, 36, 37, 38, 39, 40, 41, 42, 43, 44, 45, 46, 47, 48, 49, 50, 51, 52, 53, 54, 55, 56, 57, 58, 59, 60, 61, 62, 499, 500, 501, 502, 490, 491, 492, 493, 494, 495, 496, 497, 498, 503, 504, 505, 506, 507, 508, 509, 510, 511, 512, 513, 514, 515] (by decide +kernel) (by decide +kernel)
set_option maxRecDepth 20000 in
theorem gL_law_X4_init : GoodIn wsL_law (wsX4_init) := ggL_law_X4_init
set_option maxRecDepth 20000 in
theorem ggL_law_L_call_c0 : GoodIn wsL_law [.codeWith yL_call cL_call 5 (some .int) [(0, 158, 159, 51), (0, 158, 164, 53), (0, 158, 169, 55)]] := goodIn_r _ [66] (by decide +kernel) (by decide +kernel)
set_option maxRecDepth 20000 in
theorem ggL_law_L_call_c1 : GoodIn wsL_law wsL_call_r1 := goodIn_r _ [67, 68, 69, 70, 71, 72, 2, 73, 74, 75, 76, 77, 78, 79, 80, 81, 82, 83, 84, 12, 85, 86, 87, 88] (by decide +kernel) (by decide +kernel)
set_option maxRecDepth 20000 in
theorem ggL_law_L_call_c2 : GoodIn wsL_law wsL_call_r2 := goodIn_r _ [89, 33, 90, 91, 92, 93, 94, 48, 95, 96, 97, 98, 99, 100, 101, 102, 103, 104, 13, 105, 106, 107, 108, 109] (by decide +kernel) (by decide +kernel)
set_option maxRecDepth 20000 in
theorem ggL_law_L_call_c3 : GoodIn wsL_law wsL_call_r3 := goodIn_r _ [110, 111, 11, 112, 34, 36, 43, 113, 114, 115, 116, 44, 117, 118, 119, 120, 121, 49, 50, 122, 123, 124, 26, 125] (by decide +kernel) (by decide +kernel)
set_option maxRecDepth 20000 in
theorem ggL_law_L_call_c4 : GoodIn wsL_law wsL_call_r4 := goodIn_r _ [55, 126, 127, 128, 129, 56, 130, 57, 131, 132, 133, 134, 135, 136, 137, 138, 139, 140, 141, 142, 143, 144, 145, 146] (by decide +kernel) (by decide +kernel)
set_option maxRecDepth 20000 in
theorem ggL_law_L_call_c5 : GoodIn wsL_law wsL_call_r5 := goodIn_r _ [147, 148, 149, 150, 151, 152, 153, 154, 155, 156, 157, 158, 159, 160, 161, 162, 163, 164, 165, 166, 167, 168, 169, 170] (by decide +kernel) (by decide +kernel)
set_option maxRecDepth 20000 in
theorem ggL_law_L_call_c6 : GoodIn wsL_law wsL_call_r6 := goodIn_r _ [171, 172, 173, 174, 175, 176, 177, 178, 179, 180, 181, 182, 183, 184, 185, 186, 187, 188, 189, 190, 191, 192, 193, 194] (by decide +kernel) (by decide +kernel)
set_option maxRecDepth 20000 in
theorem ggL_law_L_call_c7 : GoodIn wsL_law wsL_call_r7 := goodIn_r _ [195, 196, 197, 198, 199, 200, 201, 202, 203, 204, 205, 206, 207, 208, 209, 210, 211, 212, 213, 214, 215, 216, 217, 218] (by decide +kernel) (by decide +kernel)
set_option maxRecDepth 20000 in
theorem ggL_law_L_call_c8 : GoodIn wsL_law wsL_call_r8 := goodIn_r _ [219, 220, 221, 222, 223, 224, 225, 23, 226, 227, 228, 229, 230, 231, 232, 233, 234, 235, 236, 237, 238, 239, 240, 241] (by decide +kernel) (by decide +kernel)
set_option maxRecDepth 20000 in
theorem ggL_law_L_call_c9 : GoodIn wsL_law wsL_call_r9 := goodIn_r _ [242, 243, 244, 245, 246, 247, 248, 249, 250, 251, 252, 253, 254, 255, 256, 257, 258, 259, 260, 261, 262, 263, 264, 265] (by decide +kernel) (by decide +kernel)
set_option maxRecDepth 20000 in
theorem ggL_law_L_call_c10 : GoodIn wsL_law wsL_call_r10 := goodIn_r _ [266, 267, 268, 269, 270, 271, 272, 20, 273, 274, 275, 276, 19, 277, 278, 62, 279, 280, 281, 282, 22, 283, 284, 285] (by decide +kernel) (by decide +kernel)
set_option maxRecDepth 20000 in
theorem ggL_law_L_call_c11 : GoodIn wsL_law wsL_call_r11 := goodIn_r _ [286, 287, 288, 289, 290, 291, 292, 293, 294, 295, 296, 297, 298, 299, 300, 301, 302, 303, 304, 305, 306, 307, 14, 16] (by decide +kernel) (by decide +kernel)
set_option maxRecDepth 20000 in
theorem ggL_law_L_call_c12 : GoodIn wsL_law wsL_call_r12 := goodIn_r _ [308, 309, 310, 311, 312, 313, 314, 315, 316, 317, 318, 319, 320, 321, 322, 323, 324, 325, 326, 327, 328, 329, 330, 331] (by decide +kernel) (by decide +kernel)
set_option maxRecDepth 20000 in
theorem ggL_law_L_call_c13 : GoodIn wsL_law wsL_call_r13 := goodIn_r _ [332, 333, 334, 335, 336, 337] (by decide +kernel) (by decide +kernel)
set_option maxRecDepth 20000 in
theorem ggL_law_L_call_wsX40 : GoodIn wsL_law wsX40 := goodIn_r _ [490, 491, 492, 493, 494, 495, 496, 497, 498] (by decide +kernel) (by decide +kernel)
set_option maxRecDepth 20000 in
theorem ggL_law_L_call_wsX20 : GoodIn wsL_law wsX20 := goodIn_r _ [499, 500, 501, 502] (by decide +kernel) (by decide +kernel)
set_option maxRecDepth 20000 in
theorem ggL_law_L_call_wsX30 : GoodIn wsL_law wsX30 := goodIn_r _ [512, 513, 514, 515] (by decide +kernel) (by decide +kernel)
set_option maxRecDepth 20000 in
theorem ggL_law_L_call_wsX10 : GoodIn wsL_law wsX10 := goodIn_r _ [505, 506, 507, 508, 509, 510, 511] (by decide +kernel) (by decide +kernel)
set_option maxRecDepth 20000 in
theorem ggL_law_L_call_wsX00 : GoodIn wsL_law wsX00 := goodIn_r _ [503, 504] (by decide +kernel) (by decide +kernel)
set_option maxRecDepth 20000 in
theorem ggL_law_L_call : GoodIn wsL_law wsL_call := goodIn_ca (goodIn_ca (goodIn_ca (goodIn_cons1 ggL_law_L_call_c0 (goodIn_app (goodIn_app (goodIn_app (goodIn_app (goodIn_app (goodIn_app ggL_law_L_call_c1 (goodIn_app ggL_law_L_call_c2 (goodIn_app ggL_law_L_call_c3 (goodIn_app ggL_law_L_call_c4 (goodIn_app ggL_law_L_call_c5 (goodIn_app ggL_law_L_call_c6 (goodIn_app ggL_law_L_call_c7 (goodIn_app ggL_law_L_call_c8 (goodIn_app ggL_law_L_call_c9 (goodIn_app ggL_law_L_call_c10 (goodIn_app ggL_law_L_call_c11 (goodIn_app ggL_law_L_call_c12 (ggL_law_L_call_c13))))))))))))) ggL_law_L_call_wsX40) ggL_law_L_call_wsX20) ggL_law_L_call_wsX30) ggL_law_L_call_wsX10) ggL_law_L_call_wsX00)) (goodIn_sub (fun _ h => List.mem_append_left _ (List.mem_append_left _ (List.mem_append_right _ h))) (by decide +kernel))) (goodIn_sub (fun _ h => List.mem_append_left _ (List.mem_append_right _ h)) (by decide +kernel))) (goodIn_sub (fun _ h => List.mem_append_right _ h) (by decide +kernel))
set_option maxRecDepth 20000 in
theorem gL_law_L_call : GoodIn wsL_law (va_wsS RL 99 yL_call wsL_call) := goodIn_app (goodIn_of _ (by decide +kernel)) ggL_law_L_call
set_option maxRecDepth 20000 in
theorem ggL_law_X4_setting : GoodIn wsL_law wsX4_setting := goodIn_ca (goodIn_r _ [341, 12, 177, 264, 265, 2, 266, 267, 268, 490, 491, 492, 493, 494, 495, 496, 497, 498, 499, 500, 501, 502] (by decide +kernel) (by decide +kernel)) (goodIn_sub (fun _ h => List.mem_append_right _ h) (by decide +kernel))
set_option maxRecDepth 20000 in
theorem gL_law_X4_setting : GoodIn wsL_law (wsV RL 83 RX4 yX4_setting wsX4_setting) := goodIn_app (goodIn_of _ (by decide +kernel)) ggL_law_X4_setting
set_option maxRecDepth 20000 in
theorem ggL_law_L_refuses_c0 : GoodIn wsL_law [.code yL_refuses cL_refuses 5 (some .boolean)] := goodIn_r _ [344] (by decide +kernel) (by decide +kernel)
set_option maxRecDepth 20000 in
theorem ggL_law_L_refuses_c1 : GoodIn wsL_law wsL_refuses_r1 := goodIn_r _ [345, 346, 65, 347, 348, 349, 350, 351, 352, 2, 353, 12, 163, 104, 20, 273, 327, 328, 329, 79, 80, 354, 355, 356] (by decide +kernel) (by decide +kernel)
set_option maxRecDepth 20000 in
theorem ggL_law_L_refuses_c2 : GoodIn wsL_law wsL_refuses_r2 := goodIn_r _ [357, 86, 358, 359, 360, 361, 136, 196, 85, 230, 207, 208, 33, 209, 99, 210, 211, 212, 213, 50, 202, 203, 204, 205] (by decide +kernel) (by decide +kernel)
set_option maxRecDepth 20000 in
theorem ggL_law_L_refuses_c3 : GoodIn wsL_law wsL_refuses_r3 := goodIn_r _ [206, 214, 215, 216, 217, 49, 218, 219, 220, 221, 362, 363, 364, 365, 366, 367, 368, 369, 150, 151, 152, 153, 370, 371] (by decide +kernel) (by decide +kernel)
set_option maxRecDepth 20000 in
theorem ggL_law_L_refuses_c4 : GoodIn wsL_law wsL_refuses_r4 := goodIn_r _ [372, 373, 374, 375, 376, 252, 257, 158, 137, 377, 378, 379, 26, 380, 129, 127, 126, 381, 382, 383, 384, 56, 385, 386] (by decide +kernel) (by decide +kernel)
set_option maxRecDepth 20000 in
theorem ggL_law_L_refuses_c5 : GoodIn wsL_law wsL_refuses_r5 := goodIn_r _ [387, 388, 23, 226, 227, 228, 229, 48, 389, 390, 391, 392, 393, 394, 395, 396, 397, 398, 399, 400, 401, 402, 403, 404] (by decide +kernel) (by decide +kernel)
set_option maxRecDepth 20000 in
theorem ggL_law_L_refuses_c6 : GoodIn wsL_law wsL_refuses_r6 := goodIn_r _ [405, 338, 339, 340, 341, 177, 264, 265, 266, 267, 268, 406, 407, 408, 63, 64, 66, 67, 68, 69, 70, 71, 72, 73] (by decide +kernel) (by decide +kernel)
set_option maxRecDepth 20000 in
theorem ggL_law_L_refuses_c7 : GoodIn wsL_law wsL_refuses_r7 := goodIn_r _ [74, 75, 76, 77, 78, 81, 82, 83, 84, 87, 88, 89, 90, 91, 92, 93, 94, 95, 96, 97, 98, 100, 101, 102] (by decide +kernel) (by decide +kernel)
set_option maxRecDepth 20000 in
theorem ggL_law_L_refuses_c8 : GoodIn wsL_law wsL_refuses_r8 := goodIn_r _ [103, 13, 105, 106, 107, 108, 109, 110, 111, 11, 112, 34, 36, 43, 113, 114, 115, 116, 44, 117, 118, 119, 120, 121] (by decide +kernel) (by decide +kernel)
set_option maxRecDepth 20000 in
theorem ggL_law_L_refuses_c9 : GoodIn wsL_law wsL_refuses_r9 := goodIn_r _ [122, 123, 124, 125, 55, 128, 130, 57, 131, 132, 133, 134, 135, 138, 139, 140, 141, 142, 143, 144, 145, 146, 147, 148] (by decide +kernel) (by decide +kernel)
set_option maxRecDepth 20000 in
theorem ggL_law_L_refuses_c10 : GoodIn wsL_law wsL_refuses_r10 := goodIn_r _ [149, 154, 155, 156, 157, 159, 160, 161, 162, 164, 165, 166, 167, 168, 169, 170, 171, 172, 173, 174, 175, 176, 178, 179] (by decide +kernel) (by decide +kernel)
set_option maxRecDepth 20000 in
theorem ggL_law_L_refuses_c11 : GoodIn wsL_law wsL_refuses_r11 := goodIn_r _ [180, 181, 182, 183, 184, 185, 186, 187, 188, 189, 190, 191, 192, 193, 194, 195, 197, 198, 199, 200, 201, 222, 223, 224] (by decide +kernel) (by decide +kernel)
set_option maxRecDepth 20000 in
theorem ggL_law_L_refuses_c12 : GoodIn wsL_law wsL_refuses_r12 := goodIn_r _ [225, 231, 232, 233, 234, 235, 236, 237, 238, 239, 240, 241, 242, 243, 244, 245, 246, 247, 248, 249, 250, 251, 253, 254] (by decide +kernel) (by decide +kernel)
set_option maxRecDepth 20000 in
theorem ggL_law_L_refuses_c13 : GoodIn wsL_law wsL_refuses_r13 := goodIn_r _ [255, 256, 258, 259, 260, 261, 262, 263, 269, 270, 271, 272, 274, 275, 276, 19, 277, 278, 62, 279, 280, 281, 282, 22] (by decide +kernel) (by decide +kernel)
set_option maxRecDepth 20000 in
theorem ggL_law_L_refuses_c14 : GoodIn wsL_law wsL_refuses_r14 := goodIn_r _ [283, 284, 285, 286, 287, 288, 289, 290, 291, 292, 293, 294, 295, 296, 297, 298, 299, 300, 301, 302, 303, 304, 305, 306] (by decide +kernel) (by decide +kernel)
set_option maxRecDepth 20000 in
theorem ggL_law_L_refuses_c15 : GoodIn wsL_law wsL_refuses_r15 := goodIn_r _ [307, 14, 16, 308, 309, 310, 311, 312, 313, 314, 315, 316, 317, 318, 319, 320, 321, 322, 323, 324, 325, 326, 330, 331] (by decide +kernel) (by decide +kernel)
set_option maxRecDepth 20000 in
theorem ggL_law_L_refuses_c16 : GoodIn wsL_law wsL_refuses_r16 := goodIn_r _ [332, 333, 334, 335, 336, 337, 409, 410, 411, 412, 413, 414, 415, 416, 417, 418, 419, 420, 421, 422, 423, 424, 425, 426] (by decide +kernel) (by decide +kernel)
set_option maxRecDepth 20000 in
theorem ggL_law_L_refuses_c17 : GoodIn wsL_law wsL_refuses_r17 := goodIn_r _ [427, 428, 429, 430, 431, 432, 433, 434, 435, 436, 437, 438, 439, 440, 441, 442, 443, 444, 445, 446, 447, 448, 449, 450] (by decide +kernel) (by decide +kernel)
set_option maxRecDepth 20000 in
theorem ggL_law_L_refuses_c18 : GoodIn wsL_law wsL_refuses_r18 := goodIn_r _ [451, 27, 452, 453, 454, 455, 456, 457] (by decide +kernel) (by decide +kernel)
set_option maxRecDepth 20000 in
theorem ggL_law_L_refuses_wsX40 : GoodIn wsL_law wsX40 := goodIn_r _ [490, 491, 492, 493, 494, 495, 496, 497, 498] (by decide +kernel) (by decide +kernel)
set_option maxRecDepth 20000 in
theorem ggL_law_L_refuses_wsX20 : GoodIn wsL_law wsX20 := goodIn_r _ [499, 500, 501, 502] (by decide +kernel) (by decide +kernel)
set_option maxRecDepth 20000 in
theorem ggL_law_L_refuses_wsX00 : GoodIn wsL_law wsX00 := goodIn_r _ [503, 504] (by decide +kernel) (by decide +kernel)
set_option maxRecDepth 20000 in
theorem ggL_law_L_refuses_wsX30 : GoodIn wsL_law wsX30 := goodIn_r _ [512, 513, 514, 515] (by decide +kernel) (by decide +kernel)
set_option maxRecDepth 20000 in
theorem ggL_law_L_refuses_wsX10 : GoodIn wsL_law wsX10 := goodIn_r _ [505, 506, 507, 508, 509, 510, 511] (by decide +kernel) (by decide +kernel)
set_option maxRecDepth 20000 in
theorem ggL_law_L_refuses : GoodIn wsL_law wsL_refuses := goodIn_ca (goodIn_ca (goodIn_ca (goodIn_cons1 ggL_law_L_refuses_c0 (goodIn_app (goodIn_app (goodIn_app (goodIn_app (goodIn_app (goodIn_app ggL_law_L_refuses_c1 (goodIn_app ggL_law_L_refuses_c2 (goodIn_app ggL_law_L_refuses_c3 (goodIn_app ggL_law_L_refuses_c4 (goodIn_app ggL_law_L_refuses_c5 (goodIn_app ggL_law_L_refuses_c6 (goodIn_app ggL_law_L_refuses_c7 (goodIn_app ggL_law_L_refuses_c8 (goodIn_app ggL_law_L_refuses_c9 (goodIn_app ggL_law_L_refuses_c10 (goodIn_app ggL_law_L_refuses_c11 (goodIn_app ggL_law_L_refuses_c12 (goodIn_app ggL_law_L_refuses_c13 (goodIn_app ggL_law_L_refuses_c14 (goodIn_app ggL_law_L_refuses_c15 (goodIn_app ggL_law_L_refuses_c16 (goodIn_app ggL_law_L_refuses_c17 (ggL_law_L_refuses_c18)))))))))))))))))) ggL_law_L_refuses_wsX40) ggL_law_L_refuses_wsX20) ggL_law_L_refuses_wsX00) ggL_law_L_refuses_wsX30) ggL_law_L_refuses_wsX10)) (goodIn_sub (fun _ h => List.mem_append_left _ (List.mem_append_right _ h)) (by decide +kernel))) (goodIn_sub (fun _ h => List.mem_append_right _ h) (by decide +kernel))) (goodIn_sub (fun _ h => List.mem_append_left _ (List.mem_append_left _ (List.mem_append_right _ h))) (by decide +kernel))
set_option maxRecDepth 20000 in
theorem gL_law_L_refuses : GoodIn wsL_law (va_wsS RL 130 yL_refuses wsL_refuses) := goodIn_app (goodIn_of _ (by decide +kernel)) ggL_law_L_refuses
set_option maxRecDepth 20000 in
theorem ggL_law_L_cell : GoodIn wsL_law wsL_cell := goodIn_r _ [460, 461, 462] (by decide +kernel) (by decide +kernel)
set_option maxRecDepth 20000 in
theorem gL_law_L_cell : GoodIn wsL_law (va_wsS RL 133 yL_cell wsL_cell) := goodIn_app (goodIn_of _ (by decide +kernel)) ggL_law_L_cell
set_option maxRecDepth 20000 in
theorem ggL_law_L_isFull_c0 : GoodIn wsL_law [.code yL_isFull cL_isFull 6 (some .boolean)] := goodIn_r _ [465] (by decide +kernel) (by decide +kernel)
set_option maxRecDepth 20000 in
theorem ggL_law_L_isFull_c1 : GoodIn wsL_law wsL_isFull_r1 := goodIn_r _ [63, 64, 65, 66, 67, 68, 69, 70, 71, 72, 2, 73, 74, 75, 76, 77, 78, 79, 80, 81, 82, 83, 84, 12] (by decide +kernel) (by decide +kernel)
set_option maxRecDepth 20000 in
theorem ggL_law_L_isFull_c2 : GoodIn wsL_law wsL_isFull_r2 := goodIn_r _ [85, 86, 87, 88, 89, 33, 90, 91, 92, 93, 94, 48, 95, 96, 97, 98, 99, 100, 101, 102, 103, 104, 13, 105] (by decide +kernel) (by decide +kernel)
set_option maxRecDepth 20000 in
theorem ggL_law_L_isFull_c3 : GoodIn wsL_law wsL_isFull_r3 := goodIn_r _ [106, 107, 108, 109, 110, 111, 11, 112, 34, 36, 43, 113, 114, 115, 116, 44, 117, 118, 119, 120, 121, 49, 50, 122] (by decide +kernel) (by decide +kernel)
set_option maxRecDepth 20000 in
theorem ggL_law_L_isFull_c4 : GoodIn wsL_law wsL_isFull_r4 := goodIn_r _ [123, 124, 26, 125, 55, 126, 127, 128, 129, 56, 130, 57, 131, 132, 133, 134, 135, 136, 137, 138, 139, 140, 141, 142] (by decide +kernel) (by decide +kernel)
set_option maxRecDepth 20000 in
theorem ggL_law_L_isFull_c5 : GoodIn wsL_law wsL_isFull_r5 := goodIn_r _ [143, 144, 145, 146, 147, 148, 149, 150, 151, 152, 153, 154, 155, 156, 157, 158, 159, 160, 161, 162, 163, 164, 165, 166] (by decide +kernel) (by decide +kernel)
set_option maxRecDepth 20000 in
theorem ggL_law_L_isFull_c6 : GoodIn wsL_law wsL_isFull_r6 := goodIn_r _ [167, 168, 169, 170, 171, 172, 173, 174, 175, 176, 177, 178, 179, 180, 181, 182, 183, 184, 185, 186, 187, 188, 189, 190] (by decide +kernel) (by decide +kernel)
set_option maxRecDepth 20000 in
theorem ggL_law_L_isFull_c7 : GoodIn wsL_law wsL_isFull_r7 := goodIn_r _ [191, 192, 193, 194, 195, 196, 197, 198, 199, 200, 201, 202, 203, 204, 205, 206, 207, 208, 209, 210, 211, 212, 213, 214] (by decide +kernel) (by decide +kernel)
set_option maxRecDepth 20000 in
theorem ggL_law_L_isFull_c8 : GoodIn wsL_law wsL_isFull_r8 := goodIn_r _ [215, 216, 217, 218, 219, 220, 221, 222, 223, 224, 225, 23, 226, 227, 228, 229, 230, 231, 232, 233, 234, 235, 236, 237] (by decide +kernel) (by decide +kernel)
set_option maxRecDepth 20000 in
theorem ggL_law_L_isFull_c9 : GoodIn wsL_law wsL_isFull_r9 := goodIn_r _ [238, 239, 240, 241, 242, 243, 244, 245, 246, 247, 248, 249, 250, 251, 252, 253, 254, 255, 256, 257, 258, 259, 260, 261] (by decide +kernel) (by decide +kernel)
set_option maxRecDepth 20000 in
theorem ggL_law_L_isFull_c10 : GoodIn wsL_law wsL_isFull_r10 := goodIn_r _ [262, 263, 264, 265, 266, 267, 268, 269, 270, 271, 272, 20, 273, 274, 275, 276, 19, 277, 278, 62, 279, 280, 281, 282] (by decide +kernel) (by decide +kernel)
set_option maxRecDepth 20000 in
theorem ggL_law_L_isFull_c11 : GoodIn wsL_law wsL_isFull_r11 := goodIn_r _ [22, 283, 284, 285, 286, 287, 288, 289, 290, 291, 292, 293, 294, 295, 296, 297, 298, 299, 300, 301, 302, 303, 304, 305] (by decide +kernel) (by decide +kernel)
set_option maxRecDepth 20000 in
theorem ggL_law_L_isFull_c12 : GoodIn wsL_law wsL_isFull_r12 := goodIn_r _ [306, 307, 14, 16, 308, 309, 310, 311, 312, 313, 314, 315, 316, 317, 318, 319, 320, 321, 322, 323, 324, 325, 326, 327] (by decide +kernel) (by decide +kernel)
set_option maxRecDepth 20000 in
theorem ggL_law_L_isFull_c13 : GoodIn wsL_law wsL_isFull_r13 := goodIn_r _ [328, 329, 330, 331, 332, 333, 334, 335, 336, 337, 466, 467, 468, 345, 346, 347, 348, 349, 350, 351, 352, 353, 354, 355] (by decide +kernel) (by decide +kernel)
set_option maxRecDepth 20000 in
theorem ggL_law_L_isFull_c14 : GoodIn wsL_law wsL_isFull_r14 := goodIn_r _ [356, 357, 358, 359, 360, 361, 362, 363, 364, 365, 366, 367, 368, 369, 370, 371, 372, 373, 374, 375, 376, 377, 378, 379] (by decide +kernel) (by decide +kernel)
set_option maxRecDepth 20000 in
theorem ggL_law_L_isFull_c15 : GoodIn wsL_law wsL_isFull_r15 := goodIn_r _ [380, 381, 382, 383, 384, 385, 386, 387, 388, 389, 390, 391, 392, 393, 394, 395, 396, 397, 398, 399, 400, 401, 402, 403] (by decide +kernel) (by decide +kernel)
set_option maxRecDepth 20000 in
theorem ggL_law_L_isFull_c16 : GoodIn wsL_law wsL_isFull_r16 := goodIn_r _ [404, 405, 338, 339, 340, 341, 469, 470, 471, 472, 473, 474, 475, 476, 477, 478, 479, 432, 433, 434, 435, 436, 437, 438] (by decide +kernel) (by decide +kernel)
set_option maxRecDepth 20000 in
theorem ggL_law_L_isFull_c17 : GoodIn wsL_law wsL_isFull_r17 := goodIn_r _ [439, 440, 441, 442, 443, 444, 445, 446, 447, 454, 455, 456, 457, 480, 481, 482, 483] (by decide +kernel) (by decide +kernel)
set_option maxRecDepth 20000 in
theorem ggL_law_L_isFull_wsX40 : GoodIn wsL_law wsX40 := goodIn_r _ [490, 491, 492, 493, 494, 495, 496, 497, 498] (by decide +kernel) (by decide +kernel)
set_option maxRecDepth 20000 in
theorem ggL_law_L_isFull_wsX20 : GoodIn wsL_law wsX20 := goodIn_r _ [499, 500, 501, 502] (by decide +kernel) (by decide +kernel)
set_option maxRecDepth 20000 in
theorem ggL_law_L_isFull_wsX30 : GoodIn wsL_law wsX30 := goodIn_r _ [512, 513, 514, 515] (by decide +kernel) (by decide +kernel)
set_option maxRecDepth 20000 in
theorem ggL_law_L_isFull_wsX10 : GoodIn wsL_law wsX10 := goodIn_r _ [505, 506, 507, 508, 509, 510, 511] (by decide +kernel) (by decide +kernel)
set_option maxRecDepth 20000 in
theorem ggL_law_L_isFull_wsX00 : GoodIn wsL_law wsX00 := goodIn_r _ [503, 504] (by decide +kernel) (by decide +kernel)
set_option maxRecDepth 20000 in
theorem ggL_law_L_isFull : GoodIn wsL_law wsL_isFull := goodIn_ca (goodIn_ca (goodIn_ca (goodIn_cons1 ggL_law_L_isFull_c0 (goodIn_app (goodIn_app (goodIn_app (goodIn_app (goodIn_app (goodIn_app ggL_law_L_isFull_c1 (goodIn_app ggL_law_L_isFull_c2 (goodIn_app ggL_law_L_isFull_c3 (goodIn_app ggL_law_L_isFull_c4 (goodIn_app ggL_law_L_isFull_c5 (goodIn_app ggL_law_L_isFull_c6 (goodIn_app ggL_law_L_isFull_c7 (goodIn_app ggL_law_L_isFull_c8 (goodIn_app ggL_law_L_isFull_c9 (goodIn_app ggL_law_L_isFull_c10 (goodIn_app ggL_law_L_isFull_c11 (goodIn_app ggL_law_L_isFull_c12 (goodIn_app ggL_law_L_isFull_c13 (goodIn_app ggL_law_L_isFull_c14 (goodIn_app ggL_law_L_isFull_c15 (goodIn_app ggL_law_L_isFull_c16 (ggL_law_L_isFull_c17))))))))))))))))) ggL_law_L_isFull_wsX40) ggL_law_L_isFull_wsX20) ggL_law_L_isFull_wsX30) ggL_law_L_isFull_wsX10) ggL_law_L_isFull_wsX00)) (goodIn_sub (fun _ h => List.mem_append_left _ (List.mem_append_left _ (List.mem_append_right _ h))) (by decide +kernel))) (goodIn_sub (fun _ h => List.mem_append_left _ (List.mem_append_right _ h)) (by decide +kernel))) (goodIn_sub (fun _ h => List.mem_append_right _ h) (by decide +kernel))
set_option maxRecDepth 20000 in
theorem gL_law_L_isFull : GoodIn wsL_law (va_wsS RL 137 yL_isFull wsL_isFull) := goodIn_app (goodIn_of _ (by decide +kernel)) ggL_law_L_isFull
set_option maxRecDepth 20000 in
theorem ggL_law_L_seen_c0 : GoodIn wsL_law [.code yL_seen cL_seen 4 (some .long)] := goodIn_r _ [347] (by decide +kernel) (by decide +kernel)
set_option maxRecDepth 20000 in
theorem ggL_law_L_seen_c1 : GoodIn wsL_law wsL_seen_r1 := goodIn_r _ [348, 349, 350, 351, 352, 2, 353, 12, 163, 104, 20, 273, 327, 328, 329, 79, 80, 354, 355, 356, 357, 86, 358, 359] (by decide +kernel) (by decide +kernel)
set_option maxRecDepth 20000 in
theorem ggL_law_L_seen_c2 : GoodIn wsL_law wsL_seen_r2 := goodIn_r _ [360, 361, 136, 196, 85, 230, 207, 208, 33, 209, 99, 210, 211, 212, 213, 50, 202, 203, 204, 205, 206, 214, 215, 216] (by decide +kernel) (by decide +kernel)
set_option maxRecDepth 20000 in
theorem ggL_law_L_seen_c3 : GoodIn wsL_law wsL_seen_r3 := goodIn_r _ [217, 49, 218, 219, 220, 221, 362, 363, 364, 365, 366, 367, 368, 369, 150, 151, 152, 153, 370, 371, 372, 373, 374, 375] (by decide +kernel) (by decide +kernel)
set_option maxRecDepth 20000 in
theorem ggL_law_L_seen_c4 : GoodIn wsL_law wsL_seen_r4 := goodIn_r _ [376, 252, 257, 158, 137, 377, 378, 379, 26, 380, 129, 127, 126, 381, 382, 383, 384, 56, 385, 386, 387, 388, 23, 226] (by decide +kernel) (by decide +kernel)
set_option maxRecDepth 20000 in
theorem ggL_law_L_seen_c5 : GoodIn wsL_law wsL_seen_r5 := goodIn_r _ [227, 228, 229, 48, 389, 390, 391, 392, 393, 394, 395, 396, 397, 398, 399, 400, 401, 402, 403, 404, 405, 338, 339, 340] (by decide +kernel) (by decide +kernel)
set_option maxRecDepth 20000 in
theorem ggL_law_L_seen_c6 : GoodIn wsL_law wsL_seen_r6 := goodIn_r _ [341, 177, 264, 265, 266, 267, 268] (by decide +kernel) (by decide +kernel)
set_option maxRecDepth 20000 in
theorem ggL_law_L_seen_wsX40 : GoodIn wsL_law wsX40 := goodIn_r _ [490, 491, 492, 493, 494, 495, 496, 497, 498] (by decide +kernel) (by decide +kernel)
set_option maxRecDepth 20000 in
theorem ggL_law_L_seen_wsX20 : GoodIn wsL_law wsX20 := goodIn_r _ [499, 500, 501, 502] (by decide +kernel) (by decide +kernel)
set_option maxRecDepth 20000 in
theorem ggL_law_L_seen_wsX00 : GoodIn wsL_law wsX00 := goodIn_r _ [503, 504] (by decide +kernel) (by decide +kernel)
set_option maxRecDepth 20000 in
theorem ggL_law_L_seen_wsX30 : GoodIn wsL_law wsX30 := goodIn_r _ [512, 513, 514, 515] (by decide +kernel) (by decide +kernel)
set_option maxRecDepth 20000 in
theorem ggL_law_L_seen_wsX10 : GoodIn wsL_law wsX10 := goodIn_r _ [505, 506, 507, 508, 509, 510, 511] (by decide +kernel) (by decide +kernel)
set_option maxRecDepth 20000 in
theorem ggL_law_L_seen : GoodIn wsL_law wsL_seen := goodIn_ca (goodIn_ca (goodIn_cons1 ggL_law_L_seen_c0 (goodIn_app (goodIn_app (goodIn_app (goodIn_app (goodIn_app (goodIn_app ggL_law_L_seen_c1 (goodIn_app ggL_law_L_seen_c2 (goodIn_app ggL_law_L_seen_c3 (goodIn_app ggL_law_L_seen_c4 (goodIn_app ggL_law_L_seen_c5 (ggL_law_L_seen_c6)))))) ggL_law_L_seen_wsX40) ggL_law_L_seen_wsX20) ggL_law_L_seen_wsX00) ggL_law_L_seen_wsX30) ggL_law_L_seen_wsX10)) (goodIn_sub (fun _ h => List.mem_append_left _ (List.mem_append_right _ h)) (by decide +kernel))) (goodIn_sub (fun _ h => List.mem_append_right _ h) (by decide +kernel))
set_option maxRecDepth 20000 in
theorem gL_law_L_seen : GoodIn wsL_law (va_wsS RL 108 yL_seen wsL_seen) := goodIn_app (goodIn_of _ (by decide +kernel)) ggL_law_L_seen
set_option maxRecDepth 20000 in
theorem ggL_law_X4_count : GoodIn wsL_law wsX4_count := goodIn_ca (goodIn_r _ [353, 12, 163, 104, 20, 273, 327, 328, 2, 329, 79, 80, 490, 491, 492, 493, 494, 495, 496, 497, 498, 499, 500, 501, 502, 503, 504] (by decide +kernel) (by decide +kernel)) (goodIn_sub (fun _ h => List.mem_append_left _ (List.mem_append_right _ h)) (by decide +kernel))
set_option maxRecDepth 20000 in
theorem gL_law_X4_count : GoodIn wsL_law (wsV RL 80 RX4 yX4_count wsX4_count) := goodIn_app (goodIn_of _ (by decide +kernel)) ggL_law_X4_count
set_option maxRecDepth 20000 in
theorem ggL_law_L_act_c0 : GoodIn wsL_law [.code yL_act cL_act 8 (some .int)] := goodIn_r _ [486] (by decide +kernel) (by decide +kernel)
set_option maxRecDepth 20000 in
theorem ggL_law_L_act_c1 : GoodIn wsL_law wsL_act_r1 := goodIn_r _ [315, 316, 317, 2, 318, 12, 85, 76, 77, 78, 79, 80, 319, 320, 321, 33, 322, 50, 91, 92, 93, 94, 48, 95] (by decide +kernel) (by decide +kernel)
set_option maxRecDepth 20000 in
theorem ggL_law_L_act_c2 : GoodIn wsL_law wsL_act_r2 := goodIn_r _ [96, 97, 98, 99, 63, 64, 65, 66, 67, 68, 69, 70, 71, 72, 73, 74, 75, 81, 82, 83, 84, 86, 87, 88] (by decide +kernel) (by decide +kernel)
set_option maxRecDepth 20000 in
theorem ggL_law_L_act_c3 : GoodIn wsL_law wsL_act_r3 := goodIn_r _ [89, 90, 100, 101, 102, 103, 104, 13, 105, 106, 107, 108, 109, 110, 111, 11, 112, 34, 36, 43, 113, 114, 115, 116] (by decide +kernel) (by decide +kernel)
set_option maxRecDepth 20000 in
theorem ggL_law_L_act_c4 : GoodIn wsL_law wsL_act_r4 := goodIn_r _ [44, 117, 118, 119, 120, 121, 49, 122, 123, 124, 26, 125, 55, 126, 127, 128, 129, 56, 130, 57, 131, 132, 133, 134] (by decide +kernel) (by decide +kernel)
set_option maxRecDepth 20000 in
theorem ggL_law_L_act_c5 : GoodIn wsL_law wsL_act_r5 := goodIn_r _ [135, 136, 137, 138, 139, 140, 141, 142, 143, 144, 145, 146, 147, 148, 149, 150, 151, 152, 153, 154, 155, 156, 157, 158] (by decide +kernel) (by decide +kernel)
set_option maxRecDepth 20000 in
theorem ggL_law_L_act_c6 : GoodIn wsL_law wsL_act_r6 := goodIn_r _ [159, 160, 161, 162, 163, 164, 165, 166, 167, 168, 169, 170, 171, 172, 173, 174, 175, 176, 177, 178, 179, 180, 181, 182] (by decide +kernel) (by decide +kernel)
set_option maxRecDepth 20000 in
theorem ggL_law_L_act_c7 : GoodIn wsL_law wsL_act_r7 := goodIn_r _ [183, 184, 185, 186, 187, 188, 189, 190, 191, 192, 193, 194, 195, 196, 197, 198, 199, 200, 201, 202, 203, 204, 205, 206] (by decide +kernel) (by decide +kernel)
set_option maxRecDepth 20000 in
theorem ggL_law_L_act_c8 : GoodIn wsL_law wsL_act_r8 := goodIn_r _ [207, 208, 209, 210, 211, 212, 213, 214, 215, 216, 217, 218, 219, 220, 221, 222, 223, 224, 225, 23, 226, 227, 228, 229] (by decide +kernel) (by decide +kernel)
set_option maxRecDepth 20000 in
theorem ggL_law_L_act_c9 : GoodIn wsL_law wsL_act_r9 := goodIn_r _ [230, 231, 232, 233, 234, 235, 236, 237, 238, 239, 240, 241, 242, 243, 244, 245, 246, 247, 248, 249, 250, 251, 252, 253] (by decide +kernel) (by decide +kernel)
set_option maxRecDepth 20000 in
theorem ggL_law_L_act_c10 : GoodIn wsL_law wsL_act_r10 := goodIn_r _ [254, 255, 256, 257, 258, 259, 260, 261, 262, 263, 264, 265, 266, 267, 268, 269, 270, 271, 272, 20, 273, 274, 275, 276] (by decide +kernel) (by decide +kernel)
set_option maxRecDepth 20000 in
theorem ggL_law_L_act_c11 : GoodIn wsL_law wsL_act_r11 := goodIn_r _ [19, 277, 278, 62, 279, 280, 281, 282, 22, 283, 284, 285, 286, 287, 288, 289, 290, 291, 292, 293, 294, 295, 296, 297] (by decide +kernel) (by decide +kernel)
set_option maxRecDepth 20000 in
theorem ggL_law_L_act_c12 : GoodIn wsL_law wsL_act_r12 := goodIn_r _ [298, 299, 300, 301, 302, 303, 304, 305, 306, 307, 14, 16, 308, 309, 310, 311, 312, 313, 314, 323, 324, 325, 326, 327] (by decide +kernel) (by decide +kernel)
set_option maxRecDepth 20000 in
theorem ggL_law_L_act_c13 : GoodIn wsL_law wsL_act_r13 := goodIn_r _ [328, 329, 330, 331, 332, 333, 334, 335, 336, 337, 350, 351, 352, 353, 480, 481, 482, 483, 373, 374, 375, 376, 377, 378] (by decide +kernel) (by decide +kernel)
set_option maxRecDepth 20000 in
theorem ggL_law_L_act_c14 : GoodIn wsL_law wsL_act_r14 := goodIn_r _ [379, 380, 381, 382, 383, 384, 385, 386, 387, 388, 389, 390, 391, 392] (by decide +kernel) (by decide +kernel)
set_option maxRecDepth 20000 in
theorem ggL_law_L_act_wsX40 : GoodIn wsL_law wsX40 := goodIn_r _ [490, 491, 492, 493, 494, 495, 496, 497, 498] (by decide +kernel) (by decide +kernel)
set_option maxRecDepth 20000 in
theorem ggL_law_L_act_wsX20 : GoodIn wsL_law wsX20 := goodIn_r _ [499, 500, 501, 502] (by decide +kernel) (by decide +kernel)
set_option maxRecDepth 20000 in
theorem ggL_law_L_act_wsX30 : GoodIn wsL_law wsX30 := goodIn_r _ [512, 513, 514, 515] (by decide +kernel) (by decide +kernel)
set_option maxRecDepth 20000 in
theorem ggL_law_L_act_wsX10 : GoodIn wsL_law wsX10 := goodIn_r _ [505, 506, 507, 508, 509, 510, 511] (by decide +kernel) (by decide +kernel)
set_option maxRecDepth 20000 in
theorem ggL_law_L_act_wsX00 : GoodIn wsL_law wsX00 := goodIn_r _ [503, 504] (by decide +kernel) (by decide +kernel)
set_option maxRecDepth 20000 in
theorem ggL_law_L_act : GoodIn wsL_law wsL_act := goodIn_ca (goodIn_ca (goodIn_ca (goodIn_cons1 ggL_law_L_act_c0 (goodIn_app (goodIn_app (goodIn_app (goodIn_app (goodIn_app (goodIn_app ggL_law_L_act_c1 (goodIn_app ggL_law_L_act_c2 (goodIn_app ggL_law_L_act_c3 (goodIn_app ggL_law_L_act_c4 (goodIn_app ggL_law_L_act_c5 (goodIn_app ggL_law_L_act_c6 (goodIn_app ggL_law_L_act_c7 (goodIn_app ggL_law_L_act_c8 (goodIn_app ggL_law_L_act_c9 (goodIn_app ggL_law_L_act_c10 (goodIn_app ggL_law_L_act_c11 (goodIn_app ggL_law_L_act_c12 (goodIn_app ggL_law_L_act_c13 (ggL_law_L_act_c14)))))))))))))) ggL_law_L_act_wsX40) ggL_law_L_act_wsX20) ggL_law_L_act_wsX30) ggL_law_L_act_wsX10) ggL_law_L_act_wsX00)) (goodIn_sub (fun _ h => List.mem_append_left _ (List.mem_append_right _ h)) (by decide +kernel))) (goodIn_sub (fun _ h => List.mem_append_left _ (List.mem_append_left _ (List.mem_append_right _ h))) (by decide +kernel))) (goodIn_sub (fun _ h => List.mem_append_right _ h) (by decide +kernel))
set_option maxRecDepth 20000 in
theorem gL_law_L_act : GoodIn wsL_law (va_wsS RL 140 yL_act wsL_act) := goodIn_app (goodIn_of _ (by decide +kernel)) ggL_law_L_act
set_option maxRecDepth 20000 in
theorem ggL_law_L_isSorted_c0 : GoodIn wsL_law [.code yL_isSorted cL_isSorted 7 (some .boolean)] := goodIn_r _ [489] (by decide +kernel) (by decide +kernel)
set_option maxRecDepth 20000 in
theorem ggL_law_L_isSorted_c1 : GoodIn wsL_law wsL_isSorted_r1 := goodIn_r _ [354, 355, 356, 2, 357, 86, 327, 328, 329, 79, 80, 358, 359, 360, 361, 12, 136, 196, 85, 230, 207, 208, 33, 209] (by decide +kernel) (by decide +kernel)
set_option maxRecDepth 20000 in
theorem ggL_law_L_isSorted_c2 : GoodIn wsL_law wsL_isSorted_r2 := goodIn_r _ [99, 210, 211, 212, 213, 50, 202, 203, 204, 205, 206, 214, 215, 216, 217, 49, 218, 219, 220, 221, 362, 363, 364, 365] (by decide +kernel) (by decide +kernel)
set_option maxRecDepth 20000 in
theorem ggL_law_L_isSorted_c3 : GoodIn wsL_law wsL_isSorted_r3 := goodIn_r _ [366, 367, 368, 369, 150, 151, 152, 153, 370, 371, 372, 420, 421, 422, 423, 23, 226, 227, 228, 229, 48, 315, 316, 317] (by decide +kernel) (by decide +kernel)
set_option maxRecDepth 20000 in
theorem ggL_law_L_isSorted_c4 : GoodIn wsL_law wsL_isSorted_r4 := goodIn_r _ [318, 76, 77, 78, 319, 320, 321, 322, 91, 92, 93, 94, 95, 96, 97, 98, 412, 413, 414, 415, 416, 417, 418, 419] (by decide +kernel) (by decide +kernel)
set_option maxRecDepth 20000 in
theorem ggL_law_L_isSorted_c5 : GoodIn wsL_law wsL_isSorted_r5 := goodIn_r _ [323, 324, 325, 326, 330, 331, 332, 333, 334, 335, 336, 337, 393, 394, 395, 396, 397, 398, 399, 400, 424, 425, 426, 427] (by decide +kernel) (by decide +kernel)
set_option maxRecDepth 20000 in
theorem ggL_law_L_isSorted_c6 : GoodIn wsL_law wsL_isSorted_r6 := goodIn_r _ [428, 429, 430, 431] (by decide +kernel) (by decide +kernel)
set_option maxRecDepth 20000 in
theorem ggL_law_L_isSorted_wsX30 : GoodIn wsL_law wsX30 := goodIn_r _ [512, 513, 514, 515] (by decide +kernel) (by decide +kernel)
set_option maxRecDepth 20000 in
theorem ggL_law_L_isSorted_wsX40 : GoodIn wsL_law wsX40 := goodIn_r _ [490, 491, 492, 493, 494, 495, 496, 497, 498] (by decide +kernel) (by decide +kernel)
set_option maxRecDepth 20000 in
theorem ggL_law_L_isSorted_wsX20 : GoodIn wsL_law wsX20 := goodIn_r _ [499, 500, 501, 502] (by decide +kernel) (by decide +kernel)
set_option maxRecDepth 20000 in
theorem ggL_law_L_isSorted_wsX10 : GoodIn wsL_law wsX10 := goodIn_r _ [505, 506, 507, 508, 509, 510, 511] (by decide +kernel) (by decide +kernel)
set_option maxRecDepth 20000 in
theorem ggL_law_L_isSorted : GoodIn wsL_law wsL_isSorted := goodIn_ca (goodIn_cons1 ggL_law_L_isSorted_c0 (goodIn_app (goodIn_app (goodIn_app (goodIn_app (goodIn_app ggL_law_L_isSorted_c1 (goodIn_app ggL_law_L_isSorted_c2 (goodIn_app ggL_law_L_isSorted_c3 (goodIn_app ggL_law_L_isSorted_c4 (goodIn_app ggL_law_L_isSorted_c5 (ggL_law_L_isSorted_c6)))))) ggL_law_L_isSorted_wsX30) ggL_law_L_isSorted_wsX40) ggL_law_L_isSorted_wsX20) ggL_law_L_isSorted_wsX10)) (goodIn_sub (fun _ h => List.mem_append_left _ (List.mem_append_right _ h)) (by decide +kernel))
set_option maxRecDepth 20000 in
theorem gL_law_L_isSorted : GoodIn wsL_law (va_wsS RL 144 yL_isSorted wsL_isSorted) := goodIn_app (goodIn_of _ (by decide +kernel)) ggL_law_L_isSorted
set_option maxRecDepth 20000 in
theorem ggL_law_X4_tree_c0 : GoodIn wsL_law [.code yX4_tree cX4_tree 4 (some .int)] := goodIn_r _ [357] (by decide +kernel) (by decide +kernel)
set_option maxRecDepth 20000 in
theorem ggL_law_X4_tree_c1 : GoodIn wsL_law wsX4_tree_r1 := goodIn_r _ [86, 327, 328, 2, 329, 79, 80, 358, 359, 360, 361, 12, 136, 196, 85, 230, 207, 208, 33, 209, 99, 210, 211, 212] (by decide +kernel) (by decide +kernel)
set_option maxRecDepth 20000 in
theorem ggL_law_X4_tree_c2 : GoodIn wsL_law wsX4_tree_r2 := goodIn_r _ [213, 50, 202, 203, 204, 205, 206, 214, 215, 216, 217, 49, 218, 219, 220, 221, 362, 363, 364, 365, 366, 367, 368, 369] (by decide +kernel) (by decide +kernel)
set_option maxRecDepth 20000 in
theorem ggL_law_X4_tree_c3 : GoodIn wsL_law wsX4_tree_r3 := goodIn_r _ [150, 151, 152, 153, 370, 371, 372] (by decide +kernel) (by decide +kernel)
set_option maxRecDepth 20000 in
theorem ggL_law_X4_tree_wsX30 : GoodIn wsL_law wsX30 := goodIn_r _ [512, 513, 514, 515] (by decide +kernel) (by decide +kernel)
set_option maxRecDepth 20000 in
theorem ggL_law_X4_tree_wsX40 : GoodIn wsL_law wsX40 := goodIn_r _ [490, 491, 492, 493, 494, 495, 496, 497, 498] (by decide +kernel) (by decide +kernel)
set_option maxRecDepth 20000 in
theorem ggL_law_X4_tree_wsX20 : GoodIn wsL_law wsX20 := goodIn_r _ [499, 500, 501, 502] (by decide +kernel) (by decide +kernel)
set_option maxRecDepth 20000 in
theorem ggL_law_X4_tree_wsX10 : GoodIn wsL_law wsX10 := goodIn_r _ [505, 506, 507, 508, 509, 510, 511] (by decide +kernel) (by decide +kernel)
set_option maxRecDepth 20000 in
theorem ggL_law_X4_tree : GoodIn wsL_law wsX4_tree := goodIn_ca (goodIn_cons1 ggL_law_X4_tree_c0 (goodIn_app (goodIn_app (goodIn_app (goodIn_app (goodIn_app ggL_law_X4_tree_c1 (goodIn_app ggL_law_X4_tree_c2 (ggL_law_X4_tree_c3))) ggL_law_X4_tree_wsX30) ggL_law_X4_tree_wsX40) ggL_law_X4_tree_wsX20) ggL_law_X4_tree_wsX10)) (goodIn_sub (fun _ h => List.mem_append_left _ (List.mem_append_right _ h)) (by decide +kernel))
set_option maxRecDepth 20000 in
theorem gL_law_X4_tree : GoodIn wsL_law (wsV RL 70 RX4 yX4_tree wsX4_tree) := goodIn_app (goodIn_of _ (by decide +kernel)) ggL_law_X4_tree
set_option maxRecDepth 20000 in
theorem ggL_law_X4_keep_c0 : GoodIn wsL_law [.code yX4_keep cX4_keep 2 (some .int)] := goodIn_r _ [307] (by decide +kernel) (by decide +kernel)
set_option maxRecDepth 20000 in
theorem ggL_law_X4_keep_c1 : GoodIn wsL_law wsX4_keep_r1 := goodIn_r _ [14, 12, 16, 85, 308, 309, 2, 310, 79, 80, 109, 110, 111, 11, 112, 34, 36, 43, 113, 114, 115, 116, 44, 117] (by decide +kernel) (by decide +kernel)
set_option maxRecDepth 20000 in
theorem ggL_law_X4_keep_c2 : GoodIn wsL_law wsX4_keep_r2 := goodIn_r _ [118, 119, 33, 120, 99, 48, 121, 49, 50, 122, 123, 124, 26, 125, 55, 126, 127, 128, 129, 56, 130, 57, 131, 230] (by decide +kernel) (by decide +kernel)
set_option maxRecDepth 20000 in
theorem ggL_law_X4_keep_c3 : GoodIn wsL_law wsX4_keep_r3 := goodIn_r _ [207, 208, 209, 210, 211, 212, 213] (by decide +kernel) (by decide +kernel)
set_option maxRecDepth 20000 in
theorem ggL_law_X4_keep_wsX40 : GoodIn wsL_law wsX40 := goodIn_r _ [490, 491, 492, 493, 494, 495, 496, 497, 498] (by decide +kernel) (by decide +kernel)
set_option maxRecDepth 20000 in
theorem ggL_law_X4_keep_wsX20 : GoodIn wsL_law wsX20 := goodIn_r _ [499, 500, 501, 502] (by decide +kernel) (by decide +kernel)
set_option maxRecDepth 20000 in
theorem ggL_law_X4_keep_wsX30 : GoodIn wsL_law wsX30 := goodIn_r _ [512, 513, 514, 515] (by decide +kernel) (by decide +kernel)
set_option maxRecDepth 20000 in
theorem ggL_law_X4_keep_wsX10 : GoodIn wsL_law wsX10 := goodIn_r _ [505, 506, 507, 508, 509, 510, 511] (by decide +kernel) (by decide +kernel)
set_option maxRecDepth 20000 in
theorem ggL_law_X4_keep : GoodIn wsL_law wsX4_keep := goodIn_ca (goodIn_cons1 ggL_law_X4_keep_c0 (goodIn_app (goodIn_app (goodIn_app (goodIn_app (goodIn_app ggL_law_X4_keep_c1 (goodIn_app ggL_law_X4_keep_c2 (ggL_law_X4_keep_c3))) ggL_law_X4_keep_wsX40) ggL_law_X4_keep_wsX20) ggL_law_X4_keep_wsX30) ggL_law_X4_keep_wsX10)) (goodIn_sub (fun _ h => List.mem_append_left _ (List.mem_append_right _ h)) (by decide +kernel))
set_option maxRecDepth 20000 in
theorem gL_law_X4_keep : GoodIn wsL_law (wsV RL 38 RX4 yX4_keep wsX4_keep) := goodIn_app (goodIn_of _ (by decide +kernel)) ggL_law_X4_keep
set_option maxRecDepth 20000 in
theorem ggL_law_X4_undo : GoodIn wsL_law wsX4_undo := goodIn_ca (goodIn_r _ [303, 74, 75, 104, 12, 13, 109, 110, 111, 11, 112, 34, 36, 43, 113, 114, 115, 116, 44, 117, 118, 119, 33, 120, 99, 48, 121, 49, 50, 122, 123, 124, 26, 125, 55, 126, 127, 128, 129, 56, 130, 57, 131, 490, 491, 492, 493, 494, 495, 496, 497, 498, 499, 500, 501, 502, 512, 513, 514, 515, 505, 506, 507, 508, 509, 510, 511] (by decide +kernel) (by decide +kernel)) (goodIn_sub (fun _ h => List.mem_append_left _ (List.mem_append_left _ (List.mem_append_right _ h))) (by decide +kernel))
set_option maxRecDepth 20000 in
theorem gL_law_X4_undo : GoodIn wsL_law (wsV RL 35 RX4 yX4_undo wsX4_undo) := goodIn_app (goodIn_of _ (by decide +kernel)) ggL_law_X4_undo
set_option maxRecDepth 20000 in
theorem ggL_law_X4_goBack_c0 : GoodIn wsL_law [.code yX4_goBack cX4_goBack 2 (some .int)] := goodIn_r _ [314] (by decide +kernel) (by decide +kernel)
set_option maxRecDepth 20000 in
theorem ggL_law_X4_goBack_c1 : GoodIn wsL_law wsX4_goBack_r1 := goodIn_r _ [74, 75, 16, 12, 14, 85, 308, 309, 2, 310, 79, 80, 100, 101, 102, 103, 104, 13, 105, 106, 107, 108, 109, 110] (by decide +kernel) (by decide +kernel)
set_option maxRecDepth 20000 in
theorem ggL_law_X4_goBack_c2 : GoodIn wsL_law wsX4_goBack_r2 := goodIn_r _ [111, 11, 112, 34, 36, 43, 113, 114, 115, 116, 44, 117, 118, 119, 33, 120, 99, 48, 121, 49, 50, 122, 123, 124] (by decide +kernel) (by decide +kernel)
set_option maxRecDepth 20000 in
theorem ggL_law_X4_goBack_c3 : GoodIn wsL_law wsX4_goBack_r3 := goodIn_r _ [26, 125, 55, 126, 127, 128, 129, 56, 130, 57, 131, 230, 207, 208, 209, 210, 211, 212, 213] (by decide +kernel) (by decide +kernel)
set_option maxRecDepth 20000 in
theorem ggL_law_X4_goBack_wsX40 : GoodIn wsL_law wsX40 := goodIn_r _ [490, 491, 492, 493, 494, 495, 496, 497, 498] (by decide +kernel) (by decide +kernel)
set_option maxRecDepth 20000 in
theorem ggL_law_X4_goBack_wsX20 : GoodIn wsL_law wsX20 := goodIn_r _ [499, 500, 501, 502] (by decide +kernel) (by decide +kernel)
set_option maxRecDepth 20000 in
theorem ggL_law_X4_goBack_wsX30 : GoodIn wsL_law wsX30 := goodIn_r _ [512, 513, 514, 515] (by decide +kernel) (by decide +kernel)
set_option maxRecDepth 20000 in
theorem ggL_law_X4_goBack_wsX10 : GoodIn wsL_law wsX10 := goodIn_r _ [505, 506, 507, 508, 509, 510, 511] (by decide +kernel) (by decide +kernel)
set_option maxRecDepth 20000 in
theorem ggL_law_X4_goBack : GoodIn wsL_law wsX4_goBack := goodIn_ca (goodIn_ca (goodIn_cons1 ggL_law_X4_goBack_c0 (goodIn_app (goodIn_app (goodIn_app (goodIn_app (goodIn_app ggL_law_X4_goBack_c1 (goodIn_app ggL_law_X4_goBack_c2 (ggL_law_X4_goBack_c3))) ggL_law_X4_goBack_wsX40) ggL_law_X4_goBack_wsX20) ggL_law_X4_goBack_wsX30) ggL_law_X4_goBack_wsX10)) (goodIn_sub (fun _ h => List.mem_append_left _ (List.mem_append_left _ (List.mem_append_right _ h))) (by decide +kernel))) (goodIn_sub (fun _ h => List.mem_append_left _ (List.mem_append_right _ h)) (by decide +kernel))
set_option maxRecDepth 20000 in
theorem gL_law_X4_goBack : GoodIn wsL_law (wsV RL 41 RX4 yX4_goBack wsX4_goBack) := goodIn_app (goodIn_of _ (by decide +kernel)) ggL_law_X4_goBack
