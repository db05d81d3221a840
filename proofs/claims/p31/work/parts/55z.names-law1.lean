set_option maxRecDepth 20000 in
theorem ggL_law_X4_init : GoodIn wsL_law wsX4_init := goodIn_r _ [5, 6, 7, 8, 9, 10, 11, 12, 13, 14, 15, 16, 17, 18, 19, 20, 21, 22, 23, 24, 25, 26, 27, 28, 29, 30, 31, 32, 33, 34, 35, 36, 37, 38, 39, 40, 41, 42, 43, 44, 45, 46, 47, 48, 49, 50, 51, 52, 53, 54, 55, 56, 57, 58, 59, 60, 61, 62, 499, 500, 501, 502, 490, 491, 492, 493, 494, 495, 496, 497, 498, 503, 504, 505, 506, 507, 508, 509, 510, 511, 512, 513, 514, 515] (by decide +kernel) (by decide +kernel)
set_option maxRecDepth 20000 in
theorem gL_law_X4_init : GoodIn wsL_law (wsX4_init) := ggL_law_X4_init
set_option maxRecDepth 20000 in
theorem ggL_law_L_call_c0 : GoodIn wsL_law [.codeWith yL_call cL_call 5 (some .int) [(0, 158, 159, 51), (0, 158, 164, 53), (0, 158, 169, 55)]] := goodIn_r _ [66] (by decide +kernel) (by decide +kernel)
set_option maxRecDepth 20000 in
theorem ggL_law_L_call_c1 : GoodIn wsL_law wsL_call_r1 := goodIn_r _ [67, 68, 69, 70, 71, 72, 2, 73, 74, 75, 76, 77, 78, 79, 80, 81, 82, 83, 84, 12, 85, 86, 87, 88] (by decide +kernel) (by decide +kernel)
set_option maxRecDepth 20000 in
theorem ggL_law_L_call_c2 : GoodIn wsL_law wsL_call_r2 := goodIn_r _ [89, 33, 90, 91, 92, 93, 94, 48, 95, 96, 97, 98, 99, 100, 101, 102, 103, 104, 13, 105, 106, 107, 108, 109] (by decide +kernel) (by decide +kernel)
set_option maxRecDepth 20000 in
theorem ggL_law_L_call_c3 : GoodIn wsL_law wsL_call_r3 := goodIn_r _ [110, 111, 11, 112, 34, 36, 43, 113, 114, 115, 116, 44, 117, 118, 119, 120, 121, 49, 50, 122, 123, 124, 26, 125] (by decide +kernel) (by decide +kernel)
set_option maxRecDepth 20000 in
theorem ggL_law_L_call_c4 : GoodIn wsL_law wsL_call_r4 := goodIn_r _ [55, 126, 127, 128, 129, 56, 130, 57, 131, 132, 133, 134, 135, 136, 137, 138, 139, 140, 141, 142, 143, 144, 145, 146] (by decide +kernel) (by decide +kernel)
set_option maxRecDepth 20000 in
theorem ggL_law_L_call_c5 : GoodIn wsL_law wsL_call_r5 := goodIn_r _ [147, 148, 149, 150, 151, 152, 153, 154, 155, 156, 157, 158, 159, 160, 161, 162, 163, 164, 165, 166, 167, 168, 169, 170] (by decide +kernel) (by decide +kernel)
set_option maxRecDepth 20000 in
theorem ggL_law_L_call_c6 : GoodIn wsL_law wsL_call_r6 := goodIn_r _ [171, 172, 173, 174, 175, 176, 177, 178, 179, 180, 181, 182, 183, 184, 185, 186, 187, 188, 189, 190, 191, 192, 193, 194] (by decide +kernel) (by decide +kernel)
set_option maxRecDepth 20000 in
theorem ggL_law_L_call_c7 : GoodIn wsL_law wsL_call_r7 := goodIn_r _ [195, 196, 197, 198, 199, 200, 201, 202, 203, 204, 205, 206, 207, 208, 209, 210, 211, 212, 213, 214, 215, 216, 217, 218] (by decide +kernel) (by decide +kernel)
set_option maxRecDepth 20000 in
theorem ggL_law_L_call_c8 : GoodIn wsL_law wsL_call_r8 := goodIn_r _ [219, 220, 221, 222, 223, 224, 225, 23, 226, 227, 228, 229, 230, 231, 232, 233, 234, 235, 236, 237, 238, 239, 240, 241] (by decide +kernel) (by decide +kernel)
set_option maxRecDepth 20000 in
theorem ggL_law_L_call_c9 : GoodIn wsL_law wsL_call_r9 := goodIn_r _ [242, 243, 244, 245, 246, 247, 248, 249, 250, 251, 252, 253, 254, 255, 256, 257, 258, 259, 260, 261, 262, 263, 264, 265] (by decide +kernel) (by decide +kernel)
set_option maxRecDepth 20000 in
theorem ggL_law_L_call_c10 : GoodIn wsL_law wsL_call_r10 := goodIn_r _ [266, 267, 268, 269, 270, 271, 272, 20, 273, 274, 275, 276, 19, 277, 278, 62, 279, 280, 281, 282, 22, 283, 284, 285] (by decide +kernel) (by decide +kernel)
set_option maxRecDepth 20000 in
theorem ggL_law_L_call_c11 : GoodIn wsL_law wsL_call_r11 := goodIn_r _ [286, 287, 288, 289, 290, 291, 292, 293, 294, 295, 296, 297, 298, 299, 300, 301, 302, 303, 304, 305, 306, 307, 14, 16] (by decide +kernel) (by decide +kernel)
set_option maxRecDepth 20000 in
theorem ggL_law_L_call_c12 : GoodIn wsL_law wsL_call_r12 := goodIn_r _ [308, 309, 310, 311, 312, 313, 314, 315, 316, 317, 318, 319, 320, 321, 322, 323, 324, 325, 326, 327, 328, 329, 330, 331] (by decide +kernel) (by decide +kernel)
set_option maxRecDepth 20000 in
theorem ggL_law_L_call_c13 : GoodIn wsL_law wsL_call_r13 := goodIn_r _ [332, 333, 334, 335, 336, 337] (by decide +kernel) (by decide +kernel)
set_option maxRecDepth 20000 in
theorem ggL_law_L_call_wsX40 : GoodIn wsL_law wsX40 := goodIn_r _ [490, 491, 492, 493, 494, 495, 496, 497, 498] (by decide +kernel) (by decide +kernel)
set_option maxRecDepth 20000 in
theorem ggL_law_L_call_wsX20 : GoodIn wsL_law wsX20 := goodIn_r _ [499, 500, 501, 502] (by decide +kernel) (by decide +kernel)
set_option maxRecDepth 20000 in
theorem ggL_law_L_call_wsX30 : GoodIn wsL_law wsX30 := goodIn_r _ [512, 513, 514, 515] (by decide +kernel) (by decide +kernel)
set_option maxRecDepth 20000 in
theorem ggL_law_L_call_wsX10 : GoodIn wsL_law wsX10 := goodIn_r _ [505, 506, 507, 508, 509, 510, 511] (by decide +kernel) (by decide +kernel)
set_option maxRecDepth 20000 in
theorem ggL_law_L_call_wsX00 : GoodIn wsL_law wsX00 := goodIn_r _ [503, 504] (by decide +kernel) (by decide +kernel)
set_option maxRecDepth 20000 in
theorem ggL_law_L_call : GoodIn wsL_law wsL_call := goodIn_ca (goodIn_ca (goodIn_ca (goodIn_cons1 ggL_law_L_call_c0 (goodIn_app (goodIn_app (goodIn_app (goodIn_app (goodIn_app (goodIn_app ggL_law_L_call_c1 (goodIn_app ggL_law_L_call_c2 (goodIn_app ggL_law_L_call_c3 (goodIn_app ggL_law_L_call_c4 (goodIn_app ggL_law_L_call_c5 (goodIn_app ggL_law_L_call_c6 (goodIn_app ggL_law_L_call_c7 (goodIn_app ggL_law_L_call_c8 (goodIn_app ggL_law_L_call_c9 (goodIn_app ggL_law_L_call_c10 (goodIn_app ggL_law_L_call_c11 (goodIn_app ggL_law_L_call_c12 (ggL_law_L_call_c13))))))))))))) ggL_law_L_call_wsX40) ggL_law_L_call_wsX20) ggL_law_L_call_wsX30) ggL_law_L_call_wsX10) ggL_law_L_call_wsX00)) (goodIn_sub (fun _ h => List.mem_append_left _ (List.mem_append_left _ (List.mem_append_right _ h))) (by decide +kernel))) (goodIn_sub (fun _ h => List.mem_append_left _ (List.mem_append_right _ h)) (by decide +kernel))) (goodIn_sub (fun _ h => List.mem_append_right _ h) (by decide +kernel))
set_option maxRecDepth 20000 in
theorem gL_law_L_call : GoodIn wsL_law (va_wsS RL 99 yL_call wsL_call) := goodIn_app (goodIn_of _ (by decide +kernel)) ggL_law_L_call
set_option maxRecDepth 20000 in
theorem ggL_law_X4_setting : GoodIn wsL_law wsX4_setting := goodIn_ca (goodIn_r _ [341, 12, 177, 264, 265, 2, 266, 267, 268, 490, 491, 492, 493, 494, 495, 496, 497, 498, 499, 500, 501, 502] (by decide +kernel) (by decide +kernel)) (goodIn_sub (fun _ h => List.mem_append_right _ h) (by decide +kernel))
set_option maxRecDepth 20000 in
theorem gL_law_X4_setting : GoodIn wsL_law (wsV RL 83 RX4 yX4_setting wsX4_setting) := goodIn_app (goodIn_of _ (by decide +kernel)) ggL_law_X4_setting
