set_option maxRecDepth 20000 in
theorem ggL_law_L_seen_c0 : GoodIn wsL_law [.code yL_seen cL_seen 4 (some .long)] := goodIn_r _ [347] (by decide +kernel) (by decide +kernel)
set_option maxRecDepth 20000 in
theorem ggL_law_L_seen_c1 : GoodIn wsL_law wsL_seen_r1 := goodIn_r _ [348, 349, 350, 351, 352, 2, 353, 12, 163, 104, 20, 273, 327, 328, 329, 79, 80, 354, 355, 356, 357, 86, 358, 359] (by decide +kernel) (by decide +kernel)
set_option maxRecDepth 20000 in
theorem ggL_law_L_seen_c2 : GoodIn wsL_law wsL_seen_r2 := goodIn_r _ [360, 361, 136, 196, 85, 230, 207, 208, 33, 209, 99, 210, 211, 212, 213, 50, 202, 203, 204, 205, 206, 214, 215, 216] (by decide +kernel) (by decide +kernel)
set_option maxRecDepth 20000 in
theorem ggL_law_L_seen_c3 : GoodIn wsL_law wsL_seen_r3 := goodIn_r _ [217, 49, 218, 219, 220, 221, 362, 363, 364, 365, 366, 367, 368, 369, 150, 151, 152, 153, 370, 371, 372, 373, 374, 375] (by decide +kernel) (by decide +kernel)
set_option maxRecDepth 20000 in
theorem ggL_law_L_seen_c4 : GoodIn wsL_law wsL_seen_r4 := goodIn_r _ [376, 252, 257, 158, 137, 377, 378, 379, 26, 380, 129, 127, 126, 381, 382, 383, 384, 56, 385, 386, 387, 388, 23, 226] (by decide +kernel) (by decide +kernel)
set_option maxRecDepth 20000 in
theorem ggL_law_L_seen_c5 : GoodIn wsL_law wsL_seen_r5 := goodIn_r _ [227, 228, 229, 48, 389, 390, 391, 392, 393, 394, 395, 396, 397, 398, 399, 400, 401, 402, 403, 404, 405, 338, 339, 340] (by decide +kernel) (by decide +kernel)
set_option maxRecDepth 20000 in
theorem ggL_law_L_seen_c6 : GoodIn wsL_law wsL_seen_r6 := goodIn_r _ [341, 177, 264, 265, 266, 267, 268] (by decide +kernel) (by decide +kernel)
set_option maxRecDepth 20000 in
theorem ggL_law_L_seen_wsX40 : GoodIn wsL_law wsX40 := goodIn_r _ [490, 491, 492, 493, 494, 495, 496, 497, 498] (by decide +kernel) (by decide +kernel)
set_option maxRecDepth 20000 in
theorem ggL_law_L_seen_wsX20 : GoodIn wsL_law wsX20 := goodIn_r _ [499, 500, 501, 502] (by decide +kernel) (by decide +kernel)
set_option maxRecDepth 20000 in
theorem ggL_law_L_seen_wsX00 : GoodIn wsL_law wsX00 := goodIn_r _ [503, 504] (by decide +kernel) (by decide +kernel)
set_option maxRecDepth 20000 in
theorem ggL_law_L_seen_wsX30 : GoodIn wsL_law wsX30 := goodIn_r _ [512, 513, 514, 515] (by decide +kernel) (by decide +kernel)
set_option maxRecDepth 20000 in
theorem ggL_law_L_seen_wsX10 : GoodIn wsL_law wsX10 := goodIn_r _ [505, 506, 507, 508, 509, 510, 511] (by decide +kernel) (by decide +kernel)
set_option maxRecDepth 20000 in
theorem ggL_law_L_seen : GoodIn wsL_law wsL_seen := goodIn_ca (goodIn_ca (goodIn_cons1 ggL_law_L_seen_c0 (goodIn_app (goodIn_app (goodIn_app (goodIn_app (goodIn_app (goodIn_app ggL_law_L_seen_c1 (goodIn_app ggL_law_L_seen_c2 (goodIn_app ggL_law_L_seen_c3 (goodIn_app ggL_law_L_seen_c4 (goodIn_app ggL_law_L_seen_c5 (ggL_law_L_seen_c6)))))) ggL_law_L_seen_wsX40) ggL_law_L_seen_wsX20) ggL_law_L_seen_wsX00) ggL_law_L_seen_wsX30) ggL_law_L_seen_wsX10)) (goodIn_sub (fun _ h => List.mem_append_left _ (List.mem_append_right _ h)) (by decide +kernel))) (goodIn_sub (fun _ h => List.mem_append_right _ h) (by decide +kernel))
set_option maxRecDepth 20000 in
theorem gL_law_L_seen : GoodIn wsL_law (va_wsS RL 108 yL_seen wsL_seen) := goodIn_app (goodIn_of _ (by decide +kernel)) ggL_law_L_seen
set_option maxRecDepth 20000 in
theorem ggL_law_X4_count : GoodIn wsL_law wsX4_count := goodIn_ca (goodIn_r _ [353, 12, 163, 104, 20, 273, 327, 328, 2, 329, 79, 80, 490, 491, 492, 493, 494, 495, 496, 497, 498, 499, 500, 501, 502, 503, 504] (by decide +kernel) (by decide +kernel)) (goodIn_sub (fun _ h => List.mem_append_left _ (List.mem_append_right _ h)) (by decide +kernel))
set_option maxRecDepth 20000 in
theorem gL_law_X4_count : GoodIn wsL_law (wsV RL 80 RX4 yX4_count wsX4_count) := goodIn_app (goodIn_of _ (by decide +kernel)) ggL_law_X4_count
set_option maxRecDepth 20000 in
theorem ggL_law_L_act_c0 : GoodIn wsL_law [.code yL_act cL_act 8 (some .int)] := goodIn_r _ [486] (by decide +kernel) (by decide +kernel)
set_option maxRecDepth 20000 in
theorem ggL_law_L_act_c1 : GoodIn wsL_law wsL_act_r1 := goodIn_r _ [315, 316, 317, 2, 318, 12, 85, 76, 77, 78, 79, 80, 319, 320, 321, 33, 322, 50, 91, 92, 93, 94, 48, 95] (by decide +kernel) (by decide +kernel)
set_option maxRecDepth 20000 in
theorem ggL_law_L_act_c2 : GoodIn wsL_law wsL_act_r2 := goodIn_r _ [96, 97, 98, 99, 63, 64, 65, 66, 67, 68, 69, 70, 71, 72, 73, 74, 75, 81, 82, 83, 84, 86, 87, 88] (by decide +kernel) (by decide +kernel)
set_option maxRecDepth 20000 in
theorem ggL_law_L_act_c3 : GoodIn wsL_law wsL_act_r3 := goodIn_r _ [89, 90, 100, 101, 102, 103, 104, 13, 105, 106, 107, 108, 109, 110, 111, 11, 112, 34, 36, 43, 113, 114, 115, 116] (by decide +kernel) (by decide +kernel)
set_option maxRecDepth 20000 in
theorem ggL_law_L_act_c4 : GoodIn wsL_law wsL_act_r4 := goodIn_r _ [44, 117, 118, 119, 120, 121, 49, 122, 123, 124, 26, 125, 55, 126, 127, 128, 129, 56, 130, 57, 131, 132, 133, 134] (by decide +kernel) (by decide +kernel)
set_option maxRecDepth 20000 in
theorem ggL_law_L_act_c5 : GoodIn wsL_law wsL_act_r5 := goodIn_r _ [135, 136, 137, 138, 139, 140, 141, 142, 143, 144, 145, 146, 147, 148, 149, 150, 151, 152, 153, 154, 155, 156, 157, 158] (by decide +kernel) (by decide +kernel)
set_option maxRecDepth 20000 in
theorem ggL_law_L_act_c6 : GoodIn wsL_law wsL_act_r6 := goodIn_r _ [159, 160, 161, 162, 163, 164, 165, 166, 167, 168, 169, 170, 171, 172, 173, 174, 175, 176, 177, 178, 179, 180, 181, 182] (by decide +kernel) (by decide +kernel)
set_option maxRecDepth 20000 in
theorem ggL_law_L_act_c7 : GoodIn wsL_law wsL_act_r7 := goodIn_r _ [183, 184, 185, 186, 187, 188, 189, 190, 191, 192, 193, 194, 195, 196, 197, 198, 199, 200, 201, 202, 203, 204, 205, 206] (by decide +kernel) (by decide +kernel)
set_option maxRecDepth 20000 in
theorem ggL_law_L_act_c8 : GoodIn wsL_law wsL_act_r8 := goodIn_r _ [207, 208, 209, 210, 211, 212, 213, 214, 215, 216, 217, 218, 219, 220, 221, 222, 223, 224, 225, 23, 226, 227, 228, 229] (by decide +kernel) (by decide +kernel)
set_option maxRecDepth 20000 in
theorem ggL_law_L_act_c9 : GoodIn wsL_law wsL_act_r9 := goodIn_r _ [230, 231, 232, 233, 234, 235, 236, 237, 238, 239, 240, 241, 242, 243, 244, 245, 246, 247, 248, 249, 250, 251, 252, 253] (by decide +kernel) (by decide +kernel)
set_option maxRecDepth 20000 in
theorem ggL_law_L_act_c10 : GoodIn wsL_law wsL_act_r10 := goodIn_r _ [254, 255, 256, 257, 258, 259, 260, 261, 262, 263, 264, 265, 266, 267, 268, 269, 270, 271, 272, 20, 273, 274, 275, 276] (by decide +kernel) (by decide +kernel)
set_option maxRecDepth 20000 in
theorem ggL_law_L_act_c11 : GoodIn wsL_law wsL_act_r11 := goodIn_r _ [19, 277, 278, 62, 279, 280, 281, 282, 22, 283, 284, 285, 286, 287, 288, 289, 290, 291, 292, 293, 294, 295, 296, 297] (by decide +kernel) (by decide +kernel)
set_option maxRecDepth 20000 in
theorem ggL_law_L_act_c12 : GoodIn wsL_law wsL_act_r12 := goodIn_r _ [298, 299, 300, 301, 302, 303, 304, 305, 306, 307, 14, 16, 308, 309, 310, 311, 312, 313, 314, 323, 324, 325, 326, 327] (by decide +kernel) (by decide +kernel)
set_option maxRecDepth 20000 in
theorem ggL_law_L_act_c13 : GoodIn wsL_law wsL_act_r13 := goodIn_r _ [328, 329, 330, 331, 332, 333, 334, 335, 336, 337, 350, 351, 352, 353, 480, 481, 482, 483, 373, 374, 375, 376, 377, 378] (by decide +kernel) (by decide +kernel)
set_option maxRecDepth 20000 in
theorem ggL_law_L_act_c14 : GoodIn wsL_law wsL_act_r14 := goodIn_r _ [379, 380, 381, 382, 383, 384, 385, 386, 387, 388, 389, 390, 391, 392] (by decide +kernel) (by decide +kernel)
set_option maxRecDepth 20000 in
theorem ggL_law_L_act_wsX40 : GoodIn wsL_law wsX40 := goodIn_r _ [490, 491, 492, 493, 494, 495, 496, 497, 498] (by decide +kernel) (by decide +kernel)
set_option maxRecDepth 20000 in
theorem ggL_law_L_act_wsX20 : GoodIn wsL_law wsX20 := goodIn_r _ [499, 500, 501, 502] (by decide +kernel) (by decide +kernel)
set_option maxRecDepth 20000 in
theorem ggL_law_L_act_wsX30 : GoodIn wsL_law wsX30 := goodIn_r _ [512, 513, 514, 515] (by decide +kernel) (by decide +kernel)
set_option maxRecDepth 20000 in
theorem ggL_law_L_act_wsX10 : GoodIn wsL_law wsX10 := goodIn_r _ [505, 506, 507, 508, 509, 510, 511] (by decide +kernel) (by decide +kernel)
set_option maxRecDepth 20000 in
theorem ggL_law_L_act_wsX00 : GoodIn wsL_law wsX00 := goodIn_r _ [503, 504] (by decide +kernel) (by decide +kernel)
set_option maxRecDepth 20000 in
theorem ggL_law_L_act : GoodIn wsL_law wsL_act := goodIn_ca (goodIn_ca (goodIn_ca (goodIn_cons1 ggL_law_L_act_c0 (goodIn_app (goodIn_app (goodIn_app (goodIn_app (goodIn_app (goodIn_app ggL_law_L_act_c1 (goodIn_app ggL_law_L_act_c2 (goodIn_app ggL_law_L_act_c3 (goodIn_app ggL_law_L_act_c4 (goodIn_app ggL_law_L_act_c5 (goodIn_app ggL_law_L_act_c6 (goodIn_app ggL_law_L_act_c7 (goodIn_app ggL_law_L_act_c8 (goodIn_app ggL_law_L_act_c9 (goodIn_app ggL_law_L_act_c10 (goodIn_app ggL_law_L_act_c11 (goodIn_app ggL_law_L_act_c12 (goodIn_app ggL_law_L_act_c13 (ggL_law_L_act_c14)))))))))))))) ggL_law_L_act_wsX40) ggL_law_L_act_wsX20) ggL_law_L_act_wsX30) ggL_law_L_act_wsX10) ggL_law_L_act_wsX00)) (goodIn_sub (fun _ h => List.mem_append_left _ (List.mem_append_right _ h)) (by decide +kernel))) (goodIn_sub (fun _ h => List.mem_append_left _ (List.mem_append_left _ (List.mem_append_right _ h))) (by decide +kernel))) (goodIn_sub (fun _ h => List.mem_append_right _ h) (by decide +kernel))
set_option maxRecDepth 20000 in
theorem gL_law_L_act : GoodIn wsL_law (va_wsS RL 140 yL_act wsL_act) := goodIn_app (goodIn_of _ (by decide +kernel)) ggL_law_L_act
