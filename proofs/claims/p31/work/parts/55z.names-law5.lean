set_option maxRecDepth 20000 in
theorem ggL_law_L_isSorted_c0 : GoodIn wsL_law [.code yL_isSorted cL_isSorted 7 (some .boolean)] := goodIn_r _ [489] (by decide +kernel) (by decide +kernel)
set_option maxRecDepth 20000 in
theorem ggL_law_L_isSorted_c1 : GoodIn wsL_law wsL_isSorted_r1 := goodIn_r _ [354, 355, 356, 2, 357, 86, 327, 328, 329, 79, 80, 358, 359, 360, 361, 12, 136, 196, 85, 230, 207, 208, 33, 209] (by decide +kernel) (by decide +kernel)
set_option maxRecDepth 20000 in
theorem ggL_law_L_isSorted_c2 : GoodIn wsL_law wsL_isSorted_r2 := goodIn_r _ [99, 210, 211, 212, 213, 50, 202, 203, 204, 205, 206, 214, 215, 216, 217, 49, 218, 219, 220, 221, 362, 363, 364, 365] (by decide +kernel) (by decide +kernel)
set_option maxRecDepth 20000 in
theorem ggL_law_L_isSorted_c3 : GoodIn wsL_law wsL_isSorted_r3 := goodIn_r _ [366, 367, 368, 369, 150, 151, 152, 153, 370, 371, 372, 420, 421, 422, 423, 23, 226, 227, 228, 229, 48, 315, 316, 317] (by decide +kernel) (by decide +kernel)
set_option maxRecDepth 20000 in
theorem ggL_law_L_isSorted_c4 : GoodIn wsL_law wsL_isSorted_r4 := goodIn_r _ [318, 76, 77, 78, 319, 320, 321, 322, 91, 92, 93, 94, 95, 96, 97, 98, 412, 413, 414, 415, 416, 417, 418, 419] (by decide +kernel) (by decide +kernel)
set_option maxRecDepth 20000 in
theorem ggL_law_L_isSorted_c5 : GoodIn wsL_law wsL_isSorted_r5 := goodIn_r _ [323, 324, 325, 326, 330, 331, 332, 333, 334, 335, 336, 337, 393, 394, 395, 396, 397, 398, 399, 400, 424, 425, 426, 427] (by decide +kernel) (by decide +kernel)
set_option maxRecDepth 20000 in
theorem ggL_law_L_isSorted_c6 : GoodIn wsL_law wsL_isSorted_r6 := goodIn_r _ [428, 429, 430, 431] (by decide +kernel) (by decide +kernel)
set_option maxRecDepth 20000 in
theorem ggL_law_L_isSorted_wsX30 : GoodIn wsL_law wsX30 := goodIn_r _ [512, 513, 514, 515] (by decide +kernel) (by decide +kernel)
set_option maxRecDepth 20000 in
theorem ggL_law_L_isSorted_wsX40 : GoodIn wsL_law wsX40 := goodIn_r _ [490, 491, 492, 493, 494, 495, 496, 497, 498] (by decide +kernel) (by decide +kernel)
set_option maxRecDepth 20000 in
theorem ggL_law_L_isSorted_wsX20 : GoodIn wsL_law wsX20 := goodIn_r _ [499, 500, 501, 502] (by decide +kernel) (by decide +kernel)
set_option maxRecDepth 20000 in
theorem ggL_law_L_isSorted_wsX10 : GoodIn wsL_law wsX10 := goodIn_r _ [505, 506, 507, 508, 509, 510, 511] (by decide +kernel) (by decide +kernel)
set_option maxRecDepth 20000 in
theorem ggL_law_L_isSorted : GoodIn wsL_law wsL_isSorted := goodIn_ca (goodIn_cons1 ggL_law_L_isSorted_c0 (goodIn_app (goodIn_app (goodIn_app (goodIn_app (goodIn_app ggL_law_L_isSorted_c1 (goodIn_app ggL_law_L_isSorted_c2 (goodIn_app ggL_law_L_isSorted_c3 (goodIn_app ggL_law_L_isSorted_c4 (goodIn_app ggL_law_L_isSorted_c5 (ggL_law_L_isSorted_c6)))))) ggL_law_L_isSorted_wsX30) ggL_law_L_isSorted_wsX40) ggL_law_L_isSorted_wsX20) ggL_law_L_isSorted_wsX10)) (goodIn_sub (fun _ h => List.mem_append_left _ (List.mem_append_right _ h)) (by decide +kernel))
set_option maxRecDepth 20000 in
theorem gL_law_L_isSorted : GoodIn wsL_law (va_wsS RL 144 yL_isSorted wsL_isSorted) := goodIn_app (goodIn_of _ (by decide +kernel)) ggL_law_L_isSorted
set_option maxRecDepth 20000 in
theorem ggL_law_X4_tree_c0 : GoodIn wsL_law [.code yX4_tree cX4_tree 4 (some .int)] := goodIn_r _ [357] (by decide +kernel) (by decide +kernel)
set_option maxRecDepth 20000 in
theorem ggL_law_X4_tree_c1 : GoodIn wsL_law wsX4_tree_r1 := goodIn_r _ [86, 327, 328, 2, 329, 79, 80, 358, 359, 360, 361, 12, 136, 196, 85, 230, 207, 208, 33, 209, 99, 210, 211, 212] (by decide +kernel) (by decide +kernel)
set_option maxRecDepth 20000 in
theorem ggL_law_X4_tree_c2 : GoodIn wsL_law wsX4_tree_r2 := goodIn_r _ [213, 50, 202, 203, 204, 205, 206, 214, 215, 216, 217, 49, 218, 219, 220, 221, 362, 363, 364, 365, 366, 367, 368, 369] (by decide +kernel) (by decide +kernel)
set_option maxRecDepth 20000 in
theorem ggL_law_X4_tree_c3 : GoodIn wsL_law wsX4_tree_r3 := goodIn_r _ [150, 151, 152, 153, 370, 371, 372] (by decide +kernel) (by decide +kernel)
set_option maxRecDepth 20000 in
theorem ggL_law_X4_tree_wsX30 : GoodIn wsL_law wsX30 := goodIn_r _ [512, 513, 514, 515] (by decide +kernel) (by decide +kernel)
set_option maxRecDepth 20000 in
theorem ggL_law_X4_tree_wsX40 : GoodIn wsL_law wsX40 := goodIn_r _ [490, 491, 492, 493, 494, 495, 496, 497, 498] (by decide +kernel) (by decide +kernel)
set_option maxRecDepth 20000 in
theorem ggL_law_X4_tree_wsX20 : GoodIn wsL_law wsX20 := goodIn_r _ [499, 500, 501, 502] (by decide +kernel) (by decide +kernel)
set_option maxRecDepth 20000 in
theorem ggL_law_X4_tree_wsX10 : GoodIn wsL_law wsX10 := goodIn_r _ [505, 506, 507, 508, 509, 510, 511] (by decide +kernel) (by decide +kernel)
set_option maxRecDepth 20000 in
theorem ggL_law_X4_tree : GoodIn wsL_law wsX4_tree := goodIn_ca (goodIn_cons1 ggL_law_X4_tree_c0 (goodIn_app (goodIn_app (goodIn_app (goodIn_app (goodIn_app ggL_law_X4_tree_c1 (goodIn_app ggL_law_X4_tree_c2 (ggL_law_X4_tree_c3))) ggL_law_X4_tree_wsX30) ggL_law_X4_tree_wsX40) ggL_law_X4_tree_wsX20) ggL_law_X4_tree_wsX10)) (goodIn_sub (fun _ h => List.mem_append_left _ (List.mem_append_right _ h)) (by decide +kernel))
set_option maxRecDepth 20000 in
theorem gL_law_X4_tree : GoodIn wsL_law (wsV RL 70 RX4 yX4_tree wsX4_tree) := goodIn_app (goodIn_of _ (by decide +kernel)) ggL_law_X4_tree
set_option maxRecDepth 20000 in
theorem ggL_law_X4_keep_c0 : GoodIn wsL_law [.code yX4_keep cX4_keep 2 (some .int)] := goodIn_r _ [307] (by decide +kernel) (by decide +kernel)
set_option maxRecDepth 20000 in
theorem ggL_law_X4_keep_c1 : GoodIn wsL_law wsX4_keep_r1 := goodIn_r _ [14, 12, 16, 85, 308, 309, 2, 310, 79, 80, 109, 110, 111, 11, 112, 34, 36, 43, 113, 114, 115, 116, 44, 117] (by decide +kernel) (by decide +kernel)
set_option maxRecDepth 20000 in
theorem ggL_law_X4_keep_c2 : GoodIn wsL_law wsX4_keep_r2 := goodIn_r _ [118, 119, 33, 120, 99, 48, 121, 49, 50, 122, 123, 124, 26, 125, 55, 126, 127, 128, 129, 56, 130, 57, 131, 230] (by decide +kernel) (by decide +kernel)
set_option maxRecDepth 20000 in
theorem ggL_law_X4_keep_c3 : GoodIn wsL_law wsX4_keep_r3 := goodIn_r _ [207, 208, 209, 210, 211, 212, 213] (by decide +kernel) (by decide +kernel)
set_option maxRecDepth 20000 in
theorem ggL_law_X4_keep_wsX40 : GoodIn wsL_law wsX40 := goodIn_r _ [490, 491, 492, 493, 494, 495, 496, 497, 498] (by decide +kernel) (by decide +kernel)
set_option maxRecDepth 20000 in
theorem ggL_law_X4_keep_wsX20 : GoodIn wsL_law wsX20 := goodIn_r _ [499, 500, 501, 502] (by decide +kernel) (by decide +kernel)
set_option maxRecDepth 20000 in
theorem ggL_law_X4_keep_wsX30 : GoodIn wsL_law wsX30 := goodIn_r _ [512, 513, 514, 515] (by decide +kernel) (by decide +kernel)
set_option maxRecDepth 20000 in
theorem ggL_law_X4_keep_wsX10 : GoodIn wsL_law wsX10 := goodIn_r _ [505, 506, 507, 508, 509, 510, 511] (by decide +kernel) (by decide +kernel)
set_option maxRecDepth 20000 in
theorem ggL_law_X4_keep : GoodIn wsL_law wsX4_keep := goodIn_ca (goodIn_cons1 ggL_law_X4_keep_c0 (goodIn_app (goodIn_app (goodIn_app (goodIn_app (goodIn_app ggL_law_X4_keep_c1 (goodIn_app ggL_law_X4_keep_c2 (ggL_law_X4_keep_c3))) ggL_law_X4_keep_wsX40) ggL_law_X4_keep_wsX20) ggL_law_X4_keep_wsX30) ggL_law_X4_keep_wsX10)) (goodIn_sub (fun _ h => List.mem_append_left _ (List.mem_append_right _ h)) (by decide +kernel))
set_option maxRecDepth 20000 in
theorem gL_law_X4_keep : GoodIn wsL_law (wsV RL 38 RX4 yX4_keep wsX4_keep) := goodIn_app (goodIn_of _ (by decide +kernel)) ggL_law_X4_keep
set_option maxRecDepth 20000 in
theorem ggL_law_X4_undo : GoodIn wsL_law wsX4_undo := goodIn_ca (goodIn_r _ [303, 74, 75, 104, 12, 13, 109, 110, 111, 11, 112, 34, 36, 43, 113, 114, 115, 116, 44, 117, 118, 119, 33, 120, 99, 48, 121, 49, 50, 122, 123, 124, 26, 125, 55, 126, 127, 128, 129, 56, 130, 57, 131, 490, 491, 492, 493, 494, 495, 496, 497, 498, 499, 500, 501, 502, 512, 513, 514, 515, 505, 506, 507, 508, 509, 510, 511] (by decide +kernel) (by decide +kernel)) (goodIn_sub (fun _ h => List.mem_append_left _ (List.mem_append_left _ (List.mem_append_right _ h))) (by decide +kernel))
set_option maxRecDepth 20000 in
theorem gL_law_X4_undo : GoodIn wsL_law (wsV RL 35 RX4 yX4_undo wsX4_undo) := goodIn_app (goodIn_of _ (by decide +kernel)) ggL_law_X4_undo
set_option maxRecDepth 20000 in
theorem ggL_law_X4_goBack_c0 : GoodIn wsL_law [.code yX4_goBack cX4_goBack 2 (some .int)] := goodIn_r _ [314] (by decide +kernel) (by decide +kernel)
set_option maxRecDepth 20000 in
theorem ggL_law_X4_goBack_c1 : GoodIn wsL_law wsX4_goBack_r1 := goodIn_r _ [74, 75, 16, 12, 14, 85, 308, 309, 2, 310, 79, 80, 100, 101, 102, 103, 104, 13, 105, 106, 107, 108, 109, 110] (by decide +kernel) (by decide +kernel)
set_option maxRecDepth 20000 in
theorem ggL_law_X4_goBack_c2 : GoodIn wsL_law wsX4_goBack_r2 := goodIn_r _ [111, 11, 112, 34, 36, 43, 113, 114, 115, 116, 44, 117, 118, 119, 33, 120, 99, 48, 121, 49, 50, 122, 123, 124] (by decide +kernel) (by decide +kernel)
set_option maxRecDepth 20000 in
theorem ggL_law_X4_goBack_c3 : GoodIn wsL_law wsX4_goBack_r3 := goodIn_r _ [26, 125, 55, 126, 127, 128, 129, 56, 130, 57, 131, 230, 207, 208, 209, 210, 211, 212, 213] (by decide +kernel) (by decide +kernel)
set_option maxRecDepth 20000 in
theorem ggL_law_X4_goBack_wsX40 : GoodIn wsL_law wsX40 := goodIn_r _ [490, 491, 492, 493, 494, 495, 496, 497, 498] (by decide +kernel) (by decide +kernel)
set_option maxRecDepth 20000 in
theorem ggL_law_X4_goBack_wsX20 : GoodIn wsL_law wsX20 := goodIn_r _ [499, 500, 501, 502] (by decide +kernel) (by decide +kernel)
set_option maxRecDepth 20000 in
theorem ggL_law_X4_goBack_wsX30 : GoodIn wsL_law wsX30 := goodIn_r _ [512, 513, 514, 515] (by decide +kernel) (by decide +kernel)
set_option maxRecDepth 20000 in
theorem ggL_law_X4_goBack_wsX10 : GoodIn wsL_law wsX10 := goodIn_r _ [505, 506, 507, 508, 509, 510, 511] (by decide +kernel) (by decide +kernel)
set_option maxRecDepth 20000 in
theorem ggL_law_X4_goBack : GoodIn wsL_law wsX4_goBack := goodIn_ca (goodIn_ca (goodIn_cons1 ggL_law_X4_goBack_c0 (goodIn_app (goodIn_app (goodIn_app (goodIn_app (goodIn_app ggL_law_X4_goBack_c1 (goodIn_app ggL_law_X4_goBack_c2 (ggL_law_X4_goBack_c3))) ggL_law_X4_goBack_wsX40) ggL_law_X4_goBack_wsX20) ggL_law_X4_goBack_wsX30) ggL_law_X4_goBack_wsX10)) (goodIn_sub (fun _ h => List.mem_append_left _ (List.mem_append_left _ (List.mem_append_right _ h))) (by decide +kernel))) (goodIn_sub (fun _ h => List.mem_append_left _ (List.mem_append_right _ h)) (by decide +kernel))
set_option maxRecDepth 20000 in
theorem gL_law_X4_goBack : GoodIn wsL_law (wsV RL 41 RX4 yX4_goBack wsX4_goBack) := goodIn_app (goodIn_of _ (by decide +kernel)) ggL_law_X4_goBack
