set_option maxRecDepth 20000 in
theorem ggL_isQueued_L_call_c0 : GoodIn wsL_isQueued [.codeWith yL_call cL_call 5 (some .int) [(0, 158, 159, 51), (0, 158, 164, 53), (0, 158, 169, 55)]] := goodIn_r _ [4] (by decide +kernel) (by decide +kernel)
set_option maxRecDepth 20000 in
theorem ggL_isQueued_L_call_c1 : GoodIn wsL_isQueued wsL_call_r1 := goodIn_r _ [5, 6, 7, 8, 9, 10, 11, 12, 13, 14, 15, 16, 17, 18, 19, 20, 21, 22, 23, 24, 25, 26, 27, 28] (by decide +kernel) (by decide +kernel)
set_option maxRecDepth 20000 in
theorem ggL_isQueued_L_call_c2 : GoodIn wsL_isQueued wsL_call_r2 := goodIn_r _ [29, 30, 31, 32, 33, 34, 35, 36, 37, 38, 39, 40, 41, 42, 43, 44, 45, 46, 47, 48, 49, 50, 51, 52] (by decide +kernel) (by decide +kernel)
set_option maxRecDepth 20000 in
theorem ggL_isQueued_L_call_c3 : GoodIn wsL_isQueued wsL_call_r3 := goodIn_r _ [53, 54, 55, 56, 57, 58, 59, 60, 61, 62, 63, 64, 65, 66, 67, 68, 69, 70, 71, 72, 73, 74, 75, 76] (by decide +kernel) (by decide +kernel)
set_option maxRecDepth 20000 in
theorem ggL_isQueued_L_call_c4 : GoodIn wsL_isQueued wsL_call_r4 := goodIn_r _ [77, 78, 79, 80, 81, 82, 83, 84, 85, 86, 87, 88, 89, 90, 91, 92, 93, 94, 95, 96, 97, 98, 99, 100] (by decide +kernel) (by decide +kernel)
set_option maxRecDepth 20000 in
theorem ggL_isQueued_L_call_c5 : GoodIn wsL_isQueued wsL_call_r5 := goodIn_r _ [101, 102, 103, 104, 105, 106, 107, 108, 109, 110, 111, 112, 113, 114, 115, 116, 117, 118, 119, 120, 121, 122, 123, 124] (by decide +kernel) (by decide +kernel)
set_option maxRecDepth 20000 in
theorem ggL_isQueued_L_call_c6 : GoodIn wsL_isQueued wsL_call_r6 := goodIn_r _ [125, 126, 127, 128, 129, 130, 131, 132, 133, 134, 135, 136, 137, 138, 139, 140, 141, 142, 143, 144, 145, 146, 147, 148] (by decide +kernel) (by decide +kernel)
set_option maxRecDepth 20000 in
theorem ggL_isQueued_L_call_c7 : GoodIn wsL_isQueued wsL_call_r7 := goodIn_r _ [149, 150, 151, 152, 153, 154, 155, 156, 157, 158, 159, 160, 161, 162, 163, 164, 165, 166, 167, 168, 169, 170, 171, 172] (by decide +kernel) (by decide +kernel)
set_option maxRecDepth 20000 in
theorem ggL_isQueued_L_call_c8 : GoodIn wsL_isQueued wsL_call_r8 := goodIn_r _ [173, 174, 175, 176, 177, 178, 179, 180, 181, 182, 183, 184, 185, 186, 187, 188, 189, 190, 191, 192, 193, 194, 195, 196] (by decide +kernel) (by decide +kernel)
set_option maxRecDepth 20000 in
theorem ggL_isQueued_L_call_c9 : GoodIn wsL_isQueued wsL_call_r9 := goodIn_r _ [197, 198, 199, 200, 201, 202, 203, 204, 205, 206, 207, 208, 209, 210, 211, 212, 213, 214, 215, 216, 217, 218, 219, 220] (by decide +kernel) (by decide +kernel)
set_option maxRecDepth 20000 in
theorem ggL_isQueued_L_call_c10 : GoodIn wsL_isQueued wsL_call_r10 := goodIn_r _ [221, 222, 223, 224, 225, 226, 227, 228, 229, 230, 231, 232, 233, 234, 235, 236, 237, 238, 239, 240, 241, 242, 243, 244] (by decide +kernel) (by decide +kernel)
set_option maxRecDepth 20000 in
theorem ggL_isQueued_L_call_c11 : GoodIn wsL_isQueued wsL_call_r11 := goodIn_r _ [245, 246, 247, 248, 249, 250, 251, 252, 253, 254, 255, 256, 257, 258, 259, 260, 261, 262, 263, 264, 265, 266, 267, 268] (by decide +kernel) (by decide +kernel)
set_option maxRecDepth 20000 in
theorem ggL_isQueued_L_call_c12 : GoodIn wsL_isQueued wsL_call_r12 := goodIn_r _ [269, 270, 271, 272, 273, 274, 275, 276, 277, 278, 279, 280, 281, 282, 283, 284, 285, 286, 287, 288, 289, 290, 291, 292] (by decide +kernel) (by decide +kernel)
set_option maxRecDepth 20000 in
theorem ggL_isQueued_L_call_c13 : GoodIn wsL_isQueued wsL_call_r13 := goodIn_r _ [293, 294, 295, 296, 297, 298] (by decide +kernel) (by decide +kernel)
set_option maxRecDepth 20000 in
theorem ggL_isQueued_L_call_wsX40 : GoodIn wsL_isQueued wsX40 := goodIn_r _ [374, 375, 376, 377, 378, 379, 380, 381, 382] (by decide +kernel) (by decide +kernel)
set_option maxRecDepth 20000 in
theorem ggL_isQueued_L_call_wsX20 : GoodIn wsL_isQueued wsX20 := goodIn_r _ [383, 384, 385, 386] (by decide +kernel) (by decide +kernel)
set_option maxRecDepth 20000 in
theorem ggL_isQueued_L_call_wsX30 : GoodIn wsL_isQueued wsX30 := goodIn_r _ [387, 388, 389, 390] (by decide +kernel) (by decide +kernel)
set_option maxRecDepth 20000 in
theorem ggL_isQueued_L_call_wsX10 : GoodIn wsL_isQueued wsX10 := goodIn_r _ [391, 392, 393, 394, 395, 396, 397] (by decide +kernel) (by decide +kernel)
set_option maxRecDepth 20000 in
theorem ggL_isQueued_L_call_wsX00 : GoodIn wsL_isQueued wsX00 := goodIn_r _ [398, 399] (by decide +kernel) (by decide +kernel)
set_option maxRecDepth 20000 in
theorem ggL_isQueued_L_call : GoodIn wsL_isQueued wsL_call := goodIn_ca (goodIn_ca (goodIn_ca (goodIn_cons1 ggL_isQueued_L_call_c0 (goodIn_app (goodIn_app (goodIn_app (goodIn_app (goodIn_app (goodIn_app ggL_isQueued_L_call_c1 (goodIn_app ggL_isQueued_L_call_c2 (goodIn_app ggL_isQueued_L_call_c3 (goodIn_app ggL_isQueued_L_call_c4 (goodIn_app ggL_isQueued_L_call_c5 (goodIn_app ggL_isQueued_L_call_c6 (goodIn_app ggL_isQueued_L_call_c7 (goodIn_app ggL_isQueued_L_call_c8 (goodIn_app ggL_isQueued_L_call_c9 (goodIn_app ggL_isQueued_L_call_c10 (goodIn_app ggL_isQueued_L_call_c11 (goodIn_app ggL_isQueued_L_call_c12 (ggL_isQueued_L_call_c13))))))))))))) ggL_isQueued_L_call_wsX40) ggL_isQueued_L_call_wsX20) ggL_isQueued_L_call_wsX30) ggL_isQueued_L_call_wsX10) ggL_isQueued_L_call_wsX00)) (goodIn_sub (fun _ h => List.mem_cons_of_mem _ (List.mem_append_left _ (List.mem_append_left _ (List.mem_append_right _ h)))) (by decide +kernel))) (goodIn_sub (fun _ h => List.mem_cons_of_mem _ (List.mem_append_left _ (List.mem_append_right _ h))) (by decide +kernel))) (goodIn_sub (fun _ h => List.mem_cons_of_mem _ (List.mem_append_right _ h)) (by decide +kernel))
set_option maxRecDepth 20000 in
theorem gL_isQueued_L_call : GoodIn wsL_isQueued (va_wsS RL 99 yL_call wsL_call) := goodIn_app (goodIn_of _ (by decide +kernel)) ggL_isQueued_L_call
set_option maxRecDepth 20000 in
theorem ggL_isQueued_X4_count : GoodIn wsL_isQueued wsX4_count := goodIn_ca (goodIn_r _ [302, 24, 117, 46, 228, 229, 288, 289, 11, 290, 18, 19, 374, 375, 376, 377, 378, 379, 380, 381, 382, 383, 384, 385, 386, 398, 399] (by decide +kernel) (by decide +kernel)) (goodIn_sub (fun _ h => List.mem_cons_of_mem _ (List.mem_append_left _ (List.mem_append_right _ h))) (by decide +kernel))
set_option maxRecDepth 20000 in
theorem gL_isQueued_X4_count : GoodIn wsL_isQueued (wsV RL 80 RX4 yX4_count wsX4_count) := goodIn_app (goodIn_of _ (by decide +kernel)) ggL_isQueued_X4_count
set_option maxRecDepth 20000 in
theorem ggL_isQueued_L_keyOf : GoodIn wsL_isQueued wsL_keyOf := goodIn_r _ [305] (by decide +kernel) (by decide +kernel)
set_option maxRecDepth 20000 in
theorem gL_isQueued_L_keyOf : GoodIn wsL_isQueued (va_wsS RL 116 yL_keyOf wsL_keyOf) := goodIn_app (goodIn_of _ (by decide +kernel)) ggL_isQueued_L_keyOf
set_option maxRecDepth 20000 in
theorem ggL_isQueued_X4_rebuild_c0 : GoodIn wsL_isQueued [.code yX4_rebuild cX4_rebuild 3 (some .int)] := goodIn_r _ [309] (by decide +kernel) (by decide +kernel)
set_option maxRecDepth 20000 in
theorem ggL_isQueued_X4_rebuild_c1 : GoodIn wsL_isQueued wsX4_rebuild_r1 := goodIn_r _ [24, 90, 207, 212, 112, 91, 288, 289, 11, 290, 18, 19, 310, 311, 312, 75, 313, 81, 79, 78, 314, 315, 316, 317] (by decide +kernel) (by decide +kernel)
set_option maxRecDepth 20000 in
theorem ggL_isQueued_X4_rebuild_c2 : GoodIn wsL_isQueued wsX4_rebuild_r2 := goodIn_r _ [82, 318, 319, 320, 321, 150, 25, 180, 181, 182, 183, 30, 184, 41, 36, 71, 322, 323, 324, 325, 185, 161, 162, 163] (by decide +kernel) (by decide +kernel)
set_option maxRecDepth 20000 in
theorem ggL_isQueued_X4_rebuild_c3 : GoodIn wsL_isQueued wsX4_rebuild_r3 := goodIn_r _ [164, 165, 166, 167] (by decide +kernel) (by decide +kernel)
set_option maxRecDepth 20000 in
theorem ggL_isQueued_X4_rebuild_wsX40 : GoodIn wsL_isQueued wsX40 := goodIn_r _ [374, 375, 376, 377, 378, 379, 380, 381, 382] (by decide +kernel) (by decide +kernel)
set_option maxRecDepth 20000 in
theorem ggL_isQueued_X4_rebuild_wsX20 : GoodIn wsL_isQueued wsX20 := goodIn_r _ [383, 384, 385, 386] (by decide +kernel) (by decide +kernel)
set_option maxRecDepth 20000 in
theorem ggL_isQueued_X4_rebuild_wsX10 : GoodIn wsL_isQueued wsX10 := goodIn_r _ [391, 392, 393, 394, 395, 396, 397] (by decide +kernel) (by decide +kernel)
set_option maxRecDepth 20000 in
theorem ggL_isQueued_X4_rebuild_wsX30 : GoodIn wsL_isQueued wsX30 := goodIn_r _ [387, 388, 389, 390] (by decide +kernel) (by decide +kernel)
set_option maxRecDepth 20000 in
theorem ggL_isQueued_X4_rebuild : GoodIn wsL_isQueued wsX4_rebuild := goodIn_ca (goodIn_cons1 ggL_isQueued_X4_rebuild_c0 (goodIn_app (goodIn_app (goodIn_app (goodIn_app (goodIn_app ggL_isQueued_X4_rebuild_c1 (goodIn_app ggL_isQueued_X4_rebuild_c2 (ggL_isQueued_X4_rebuild_c3))) ggL_isQueued_X4_rebuild_wsX40) ggL_isQueued_X4_rebuild_wsX20) ggL_isQueued_X4_rebuild_wsX10) ggL_isQueued_X4_rebuild_wsX30)) (goodIn_sub (fun _ h => List.mem_cons_of_mem _ (List.mem_append_left _ (List.mem_append_right _ h))) (by decide +kernel))
set_option maxRecDepth 20000 in
theorem gL_isQueued_X4_rebuild : GoodIn wsL_isQueued (wsV RL 74 RX4 yX4_rebuild wsX4_rebuild) := goodIn_app (goodIn_of _ (by decide +kernel)) ggL_isQueued_X4_rebuild
set_option maxRecDepth 20000 in
theorem ggL_isQueued_X4_queued : GoodIn wsL_isQueued wsX4_queued := goodIn_ca (goodIn_r _ [329, 18, 19, 24, 90, 112, 330, 374, 375, 376, 377, 378, 379, 380, 381, 382, 383, 384, 385, 386, 391, 392, 393, 394, 395, 396, 397] (by decide +kernel) (by decide +kernel)) (goodIn_sub (fun _ h => List.mem_cons_of_mem _ (List.mem_append_left _ (List.mem_append_right _ h))) (by decide +kernel))
set_option maxRecDepth 20000 in
theorem gL_isQueued_X4_queued : GoodIn wsL_isQueued (wsV RL 77 RX4 yX4_queued wsX4_queued) := goodIn_app (goodIn_of _ (by decide +kernel)) ggL_isQueued_X4_queued
set_option maxRecDepth 20000 in
theorem ggL_isQueued_X4_tree_c0 : GoodIn wsL_isQueued [.code yX4_tree cX4_tree 4 (some .int)] := goodIn_r _ [334] (by decide +kernel) (by decide +kernel)
set_option maxRecDepth 20000 in
theorem ggL_isQueued_X4_tree_c1 : GoodIn wsL_isQueued wsX4_tree_r1 := goodIn_r _ [26, 288, 289, 11, 290, 18, 19, 335, 336, 337, 338, 24, 90, 150, 25, 185, 161, 162, 30, 163, 41, 164, 165, 166] (by decide +kernel) (by decide +kernel)
set_option maxRecDepth 20000 in
theorem ggL_isQueued_X4_tree_c2 : GoodIn wsL_isQueued wsX4_tree_r2 := goodIn_r _ [167, 71, 156, 157, 158, 159, 160, 168, 169, 170, 171, 70, 172, 173, 174, 175, 339, 340, 341, 342, 343, 344, 345, 346] (by decide +kernel) (by decide +kernel)
set_option maxRecDepth 20000 in
theorem ggL_isQueued_X4_tree_c3 : GoodIn wsL_isQueued wsX4_tree_r3 := goodIn_r _ [104, 105, 106, 107, 347, 348, 349] (by decide +kernel) (by decide +kernel)
set_option maxRecDepth 20000 in
theorem ggL_isQueued_X4_tree_wsX30 : GoodIn wsL_isQueued wsX30 := goodIn_r _ [387, 388, 389, 390] (by decide +kernel) (by decide +kernel)
set_option maxRecDepth 20000 in
theorem ggL_isQueued_X4_tree_wsX40 : GoodIn wsL_isQueued wsX40 := goodIn_r _ [374, 375, 376, 377, 378, 379, 380, 381, 382] (by decide +kernel) (by decide +kernel)
set_option maxRecDepth 20000 in
theorem ggL_isQueued_X4_tree_wsX20 : GoodIn wsL_isQueued wsX20 := goodIn_r _ [383, 384, 385, 386] (by decide +kernel) (by decide +kernel)
set_option maxRecDepth 20000 in
theorem ggL_isQueued_X4_tree_wsX10 : GoodIn wsL_isQueued wsX10 := goodIn_r _ [391, 392, 393, 394, 395, 396, 397] (by decide +kernel) (by decide +kernel)
set_option maxRecDepth 20000 in
theorem ggL_isQueued_X4_tree : GoodIn wsL_isQueued wsX4_tree := goodIn_ca (goodIn_cons1 ggL_isQueued_X4_tree_c0 (goodIn_app (goodIn_app (goodIn_app (goodIn_app (goodIn_app ggL_isQueued_X4_tree_c1 (goodIn_app ggL_isQueued_X4_tree_c2 (ggL_isQueued_X4_tree_c3))) ggL_isQueued_X4_tree_wsX30) ggL_isQueued_X4_tree_wsX40) ggL_isQueued_X4_tree_wsX20) ggL_isQueued_X4_tree_wsX10)) (goodIn_sub (fun _ h => List.mem_cons_of_mem _ (List.mem_append_left _ (List.mem_append_right _ h))) (by decide +kernel))
set_option maxRecDepth 20000 in
theorem gL_isQueued_X4_tree : GoodIn wsL_isQueued (wsV RL 70 RX4 yX4_tree wsX4_tree) := goodIn_app (goodIn_of _ (by decide +kernel)) ggL_isQueued_X4_tree
set_option maxRecDepth 20000 in
theorem ggL_isQueued_X4_untilExchange : GoodIn wsL_isQueued wsX4_untilExchange := goodIn_ca (goodIn_r _ [353, 24, 90, 91, 354, 355, 11, 356, 18, 19, 357, 358, 359, 75, 360, 361, 362, 363, 364, 78, 79, 80, 365, 173, 174, 175, 374, 375, 376, 377, 378, 379, 380, 381, 382, 383, 384, 385, 386, 391, 392, 393, 394, 395, 396, 397] (by decide +kernel) (by decide +kernel)) (goodIn_sub (fun _ h => List.mem_cons_of_mem _ (List.mem_append_left _ (List.mem_append_right _ h))) (by decide +kernel))
set_option maxRecDepth 20000 in
theorem gL_isQueued_X4_untilExchange : GoodIn wsL_isQueued (wsV RL 86 RX4 yX4_untilExchange wsX4_untilExchange) := goodIn_app (goodIn_of _ (by decide +kernel)) ggL_isQueued_X4_untilExchange
set_option maxRecDepth 20000 in
theorem ggL_isQueued_X4_leastSpeed : GoodIn wsL_isQueued wsX4_leastSpeed := goodIn_ca (goodIn_r _ [369, 18, 19, 24, 90, 91, 357, 358, 359, 75, 360, 361, 362, 363, 364, 78, 79, 80, 365, 173, 174, 175, 374, 375, 376, 377, 378, 379, 380, 381, 382, 383, 384, 385, 386, 391, 392, 393, 394, 395, 396, 397] (by decide +kernel) (by decide +kernel)) (goodIn_sub (fun _ h => List.mem_cons_of_mem _ (List.mem_append_left _ (List.mem_append_right _ h))) (by decide +kernel))
set_option maxRecDepth 20000 in
theorem gL_isQueued_X4_leastSpeed : GoodIn wsL_isQueued (wsV RL 92 RX4 yX4_leastSpeed wsX4_leastSpeed) := goodIn_app (goodIn_of _ (by decide +kernel)) ggL_isQueued_X4_leastSpeed
set_option maxRecDepth 20000 in
theorem ggL_isQueued_X4_idle_c0 : GoodIn wsL_isQueued [.code yX4_idle cX4_idle 1 (some .int)] := goodIn_r _ [373] (by decide +kernel) (by decide +kernel)
set_option maxRecDepth 20000 in
theorem ggL_isQueued_X4_idle_c1 : GoodIn wsL_isQueued wsX4_idle_r1 := goodIn_r _ [24, 117, 42, 43, 44, 11, 45, 46, 47, 48, 49, 50, 51, 52, 53, 54, 55, 56, 57, 58, 59, 60, 61, 62] (by decide +kernel) (by decide +kernel)
set_option maxRecDepth 20000 in
theorem ggL_isQueued_X4_idle_c2 : GoodIn wsL_isQueued wsX4_idle_r2 := goodIn_r _ [63, 64, 65, 66, 67, 30, 68, 41, 36, 69, 70, 71, 72, 73, 74, 75, 76, 77, 78, 79, 80, 81, 82, 83] (by decide +kernel) (by decide +kernel)
set_option maxRecDepth 20000 in
theorem ggL_isQueued_X4_idle_c3 : GoodIn wsL_isQueued wsX4_idle_r3 := goodIn_r _ [84, 85, 86, 87, 88, 89, 25, 90, 91, 92, 93, 94, 95, 37, 38, 39, 40, 96, 97, 98, 99, 100, 101, 102] (by decide +kernel) (by decide +kernel)
set_option maxRecDepth 20000 in
theorem ggL_isQueued_X4_idle_c4 : GoodIn wsL_isQueued wsX4_idle_r4 := goodIn_r _ [103, 104, 105, 106, 107, 108, 109, 110, 111, 112, 113, 114, 115, 116, 118, 119, 120, 121, 122, 123, 124, 125, 126, 127] (by decide +kernel) (by decide +kernel)
set_option maxRecDepth 20000 in
theorem ggL_isQueued_X4_idle_c5 : GoodIn wsL_isQueued wsX4_idle_r5 := goodIn_r _ [128, 129, 130, 131, 132, 133, 134, 135, 136, 137, 138, 139, 140, 141, 142, 143, 144, 145, 146, 147, 148, 149, 150, 151] (by decide +kernel) (by decide +kernel)
set_option maxRecDepth 20000 in
theorem ggL_isQueued_X4_idle_c6 : GoodIn wsL_isQueued wsX4_idle_r6 := goodIn_r _ [152, 153, 154, 155, 26, 156, 157, 158, 159, 160, 161, 162, 163, 164, 165, 166, 167, 168, 169, 170, 171, 172, 173, 174] (by decide +kernel) (by decide +kernel)
set_option maxRecDepth 20000 in
theorem ggL_isQueued_X4_idle_c7 : GoodIn wsL_isQueued wsX4_idle_r7 := goodIn_r _ [175, 176, 177, 178, 179, 180, 181, 182, 183, 184, 185, 186, 187, 188, 189, 190, 191, 192, 193, 194, 195, 196, 197, 198] (by decide +kernel) (by decide +kernel)
set_option maxRecDepth 20000 in
theorem ggL_isQueued_X4_idle_wsX40 : GoodIn wsL_isQueued wsX40 := goodIn_r _ [374, 375, 376, 377, 378, 379, 380, 381, 382] (by decide +kernel) (by decide +kernel)
set_option maxRecDepth 20000 in
theorem ggL_isQueued_X4_idle_wsX20 : GoodIn wsL_isQueued wsX20 := goodIn_r _ [383, 384, 385, 386] (by decide +kernel) (by decide +kernel)
set_option maxRecDepth 20000 in
theorem ggL_isQueued_X4_idle_wsX30 : GoodIn wsL_isQueued wsX30 := goodIn_r _ [387, 388, 389, 390] (by decide +kernel) (by decide +kernel)
set_option maxRecDepth 20000 in
theorem ggL_isQueued_X4_idle_wsX10 : GoodIn wsL_isQueued wsX10 := goodIn_r _ [391, 392, 393, 394, 395, 396, 397] (by decide +kernel) (by decide +kernel)
set_option maxRecDepth 20000 in
theorem ggL_isQueued_X4_idle : GoodIn wsL_isQueued wsX4_idle := goodIn_cons1 ggL_isQueued_X4_idle_c0 (goodIn_app (goodIn_app (goodIn_app (goodIn_app (goodIn_app ggL_isQueued_X4_idle_c1 (goodIn_app ggL_isQueued_X4_idle_c2 (goodIn_app ggL_isQueued_X4_idle_c3 (goodIn_app ggL_isQueued_X4_idle_c4 (goodIn_app ggL_isQueued_X4_idle_c5 (goodIn_app ggL_isQueued_X4_idle_c6 (ggL_isQueued_X4_idle_c7))))))) ggL_isQueued_X4_idle_wsX40) ggL_isQueued_X4_idle_wsX20) ggL_isQueued_X4_idle_wsX30) ggL_isQueued_X4_idle_wsX10)
set_option maxRecDepth 20000 in
theorem gL_isQueued_X4_idle : GoodIn wsL_isQueued (wsV RL 126 RX4 yX4_idle wsX4_idle) := goodIn_app (goodIn_of _ (by decide +kernel)) ggL_isQueued_X4_idle
