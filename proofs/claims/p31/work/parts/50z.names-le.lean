set_option maxRecDepth 20000 in
theorem ggL_isFull_L_call_c0 : GoodIn wsL_isFull [.codeWith yL_call cL_call 5 (some .int) [(0, 158, 159, 51), (0, 158, 164, 53), (0, 158, 169, 55)]] := goodIn_r _ [4] (by decide +kernel) (by decide +kernel)
set_option maxRecDepth 20000 in
theorem ggL_isFull_L_call_c1 : GoodIn wsL_isFull wsL_call_r1 := goodIn_r _ [5, 6, 7, 8, 9, 10, 11, 12, 13, 14, 15, 16, 17, 18, 19, 20, 21, 22, 23, 24, 25, 26, 27, 28] (by decide +kernel) (by decide +kernel)
set_option maxRecDepth 20000 in
theorem ggL_isFull_L_call_c2 : GoodIn wsL_isFull wsL_call_r2 := goodIn_r _ [29, 30, 31, 32, 33, 34, 35, 36, 37, 38, 39, 40, 41, 42, 43, 44, 45, 46, 47, 48, 49, 50, 51, 52] (by decide +kernel) (by decide +kernel)
set_option maxRecDepth 20000 in
theorem ggL_isFull_L_call_c3 : GoodIn wsL_isFull wsL_call_r3 := goodIn_r _ [53, 54, 55, 56, 57, 58, 59, 60, 61, 62, 63, 64, 65, 66, 67, 68, 69, 70, 71, 72, 73, 74, 75, 76] (by decide +kernel) (by decide +kernel)
set_option maxRecDepth 20000 in
theorem ggL_isFull_L_call_c4 : GoodIn wsL_isFull wsL_call_r4 := goodIn_r _ [77, 78, 79, 80, 81, 82, 83, 84, 85, 86, 87, 88, 89, 90, 91, 92, 93, 94, 95, 96, 97, 98, 99, 100] (by decide +kernel) (by decide +kernel)
set_option maxRecDepth 20000 in
theorem ggL_isFull_L_call_c5 : GoodIn wsL_isFull wsL_call_r5 := goodIn_r _ [101, 102, 103, 104, 105, 106, 107, 108, 109, 110, 111, 112, 113, 114, 115, 116, 117, 118, 119, 120, 121, 122, 123, 124] (by decide +kernel) (by decide +kernel)
set_option maxRecDepth 20000 in
theorem ggL_isFull_L_call_c6 : GoodIn wsL_isFull wsL_call_r6 := goodIn_r _ [125, 126, 127, 128, 129, 130, 131, 132, 133, 134, 135, 136, 137, 138, 139, 140, 141, 142, 143, 144, 145, 146, 147, 148] (by decide +kernel) (by decide +kernel)
set_option maxRecDepth 20000 in
theorem ggL_isFull_L_call_c7 : GoodIn wsL_isFull wsL_call_r7 := goodIn_r _ [149, 150, 151, 152, 153, 154, 155, 156, 157, 158, 159, 160, 161, 162, 163, 164, 165, 166, 167, 168, 169, 170, 171, 172] (by decide +kernel) (by decide +kernel)
set_option maxRecDepth 20000 in
theorem ggL_isFull_L_call_c8 : GoodIn wsL_isFull wsL_call_r8 := goodIn_r _ [173, 174, 175, 176, 177, 178, 179, 180, 181, 182, 183, 184, 185, 186, 187, 188, 189, 190, 191, 192, 193, 194, 195, 196] (by decide +kernel) (by decide +kernel)
set_option maxRecDepth 20000 in
theorem ggL_isFull_L_call_c9 : GoodIn wsL_isFull wsL_call_r9 := goodIn_r _ [197, 198, 199, 200, 201, 202, 203, 204, 205, 206, 207, 208, 209, 210, 211, 212, 213, 214, 215, 216, 217, 218, 219, 220] (by decide +kernel) (by decide +kernel)
set_option maxRecDepth 20000 in
theorem ggL_isFull_L_call_c10 : GoodIn wsL_isFull wsL_call_r10 := goodIn_r _ [221, 222, 223, 224, 225, 226, 227, 228, 229, 230, 231, 232, 233, 234, 235, 236, 237, 238, 239, 240, 241, 242, 243, 244] (by decide +kernel) (by decide +kernel)
set_option maxRecDepth 20000 in
theorem ggL_isFull_L_call_c11 : GoodIn wsL_isFull wsL_call_r11 := goodIn_r _ [245, 246, 247, 248, 249, 250, 251, 252, 253, 254, 255, 256, 257, 258, 259, 260, 261, 262, 263, 264, 265, 266, 267, 268] (by decide +kernel) (by decide +kernel)
set_option maxRecDepth 20000 in
theorem ggL_isFull_L_call_c12 : GoodIn wsL_isFull wsL_call_r12 := goodIn_r _ [269, 270, 271, 272, 273, 274, 275, 276, 277, 278, 279, 280, 281, 282, 283, 284, 285, 286, 287, 288, 289, 290, 291, 292] (by decide +kernel) (by decide +kernel)
set_option maxRecDepth 20000 in
theorem ggL_isFull_L_call_c13 : GoodIn wsL_isFull wsL_call_r13 := goodIn_r _ [293, 294, 295, 296, 297, 298] (by decide +kernel) (by decide +kernel)
set_option maxRecDepth 20000 in
theorem ggL_isFull_L_call_wsX40 : GoodIn wsL_isFull wsX40 := goodIn_r _ [402, 403, 404, 405, 406, 407, 408, 409, 410] (by decide +kernel) (by decide +kernel)
set_option maxRecDepth 20000 in
theorem ggL_isFull_L_call_wsX20 : GoodIn wsL_isFull wsX20 := goodIn_r _ [411, 412, 413, 414] (by decide +kernel) (by decide +kernel)
set_option maxRecDepth 20000 in
theorem ggL_isFull_L_call_wsX30 : GoodIn wsL_isFull wsX30 := goodIn_r _ [415, 416, 417, 418] (by decide +kernel) (by decide +kernel)
set_option maxRecDepth 20000 in
theorem ggL_isFull_L_call_wsX10 : GoodIn wsL_isFull wsX10 := goodIn_r _ [419, 420, 421, 422, 423, 424, 425] (by decide +kernel) (by decide +kernel)
set_option maxRecDepth 20000 in
theorem ggL_isFull_L_call_wsX00 : GoodIn wsL_isFull wsX00 := goodIn_r _ [426, 427] (by decide +kernel) (by decide +kernel)
set_option maxRecDepth 20000 in
theorem ggL_isFull_L_call : GoodIn wsL_isFull wsL_call := goodIn_ca (goodIn_ca (goodIn_ca (goodIn_cons1 ggL_isFull_L_call_c0 (goodIn_app (goodIn_app (goodIn_app (goodIn_app (goodIn_app (goodIn_app ggL_isFull_L_call_c1 (goodIn_app ggL_isFull_L_call_c2 (goodIn_app ggL_isFull_L_call_c3 (goodIn_app ggL_isFull_L_call_c4 (goodIn_app ggL_isFull_L_call_c5 (goodIn_app ggL_isFull_L_call_c6 (goodIn_app ggL_isFull_L_call_c7 (goodIn_app ggL_isFull_L_call_c8 (goodIn_app ggL_isFull_L_call_c9 (goodIn_app ggL_isFull_L_call_c10 (goodIn_app ggL_isFull_L_call_c11 (goodIn_app ggL_isFull_L_call_c12 (ggL_isFull_L_call_c13))))))))))))) ggL_isFull_L_call_wsX40) ggL_isFull_L_call_wsX20) ggL_isFull_L_call_wsX30) ggL_isFull_L_call_wsX10) ggL_isFull_L_call_wsX00)) (goodIn_sub (fun _ h => List.mem_cons_of_mem _ (List.mem_append_left _ (List.mem_append_left _ (List.mem_append_right _ h)))) (by decide +kernel))) (goodIn_sub (fun _ h => List.mem_cons_of_mem _ (List.mem_append_left _ (List.mem_append_right _ h))) (by decide +kernel))) (goodIn_sub (fun _ h => List.mem_cons_of_mem _ (List.mem_append_right _ h)) (by decide +kernel))
set_option maxRecDepth 20000 in
theorem gL_isFull_L_call : GoodIn wsL_isFull (va_wsS RL 99 yL_call wsL_call) := goodIn_app (goodIn_of _ (by decide +kernel)) ggL_isFull_L_call
set_option maxRecDepth 20000 in
theorem ggL_isFull_L_keyOf : GoodIn wsL_isFull wsL_keyOf := goodIn_r _ [301] (by decide +kernel) (by decide +kernel)
set_option maxRecDepth 20000 in
theorem gL_isFull_L_keyOf : GoodIn wsL_isFull (va_wsS RL 116 yL_keyOf wsL_keyOf) := goodIn_app (goodIn_of _ (by decide +kernel)) ggL_isFull_L_keyOf
set_option maxRecDepth 20000 in
theorem ggL_isFull_L_seen_c0 : GoodIn wsL_isFull [.code yL_seen cL_seen 4 (some .long)] := goodIn_r _ [304] (by decide +kernel) (by decide +kernel)
set_option maxRecDepth 20000 in
theorem ggL_isFull_L_seen_c1 : GoodIn wsL_isFull wsL_seen_r1 := goodIn_r _ [305, 306, 307, 308, 309, 11, 310, 24, 117, 46, 228, 229, 288, 289, 290, 18, 19, 311, 312, 313, 314, 26, 315, 316] (by decide +kernel) (by decide +kernel)
set_option maxRecDepth 20000 in
theorem ggL_isFull_L_seen_c2 : GoodIn wsL_isFull wsL_seen_r2 := goodIn_r _ [317, 318, 90, 150, 25, 185, 161, 162, 30, 163, 41, 164, 165, 166, 167, 71, 156, 157, 158, 159, 160, 168, 169, 170] (by decide +kernel) (by decide +kernel)
set_option maxRecDepth 20000 in
theorem ggL_isFull_L_seen_c3 : GoodIn wsL_isFull wsL_seen_r3 := goodIn_r _ [171, 70, 172, 173, 174, 175, 319, 320, 321, 322, 323, 324, 325, 326, 104, 105, 106, 107, 327, 328, 329, 330, 331, 332] (by decide +kernel) (by decide +kernel)
set_option maxRecDepth 20000 in
theorem ggL_isFull_L_seen_c4 : GoodIn wsL_isFull wsL_seen_r4 := goodIn_r _ [333, 207, 212, 112, 91, 334, 335, 336, 75, 337, 81, 79, 78, 338, 339, 340, 341, 82, 342, 343, 344, 345, 180, 181] (by decide +kernel) (by decide +kernel)
set_option maxRecDepth 20000 in
theorem ggL_isFull_L_seen_c5 : GoodIn wsL_isFull wsL_seen_r5 := goodIn_r _ [182, 183, 184, 36, 346, 347, 348, 349, 350, 351, 352, 353, 354, 355, 356, 357, 358, 359, 360, 361, 362, 363, 364, 365] (by decide +kernel) (by decide +kernel)
set_option maxRecDepth 20000 in
theorem ggL_isFull_L_seen_c6 : GoodIn wsL_isFull wsL_seen_r6 := goodIn_r _ [366, 131, 219, 220, 221, 222, 223] (by decide +kernel) (by decide +kernel)
set_option maxRecDepth 20000 in
theorem ggL_isFull_L_seen_wsX40 : GoodIn wsL_isFull wsX40 := goodIn_r _ [402, 403, 404, 405, 406, 407, 408, 409, 410] (by decide +kernel) (by decide +kernel)
set_option maxRecDepth 20000 in
theorem ggL_isFull_L_seen_wsX20 : GoodIn wsL_isFull wsX20 := goodIn_r _ [411, 412, 413, 414] (by decide +kernel) (by decide +kernel)
set_option maxRecDepth 20000 in
theorem ggL_isFull_L_seen_wsX00 : GoodIn wsL_isFull wsX00 := goodIn_r _ [426, 427] (by decide +kernel) (by decide +kernel)
set_option maxRecDepth 20000 in
theorem ggL_isFull_L_seen_wsX30 : GoodIn wsL_isFull wsX30 := goodIn_r _ [415, 416, 417, 418] (by decide +kernel) (by decide +kernel)
set_option maxRecDepth 20000 in
theorem ggL_isFull_L_seen_wsX10 : GoodIn wsL_isFull wsX10 := goodIn_r _ [419, 420, 421, 422, 423, 424, 425] (by decide +kernel) (by decide +kernel)
set_option maxRecDepth 20000 in
theorem ggL_isFull_L_seen : GoodIn wsL_isFull wsL_seen := goodIn_ca (goodIn_ca (goodIn_cons1 ggL_isFull_L_seen_c0 (goodIn_app (goodIn_app (goodIn_app (goodIn_app (goodIn_app (goodIn_app ggL_isFull_L_seen_c1 (goodIn_app ggL_isFull_L_seen_c2 (goodIn_app ggL_isFull_L_seen_c3 (goodIn_app ggL_isFull_L_seen_c4 (goodIn_app ggL_isFull_L_seen_c5 (ggL_isFull_L_seen_c6)))))) ggL_isFull_L_seen_wsX40) ggL_isFull_L_seen_wsX20) ggL_isFull_L_seen_wsX00) ggL_isFull_L_seen_wsX30) ggL_isFull_L_seen_wsX10)) (goodIn_sub (fun _ h => List.mem_cons_of_mem _ (List.mem_append_left _ (List.mem_append_right _ h))) (by decide +kernel))) (goodIn_sub (fun _ h => List.mem_cons_of_mem _ (List.mem_append_right _ h)) (by decide +kernel))
set_option maxRecDepth 20000 in
theorem gL_isFull_L_seen : GoodIn wsL_isFull (va_wsS RL 108 yL_seen wsL_seen) := goodIn_app (goodIn_of _ (by decide +kernel)) ggL_isFull_L_seen
set_option maxRecDepth 20000 in
theorem ggL_isFull_X4_tree_c0 : GoodIn wsL_isFull [.code yX4_tree cX4_tree 4 (some .int)] := goodIn_r _ [314] (by decide +kernel) (by decide +kernel)
set_option maxRecDepth 20000 in
theorem ggL_isFull_X4_tree_c1 : GoodIn wsL_isFull wsX4_tree_r1 := goodIn_r _ [26, 288, 289, 11, 290, 18, 19, 315, 316, 317, 318, 24, 90, 150, 25, 185, 161, 162, 30, 163, 41, 164, 165, 166] (by decide +kernel) (by decide +kernel)
set_option maxRecDepth 20000 in
theorem ggL_isFull_X4_tree_c2 : GoodIn wsL_isFull wsX4_tree_r2 := goodIn_r _ [167, 71, 156, 157, 158, 159, 160, 168, 169, 170, 171, 70, 172, 173, 174, 175, 319, 320, 321, 322, 323, 324, 325, 326] (by decide +kernel) (by decide +kernel)
set_option maxRecDepth 20000 in
theorem ggL_isFull_X4_tree_c3 : GoodIn wsL_isFull wsX4_tree_r3 := goodIn_r _ [104, 105, 106, 107, 327, 328, 329] (by decide +kernel) (by decide +kernel)
set_option maxRecDepth 20000 in
theorem ggL_isFull_X4_tree_wsX30 : GoodIn wsL_isFull wsX30 := goodIn_r _ [415, 416, 417, 418] (by decide +kernel) (by decide +kernel)
set_option maxRecDepth 20000 in
theorem ggL_isFull_X4_tree_wsX40 : GoodIn wsL_isFull wsX40 := goodIn_r _ [402, 403, 404, 405, 406, 407, 408, 409, 410] (by decide +kernel) (by decide +kernel)
set_option maxRecDepth 20000 in
theorem ggL_isFull_X4_tree_wsX20 : GoodIn wsL_isFull wsX20 := goodIn_r _ [411, 412, 413, 414] (by decide +kernel) (by decide +kernel)
set_option maxRecDepth 20000 in
theorem ggL_isFull_X4_tree_wsX10 : GoodIn wsL_isFull wsX10 := goodIn_r _ [419, 420, 421, 422, 423, 424, 425] (by decide +kernel) (by decide +kernel)
set_option maxRecDepth 20000 in
theorem ggL_isFull_X4_tree : GoodIn wsL_isFull wsX4_tree := goodIn_ca (goodIn_cons1 ggL_isFull_X4_tree_c0 (goodIn_app (goodIn_app (goodIn_app (goodIn_app (goodIn_app ggL_isFull_X4_tree_c1 (goodIn_app ggL_isFull_X4_tree_c2 (ggL_isFull_X4_tree_c3))) ggL_isFull_X4_tree_wsX30) ggL_isFull_X4_tree_wsX40) ggL_isFull_X4_tree_wsX20) ggL_isFull_X4_tree_wsX10)) (goodIn_sub (fun _ h => List.mem_cons_of_mem _ (List.mem_append_left _ (List.mem_append_right _ h))) (by decide +kernel))
set_option maxRecDepth 20000 in
theorem gL_isFull_X4_tree : GoodIn wsL_isFull (wsV RL 70 RX4 yX4_tree wsX4_tree) := goodIn_app (goodIn_of _ (by decide +kernel)) ggL_isFull_X4_tree
set_option maxRecDepth 20000 in
theorem ggL_isFull_X4_rebuild_c0 : GoodIn wsL_isFull [.code yX4_rebuild cX4_rebuild 3 (some .int)] := goodIn_r _ [333] (by decide +kernel) (by decide +kernel)
set_option maxRecDepth 20000 in
theorem ggL_isFull_X4_rebuild_c1 : GoodIn wsL_isFull wsX4_rebuild_r1 := goodIn_r _ [24, 90, 207, 212, 112, 91, 288, 289, 11, 290, 18, 19, 334, 335, 336, 75, 337, 81, 79, 78, 338, 339, 340, 341] (by decide +kernel) (by decide +kernel)
set_option maxRecDepth 20000 in
theorem ggL_isFull_X4_rebuild_c2 : GoodIn wsL_isFull wsX4_rebuild_r2 := goodIn_r _ [82, 342, 343, 344, 345, 150, 25, 180, 181, 182, 183, 30, 184, 41, 36, 71, 346, 347, 348, 349, 185, 161, 162, 163] (by decide +kernel) (by decide +kernel)
set_option maxRecDepth 20000 in
theorem ggL_isFull_X4_rebuild_c3 : GoodIn wsL_isFull wsX4_rebuild_r3 := goodIn_r _ [164, 165, 166, 167] (by decide +kernel) (by decide +kernel)
set_option maxRecDepth 20000 in
theorem ggL_isFull_X4_rebuild_wsX40 : GoodIn wsL_isFull wsX40 := goodIn_r _ [402, 403, 404, 405, 406, 407, 408, 409, 410] (by decide +kernel) (by decide +kernel)
set_option maxRecDepth 20000 in
theorem ggL_isFull_X4_rebuild_wsX20 : GoodIn wsL_isFull wsX20 := goodIn_r _ [411, 412, 413, 414] (by decide +kernel) (by decide +kernel)
set_option maxRecDepth 20000 in
theorem ggL_isFull_X4_rebuild_wsX10 : GoodIn wsL_isFull wsX10 := goodIn_r _ [419, 420, 421, 422, 423, 424, 425] (by decide +kernel) (by decide +kernel)
set_option maxRecDepth 20000 in
theorem ggL_isFull_X4_rebuild_wsX30 : GoodIn wsL_isFull wsX30 := goodIn_r _ [415, 416, 417, 418] (by decide +kernel) (by decide +kernel)
set_option maxRecDepth 20000 in
theorem ggL_isFull_X4_rebuild : GoodIn wsL_isFull wsX4_rebuild := goodIn_ca (goodIn_cons1 ggL_isFull_X4_rebuild_c0 (goodIn_app (goodIn_app (goodIn_app (goodIn_app (goodIn_app ggL_isFull_X4_rebuild_c1 (goodIn_app ggL_isFull_X4_rebuild_c2 (ggL_isFull_X4_rebuild_c3))) ggL_isFull_X4_rebuild_wsX40) ggL_isFull_X4_rebuild_wsX20) ggL_isFull_X4_rebuild_wsX10) ggL_isFull_X4_rebuild_wsX30)) (goodIn_sub (fun _ h => List.mem_cons_of_mem _ (List.mem_append_left _ (List.mem_append_right _ h))) (by decide +kernel))
set_option maxRecDepth 20000 in
theorem gL_isFull_X4_rebuild : GoodIn wsL_isFull (wsV RL 74 RX4 yX4_rebuild wsX4_rebuild) := goodIn_app (goodIn_of _ (by decide +kernel)) ggL_isFull_X4_rebuild
set_option maxRecDepth 20000 in
theorem ggL_isFull_X4_count : GoodIn wsL_isFull wsX4_count := goodIn_ca (goodIn_r _ [310, 24, 117, 46, 228, 229, 288, 289, 11, 290, 18, 19, 402, 403, 404, 405, 406, 407, 408, 409, 410, 411, 412, 413, 414, 426, 427] (by decide +kernel) (by decide +kernel)) (goodIn_sub (fun _ h => List.mem_cons_of_mem _ (List.mem_append_left _ (List.mem_append_right _ h))) (by decide +kernel))
set_option maxRecDepth 20000 in
theorem gL_isFull_X4_count : GoodIn wsL_isFull (wsV RL 80 RX4 yX4_count wsX4_count) := goodIn_app (goodIn_of _ (by decide +kernel)) ggL_isFull_X4_count
set_option maxRecDepth 20000 in
theorem ggL_isFull_X4_firstError : GoodIn wsL_isFull wsX4_firstError := goodIn_r _ [370, 228, 371, 372, 373, 233, 374, 235, 236, 252, 253, 254, 402, 403, 404, 405, 406, 407, 408, 409, 410, 426, 427] (by decide +kernel) (by decide +kernel)
set_option maxRecDepth 20000 in
theorem gL_isFull_X4_firstError : GoodIn wsL_isFull (wsV RL 119 RX4 yX4_firstError wsX4_firstError) := goodIn_app (goodIn_of _ (by decide +kernel)) ggL_isFull_X4_firstError
set_option maxRecDepth 20000 in
theorem ggL_isFull_L_isQueued_c0 : GoodIn wsL_isFull [.code yL_isQueued cL_isQueued 3 (some .boolean)] := goodIn_r _ [377] (by decide +kernel) (by decide +kernel)
set_option maxRecDepth 20000 in
theorem ggL_isFull_L_isQueued_c1 : GoodIn wsL_isFull wsL_isQueued_r1 := goodIn_r _ [1, 2, 3, 4, 5, 6, 7, 8, 9, 10, 11, 12, 13, 14, 15, 16, 17, 18, 19, 20, 21, 22, 23, 24] (by decide +kernel) (by decide +kernel)
set_option maxRecDepth 20000 in
theorem ggL_isFull_L_isQueued_c2 : GoodIn wsL_isFull wsL_isQueued_r2 := goodIn_r _ [25, 26, 27, 28, 29, 30, 31, 32, 33, 34, 35, 36, 37, 38, 39, 40, 41, 42, 43, 44, 45, 46, 47, 48] (by decide +kernel) (by decide +kernel)
set_option maxRecDepth 20000 in
theorem ggL_isFull_L_isQueued_c3 : GoodIn wsL_isFull wsL_isQueued_r3 := goodIn_r _ [49, 50, 51, 52, 53, 54, 55, 56, 57, 58, 59, 60, 61, 62, 63, 64, 65, 66, 67, 68, 69, 70, 71, 72] (by decide +kernel) (by decide +kernel)
set_option maxRecDepth 20000 in
theorem ggL_isFull_L_isQueued_c4 : GoodIn wsL_isFull wsL_isQueued_r4 := goodIn_r _ [73, 74, 75, 76, 77, 78, 79, 80, 81, 82, 83, 84, 85, 86, 87, 88, 89, 90, 91, 92, 93, 94, 95, 96] (by decide +kernel) (by decide +kernel)
set_option maxRecDepth 20000 in
theorem ggL_isFull_L_isQueued_c5 : GoodIn wsL_isFull wsL_isQueued_r5 := goodIn_r _ [97, 98, 99, 100, 101, 102, 103, 104, 105, 106, 107, 108, 109, 110, 111, 112, 113, 114, 115, 116, 117, 118, 119, 120] (by decide +kernel) (by decide +kernel)
set_option maxRecDepth 20000 in
theorem ggL_isFull_L_isQueued_c6 : GoodIn wsL_isFull wsL_isQueued_r6 := goodIn_r _ [121, 122, 123, 124, 125, 126, 127, 128, 129, 130, 131, 132, 133, 134, 135, 136, 137, 138, 139, 140, 141, 142, 143, 144] (by decide +kernel) (by decide +kernel)
set_option maxRecDepth 20000 in
theorem ggL_isFull_L_isQueued_c7 : GoodIn wsL_isFull wsL_isQueued_r7 := goodIn_r _ [145, 146, 147, 148, 149, 150, 151, 152, 153, 154, 155, 156, 157, 158, 159, 160, 161, 162, 163, 164, 165, 166, 167, 168] (by decide +kernel) (by decide +kernel)
set_option maxRecDepth 20000 in
theorem ggL_isFull_L_isQueued_c8 : GoodIn wsL_isFull wsL_isQueued_r8 := goodIn_r _ [169, 170, 171, 172, 173, 174, 175, 176, 177, 178, 179, 180, 181, 182, 183, 184, 185, 186, 187, 188, 189, 190, 191, 192] (by decide +kernel) (by decide +kernel)
set_option maxRecDepth 20000 in
theorem ggL_isFull_L_isQueued_c9 : GoodIn wsL_isFull wsL_isQueued_r9 := goodIn_r _ [193, 194, 195, 196, 197, 198, 199, 200, 201, 202, 203, 204, 205, 206, 207, 208, 209, 210, 211, 212, 213, 214, 215, 216] (by decide +kernel) (by decide +kernel)
set_option maxRecDepth 20000 in
theorem ggL_isFull_L_isQueued_c10 : GoodIn wsL_isFull wsL_isQueued_r10 := goodIn_r _ [217, 218, 219, 220, 221, 222, 223, 224, 225, 226, 227, 228, 229, 230, 231, 232, 233, 234, 235, 236, 237, 238, 239, 240] (by decide +kernel) (by decide +kernel)
set_option maxRecDepth 20000 in
theorem ggL_isFull_L_isQueued_c11 : GoodIn wsL_isFull wsL_isQueued_r11 := goodIn_r _ [241, 242, 243, 244, 245, 246, 247, 248, 249, 250, 251, 252, 253, 254, 255, 256, 257, 258, 259, 260, 261, 262, 263, 264] (by decide +kernel) (by decide +kernel)
set_option maxRecDepth 20000 in
theorem ggL_isFull_L_isQueued_c12 : GoodIn wsL_isFull wsL_isQueued_r12 := goodIn_r _ [265, 266, 267, 268, 269, 270, 271, 272, 273, 274, 275, 276, 277, 278, 279, 280, 281, 282, 283, 284, 285, 286, 287, 288] (by decide +kernel) (by decide +kernel)
set_option maxRecDepth 20000 in
theorem ggL_isFull_L_isQueued_c13 : GoodIn wsL_isFull wsL_isQueued_r13 := goodIn_r _ [289, 290, 291, 292, 293, 294, 295, 296, 297, 298, 307, 308, 309, 310, 299, 300, 301, 330, 331, 332, 333, 334, 335, 336] (by decide +kernel) (by decide +kernel)
set_option maxRecDepth 20000 in
theorem ggL_isFull_L_isQueued_c14 : GoodIn wsL_isFull wsL_isQueued_r14 := goodIn_r _ [337, 338, 339, 340, 341, 342, 343, 344, 345, 346, 347, 348, 349, 358, 359, 360, 361, 362, 311, 312, 313, 314, 315, 316] (by decide +kernel) (by decide +kernel)
set_option maxRecDepth 20000 in
theorem ggL_isFull_L_isQueued_c15 : GoodIn wsL_isFull wsL_isQueued_r15 := goodIn_r _ [317, 318, 319, 320, 321, 322, 323, 324, 325, 326, 327, 328, 329, 378, 379, 380, 381, 382, 383, 384, 385, 386, 387, 388] (by decide +kernel) (by decide +kernel)
set_option maxRecDepth 20000 in
theorem ggL_isFull_L_isQueued_c16 : GoodIn wsL_isFull wsL_isQueued_r16 := goodIn_r _ [389, 390, 391, 392, 393, 394, 395, 396, 397, 398, 399, 400, 401] (by decide +kernel) (by decide +kernel)
set_option maxRecDepth 20000 in
theorem ggL_isFull_L_isQueued_wsX40 : GoodIn wsL_isFull wsX40 := goodIn_r _ [402, 403, 404, 405, 406, 407, 408, 409, 410] (by decide +kernel) (by decide +kernel)
set_option maxRecDepth 20000 in
theorem ggL_isFull_L_isQueued_wsX20 : GoodIn wsL_isFull wsX20 := goodIn_r _ [411, 412, 413, 414] (by decide +kernel) (by decide +kernel)
set_option maxRecDepth 20000 in
theorem ggL_isFull_L_isQueued_wsX30 : GoodIn wsL_isFull wsX30 := goodIn_r _ [415, 416, 417, 418] (by decide +kernel) (by decide +kernel)
set_option maxRecDepth 20000 in
theorem ggL_isFull_L_isQueued_wsX10 : GoodIn wsL_isFull wsX10 := goodIn_r _ [419, 420, 421, 422, 423, 424, 425] (by decide +kernel) (by decide +kernel)
set_option maxRecDepth 20000 in
theorem ggL_isFull_L_isQueued_wsX00 : GoodIn wsL_isFull wsX00 := goodIn_r _ [426, 427] (by decide +kernel) (by decide +kernel)
set_option maxRecDepth 20000 in
theorem ggL_isFull_L_isQueued : GoodIn wsL_isFull wsL_isQueued := goodIn_ca (goodIn_ca (goodIn_ca (goodIn_cons1 ggL_isFull_L_isQueued_c0 (goodIn_app (goodIn_app (goodIn_app (goodIn_app (goodIn_app (goodIn_app ggL_isFull_L_isQueued_c1 (goodIn_app ggL_isFull_L_isQueued_c2 (goodIn_app ggL_isFull_L_isQueued_c3 (goodIn_app ggL_isFull_L_isQueued_c4 (goodIn_app ggL_isFull_L_isQueued_c5 (goodIn_app ggL_isFull_L_isQueued_c6 (goodIn_app ggL_isFull_L_isQueued_c7 (goodIn_app ggL_isFull_L_isQueued_c8 (goodIn_app ggL_isFull_L_isQueued_c9 (goodIn_app ggL_isFull_L_isQueued_c10 (goodIn_app ggL_isFull_L_isQueued_c11 (goodIn_app ggL_isFull_L_isQueued_c12 (goodIn_app ggL_isFull_L_isQueued_c13 (goodIn_app ggL_isFull_L_isQueued_c14 (goodIn_app ggL_isFull_L_isQueued_c15 (ggL_isFull_L_isQueued_c16)))))))))))))))) ggL_isFull_L_isQueued_wsX40) ggL_isFull_L_isQueued_wsX20) ggL_isFull_L_isQueued_wsX30) ggL_isFull_L_isQueued_wsX10) ggL_isFull_L_isQueued_wsX00)) (goodIn_sub (fun _ h => List.mem_cons_of_mem _ (List.mem_append_left _ (List.mem_append_left _ (List.mem_append_right _ h)))) (by decide +kernel))) (goodIn_sub (fun _ h => List.mem_cons_of_mem _ (List.mem_append_left _ (List.mem_append_right _ h))) (by decide +kernel))) (goodIn_sub (fun _ h => List.mem_cons_of_mem _ (List.mem_append_right _ h)) (by decide +kernel))
set_option maxRecDepth 20000 in
theorem gL_isFull_L_isQueued : GoodIn wsL_isFull (va_wsS RL 122 yL_isQueued wsL_isQueued) := goodIn_app (goodIn_of _ (by decide +kernel)) ggL_isFull_L_isQueued
