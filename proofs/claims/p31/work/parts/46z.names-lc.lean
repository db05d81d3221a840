theorem goodIn_cons1 {big a : List Cond} {c : Cond} (h1 : GoodIn big [c]) (h2 : GoodIn big a) : GoodIn big (c :: a) := fun w h => (List.mem_cons.mp h).elim (fun e => h1 w (List.mem_cons.mpr (Or.inl e))) (h2 w)
set_option maxRecDepth 20000 in
theorem ggL_refusesAny_L_call_c0 : GoodIn wsL_refusesAny [.codeWith yL_call cL_call 5 (some .int) [(0, 158, 159, 51), (0, 158, 164, 53), (0, 158, 169, 55)]] := goodIn_r _ [4] (by decide +kernel) (by decide +kernel)
set_option maxRecDepth 20000 in
theorem ggL_refusesAny_L_call_c1 : GoodIn wsL_refusesAny wsL_call_r1 := goodIn_r _ [5, 6, 7, 8, 9, 10, 11, 12, 13, 14, 15, 16, 17, 18, 19, 20, 21, 22, 23, 24, 25, 26, 27, 28] (by decide +kernel) (by decide +kernel)
set_option maxRecDepth 20000 in
theorem ggL_refusesAny_L_call_c2 : GoodIn wsL_refusesAny wsL_call_r2 := goodIn_r _ [29, 30, 31, 32, 33, 34, 35, 36, 37, 38, 39, 40, 41, 42, 43, 44, 45, 46, 47, 48, 49, 50, 51, 52] (by decide +kernel) (by decide +kernel)
set_option maxRecDepth 20000 in
theorem ggL_refusesAny_L_call_c3 : GoodIn wsL_refusesAny wsL_call_r3 := goodIn_r _ [53, 54, 55, 56, 57, 58, 59, 60, 61, 62, 63, 64, 65, 66, 67, 68, 69, 70, 71, 72, 73, 74, 75, 76] (by decide +kernel) (by decide +kernel)
set_option maxRecDepth 20000 in
theorem ggL_refusesAny_L_call_c4 : GoodIn wsL_refusesAny wsL_call_r4 := goodIn_r _ [77, 78, 79, 80, 81, 82, 83, 84, 85, 86, 87, 88, 89, 90, 91, 92, 93, 94, 95, 96, 97, 98, 99, 100] (by decide +kernel) (by decide +kernel)
set_option maxRecDepth 20000 in
theorem ggL_refusesAny_L_call_c5 : GoodIn wsL_refusesAny wsL_call_r5 := goodIn_r _ [101, 102, 103, 104, 105, 106, 107, 108, 109, 110, 111, 112, 113, 114, 115, 116, 117, 118, 119, 120, 121, 122, 123, 124] (by decide +kernel) (by decide +kernel)
set_option maxRecDepth 20000 in
theorem ggL_refusesAny_L_call_c6 : GoodIn wsL_refusesAny wsL_call_r6 := goodIn_r _ [125, 126, 127, 128, 129, 130, 131, 132, 133, 134, 135, 136, 137, 138, 139, 140, 141, 142, 143, 144, 145, 146, 147, 148] (by decide +kernel) (by decide +kernel)
set_option maxRecDepth 20000 in
theorem ggL_refusesAny_L_call_c7 : GoodIn wsL_refusesAny wsL_call_r7 := goodIn_r _ [149, 150, 151, 152, 153, 154, 155, 156, 157, 158, 159, 160, 161, 162, 163, 164, 165, 166, 167, 168, 169, 170, 171, 172] (by decide +kernel) (by decide +kernel)
set_option maxRecDepth 20000 in
theorem ggL_refusesAny_L_call_c8 : GoodIn wsL_refusesAny wsL_call_r8 := goodIn_r _ [173, 174, 175, 176, 177, 178, 179, 180, 181, 182, 183, 184, 185, 186, 187, 188, 189, 190, 191, 192, 193, 194, 195, 196] (by decide +kernel) (by decide +kernel)
set_option maxRecDepth 20000 in
theorem ggL_refusesAny_L_call_c9 : GoodIn wsL_refusesAny wsL_call_r9 := goodIn_r _ [197, 198, 199, 200, 201, 202, 203, 204, 205, 206, 207, 208, 209, 210, 211, 212, 213, 214, 215, 216, 217, 218, 219, 220] (by decide +kernel) (by decide +kernel)
set_option maxRecDepth 20000 in
theorem ggL_refusesAny_L_call_c10 : GoodIn wsL_refusesAny wsL_call_r10 := goodIn_r _ [221, 222, 223, 224, 225, 226, 227, 228, 229, 230, 231, 232, 233, 234, 235, 236, 237, 238, 239, 240, 241, 242, 243, 244] (by decide +kernel) (by decide +kernel)
set_option maxRecDepth 20000 in
theorem ggL_refusesAny_L_call_c11 : GoodIn wsL_refusesAny wsL_call_r11 := goodIn_r _ [245, 246, 247, 248, 249, 250, 251, 252, 253, 254, 255, 256, 257, 258, 259, 260, 261, 262, 263, 264, 265, 266, 267, 268] (by decide +kernel) (by decide +kernel)
set_option maxRecDepth 20000 in
theorem ggL_refusesAny_L_call_c12 : GoodIn wsL_refusesAny wsL_call_r12 := goodIn_r _ [269, 270, 271, 272, 273, 274, 275, 276, 277, 278, 279, 280, 281, 282, 283, 284, 285, 286, 287, 288, 289, 290, 291, 292] (by decide +kernel) (by decide +kernel)
set_option maxRecDepth 20000 in
theorem ggL_refusesAny_L_call_c13 : GoodIn wsL_refusesAny wsL_call_r13 := goodIn_r _ [293, 294, 295, 296, 297, 298] (by decide +kernel) (by decide +kernel)
set_option maxRecDepth 20000 in
theorem ggL_refusesAny_L_call_wsX40 : GoodIn wsL_refusesAny wsX40 := goodIn_r _ [409, 410, 411, 412, 413, 414, 415, 416, 417] (by decide +kernel) (by decide +kernel)
set_option maxRecDepth 20000 in
theorem ggL_refusesAny_L_call_wsX20 : GoodIn wsL_refusesAny wsX20 := goodIn_r _ [418, 419, 420, 421] (by decide +kernel) (by decide +kernel)
set_option maxRecDepth 20000 in
theorem ggL_refusesAny_L_call_wsX30 : GoodIn wsL_refusesAny wsX30 := goodIn_r _ [422, 423, 424, 425] (by decide +kernel) (by decide +kernel)
set_option maxRecDepth 20000 in
theorem ggL_refusesAny_L_call_wsX10 : GoodIn wsL_refusesAny wsX10 := goodIn_r _ [426, 427, 428, 429, 430, 431, 432] (by decide +kernel) (by decide +kernel)
set_option maxRecDepth 20000 in
theorem ggL_refusesAny_L_call_wsX00 : GoodIn wsL_refusesAny wsX00 := goodIn_r _ [433, 434] (by decide +kernel) (by decide +kernel)
set_option maxRecDepth 20000 in
theorem ggL_refusesAny_L_call : GoodIn wsL_refusesAny wsL_call := goodIn_ca (goodIn_ca (goodIn_ca (goodIn_cons1 ggL_refusesAny_L_call_c0 (goodIn_app (goodIn_app (goodIn_app (goodIn_app (goodIn_app (goodIn_app ggL_refusesAny_L_call_c1 (goodIn_app ggL_refusesAny_L_call_c2 (goodIn_app ggL_refusesAny_L_call_c3 (goodIn_app ggL_refusesAny_L_call_c4 (goodIn_app ggL_refusesAny_L_call_c5 (goodIn_app ggL_refusesAny_L_call_c6 (goodIn_app ggL_refusesAny_L_call_c7 (goodIn_app ggL_refusesAny_L_call_c8 (goodIn_app ggL_refusesAny_L_call_c9 (goodIn_app ggL_refusesAny_L_call_c10 (goodIn_app ggL_refusesAny_L_call_c11 (goodIn_app ggL_refusesAny_L_call_c12 (ggL_refusesAny_L_call_c13))))))))))))) ggL_refusesAny_L_call_wsX40) ggL_refusesAny_L_call_wsX20) ggL_refusesAny_L_call_wsX30) ggL_refusesAny_L_call_wsX10) ggL_refusesAny_L_call_wsX00)) (goodIn_sub (fun _ h => List.mem_cons_of_mem _ (List.mem_append_left _ (List.mem_append_left _ (List.mem_append_right _ h)))) (by decide +kernel))) (goodIn_sub (fun _ h => List.mem_cons_of_mem _ (List.mem_append_left _ (List.mem_append_right _ h))) (by decide +kernel))) (goodIn_sub (fun _ h => List.mem_cons_of_mem _ (List.mem_append_right _ h)) (by decide +kernel))
set_option maxRecDepth 20000 in
theorem gL_refusesAny_L_call : GoodIn wsL_refusesAny (va_wsS RL 99 yL_call wsL_call) := goodIn_app (goodIn_of _ (by decide +kernel)) ggL_refusesAny_L_call
set_option maxRecDepth 20000 in
theorem ggL_refusesAny_L_ask_c0 : GoodIn wsL_refusesAny [.codeWith yL_ask cL_ask 5 (some .int) [(0, 178, 179, 51), (0, 178, 184, 53)]] := goodIn_r _ [301] (by decide +kernel) (by decide +kernel)
set_option maxRecDepth 20000 in
theorem ggL_refusesAny_L_ask_c1 : GoodIn wsL_refusesAny wsL_ask_r1 := goodIn_r _ [5, 6, 302, 303, 304, 11, 305, 24, 25, 15, 16, 17, 18, 19, 306, 307, 308, 30, 309, 41, 71, 36, 310, 311] (by decide +kernel) (by decide +kernel)
set_option maxRecDepth 20000 in
theorem ggL_refusesAny_L_ask_c2 : GoodIn wsL_refusesAny wsL_ask_r2 := goodIn_r _ [312, 313, 180, 181, 182, 183, 184, 314, 315, 316, 317, 26, 288, 289, 290, 318, 319, 320, 321, 90, 150, 322, 323, 324] (by decide +kernel) (by decide +kernel)
set_option maxRecDepth 20000 in
theorem ggL_refusesAny_L_ask_c3 : GoodIn wsL_refusesAny wsL_ask_r3 := goodIn_r _ [325, 70, 104, 105, 106, 107, 164, 165, 166, 167, 326, 327, 328, 329, 330, 331, 332, 333, 37, 38, 39, 40, 334, 335] (by decide +kernel) (by decide +kernel)
set_option maxRecDepth 20000 in
theorem ggL_refusesAny_L_ask_c4 : GoodIn wsL_refusesAny wsL_ask_r4 := goodIn_r _ [336, 337, 185, 161, 162, 163, 156, 157, 158, 159, 160, 168, 169, 170, 171, 172, 173, 174, 175, 338, 339, 340, 341, 342] (by decide +kernel) (by decide +kernel)
set_option maxRecDepth 20000 in
theorem ggL_refusesAny_L_ask_c5 : GoodIn wsL_refusesAny wsL_ask_r5 := goodIn_r _ [343, 344, 345, 346, 347, 348, 349, 350, 351, 352, 207, 212, 112, 91, 353, 354, 355, 75, 356, 81, 79, 78, 357, 358] (by decide +kernel) (by decide +kernel)
set_option maxRecDepth 20000 in
theorem ggL_refusesAny_L_ask_c6 : GoodIn wsL_refusesAny wsL_ask_r6 := goodIn_r _ [359, 360, 82, 361, 362, 363, 364, 365, 366, 367, 368, 369, 370, 371, 372, 373, 374, 375, 376, 377, 117, 46, 228, 229] (by decide +kernel) (by decide +kernel)
set_option maxRecDepth 20000 in
theorem ggL_refusesAny_L_ask_c7 : GoodIn wsL_refusesAny wsL_ask_r7 := goodIn_r _ [378, 379, 380, 381, 131, 219, 220, 221, 222, 223, 382, 383, 384, 385, 386, 387, 388, 389, 390, 391, 392, 393, 394, 395] (by decide +kernel) (by decide +kernel)
set_option maxRecDepth 20000 in
theorem ggL_refusesAny_L_ask_c8 : GoodIn wsL_refusesAny wsL_ask_r8 := goodIn_r _ [396, 80, 397, 398, 399, 400, 401, 402, 198, 403, 73, 74, 76, 77, 83, 61, 62, 63, 84, 85, 66, 67, 68, 69] (by decide +kernel) (by decide +kernel)
set_option maxRecDepth 20000 in
theorem ggL_refusesAny_L_ask_c9 : GoodIn wsL_refusesAny wsL_ask_r9 := goodIn_r _ [404, 132, 133, 134, 135, 136, 97, 98, 99, 100, 101, 102, 103, 137, 138, 139, 140, 141, 93, 94, 95, 405, 406, 407] (by decide +kernel) (by decide +kernel)
set_option maxRecDepth 20000 in
theorem ggL_refusesAny_L_ask_c10 : GoodIn wsL_refusesAny wsL_ask_r10 := goodIn_r _ [408] (by decide +kernel) (by decide +kernel)
set_option maxRecDepth 20000 in
theorem ggL_refusesAny_L_ask_wsX40 : GoodIn wsL_refusesAny wsX40 := goodIn_r _ [409, 410, 411, 412, 413, 414, 415, 416, 417] (by decide +kernel) (by decide +kernel)
set_option maxRecDepth 20000 in
theorem ggL_refusesAny_L_ask_wsX20 : GoodIn wsL_refusesAny wsX20 := goodIn_r _ [418, 419, 420, 421] (by decide +kernel) (by decide +kernel)
set_option maxRecDepth 20000 in
theorem ggL_refusesAny_L_ask_wsX30 : GoodIn wsL_refusesAny wsX30 := goodIn_r _ [422, 423, 424, 425] (by decide +kernel) (by decide +kernel)
set_option maxRecDepth 20000 in
theorem ggL_refusesAny_L_ask_wsX10 : GoodIn wsL_refusesAny wsX10 := goodIn_r _ [426, 427, 428, 429, 430, 431, 432] (by decide +kernel) (by decide +kernel)
set_option maxRecDepth 20000 in
theorem ggL_refusesAny_L_ask_wsX00 : GoodIn wsL_refusesAny wsX00 := goodIn_r _ [433, 434] (by decide +kernel) (by decide +kernel)
set_option maxRecDepth 20000 in
theorem ggL_refusesAny_L_ask : GoodIn wsL_refusesAny wsL_ask := goodIn_ca (goodIn_ca (goodIn_cons1 ggL_refusesAny_L_ask_c0 (goodIn_app (goodIn_app (goodIn_app (goodIn_app (goodIn_app (goodIn_app ggL_refusesAny_L_ask_c1 (goodIn_app ggL_refusesAny_L_ask_c2 (goodIn_app ggL_refusesAny_L_ask_c3 (goodIn_app ggL_refusesAny_L_ask_c4 (goodIn_app ggL_refusesAny_L_ask_c5 (goodIn_app ggL_refusesAny_L_ask_c6 (goodIn_app ggL_refusesAny_L_ask_c7 (goodIn_app ggL_refusesAny_L_ask_c8 (goodIn_app ggL_refusesAny_L_ask_c9 (ggL_refusesAny_L_ask_c10)))))))))) ggL_refusesAny_L_ask_wsX40) ggL_refusesAny_L_ask_wsX20) ggL_refusesAny_L_ask_wsX30) ggL_refusesAny_L_ask_wsX10) ggL_refusesAny_L_ask_wsX00)) (goodIn_sub (fun _ h => List.mem_cons_of_mem _ (List.mem_append_left _ (List.mem_append_right _ h))) (by decide +kernel))) (goodIn_sub (fun _ h => List.mem_cons_of_mem _ (List.mem_append_right _ h)) (by decide +kernel))
set_option maxRecDepth 20000 in
theorem gL_refusesAny_L_ask : GoodIn wsL_refusesAny (va_wsS RL 105 yL_ask wsL_ask) := goodIn_app (goodIn_of _ (by decide +kernel)) ggL_refusesAny_L_ask
set_option maxRecDepth 20000 in
theorem ggL_refusesAny_X4_rebuild_c0 : GoodIn wsL_refusesAny [.code yX4_rebuild cX4_rebuild 3 (some .int)] := goodIn_r _ [352] (by decide +kernel) (by decide +kernel)
set_option maxRecDepth 20000 in
theorem ggL_refusesAny_X4_rebuild_c1 : GoodIn wsL_refusesAny wsX4_rebuild_r1 := goodIn_r _ [24, 90, 207, 212, 112, 91, 288, 289, 11, 290, 18, 19, 353, 354, 355, 75, 356, 81, 79, 78, 357, 358, 359, 360] (by decide +kernel) (by decide +kernel)
set_option maxRecDepth 20000 in
theorem ggL_refusesAny_X4_rebuild_c2 : GoodIn wsL_refusesAny wsX4_rebuild_r2 := goodIn_r _ [82, 361, 362, 363, 364, 150, 25, 180, 181, 182, 183, 30, 184, 41, 36, 71, 365, 366, 367, 368, 185, 161, 162, 163] (by decide +kernel) (by decide +kernel)
set_option maxRecDepth 20000 in
theorem ggL_refusesAny_X4_rebuild_c3 : GoodIn wsL_refusesAny wsX4_rebuild_r3 := goodIn_r _ [164, 165, 166, 167] (by decide +kernel) (by decide +kernel)
set_option maxRecDepth 20000 in
theorem ggL_refusesAny_X4_rebuild_wsX40 : GoodIn wsL_refusesAny wsX40 := goodIn_r _ [409, 410, 411, 412, 413, 414, 415, 416, 417] (by decide +kernel) (by decide +kernel)
set_option maxRecDepth 20000 in
theorem ggL_refusesAny_X4_rebuild_wsX20 : GoodIn wsL_refusesAny wsX20 := goodIn_r _ [418, 419, 420, 421] (by decide +kernel) (by decide +kernel)
set_option maxRecDepth 20000 in
theorem ggL_refusesAny_X4_rebuild_wsX10 : GoodIn wsL_refusesAny wsX10 := goodIn_r _ [426, 427, 428, 429, 430, 431, 432] (by decide +kernel) (by decide +kernel)
set_option maxRecDepth 20000 in
theorem ggL_refusesAny_X4_rebuild_wsX30 : GoodIn wsL_refusesAny wsX30 := goodIn_r _ [422, 423, 424, 425] (by decide +kernel) (by decide +kernel)
set_option maxRecDepth 20000 in
theorem ggL_refusesAny_X4_rebuild : GoodIn wsL_refusesAny wsX4_rebuild := goodIn_ca (goodIn_cons1 ggL_refusesAny_X4_rebuild_c0 (goodIn_app (goodIn_app (goodIn_app (goodIn_app (goodIn_app ggL_refusesAny_X4_rebuild_c1 (goodIn_app ggL_refusesAny_X4_rebuild_c2 (ggL_refusesAny_X4_rebuild_c3))) ggL_refusesAny_X4_rebuild_wsX40) ggL_refusesAny_X4_rebuild_wsX20) ggL_refusesAny_X4_rebuild_wsX10) ggL_refusesAny_X4_rebuild_wsX30)) (goodIn_sub (fun _ h => List.mem_cons_of_mem _ (List.mem_append_left _ (List.mem_append_right _ h))) (by decide +kernel))
set_option maxRecDepth 20000 in
theorem gL_refusesAny_X4_rebuild : GoodIn wsL_refusesAny (wsV RL 74 RX4 yX4_rebuild wsX4_rebuild) := goodIn_app (goodIn_of _ (by decide +kernel)) ggL_refusesAny_X4_rebuild
set_option maxRecDepth 20000 in
theorem ggL_refuses_L_seen_c0 : GoodIn wsL_refuses [.code yL_seen cL_seen 4 (some .long)] := goodIn_r _ [4] (by decide +kernel) (by decide +kernel)
set_option maxRecDepth 20000 in
theorem ggL_refuses_L_seen_c1 : GoodIn wsL_refuses wsL_seen_r1 := goodIn_r _ [5, 6, 7, 8, 9, 10, 11, 12, 13, 14, 15, 16, 17, 18, 19, 20, 21, 22, 23, 24, 25, 26, 27, 28] (by decide +kernel) (by decide +kernel)
set_option maxRecDepth 20000 in
theorem ggL_refuses_L_seen_c2 : GoodIn wsL_refuses wsL_seen_r2 := goodIn_r _ [29, 30, 31, 32, 33, 34, 35, 36, 37, 38, 39, 40, 41, 42, 43, 44, 45, 46, 47, 48, 49, 50, 51, 52] (by decide +kernel) (by decide +kernel)
set_option maxRecDepth 20000 in
theorem ggL_refuses_L_seen_c3 : GoodIn wsL_refuses wsL_seen_r3 := goodIn_r _ [53, 54, 55, 56, 57, 58, 59, 60, 61, 62, 63, 64, 65, 66, 67, 68, 69, 70, 71, 72, 73, 74, 75, 76] (by decide +kernel) (by decide +kernel)
set_option maxRecDepth 20000 in
theorem ggL_refuses_L_seen_c4 : GoodIn wsL_refuses wsL_seen_r4 := goodIn_r _ [77, 78, 79, 80, 81, 82, 83, 84, 85, 86, 87, 88, 89, 90, 91, 92, 93, 94, 95, 96, 97, 98, 99, 100] (by decide +kernel) (by decide +kernel)
set_option maxRecDepth 20000 in
theorem ggL_refuses_L_seen_c5 : GoodIn wsL_refuses wsL_seen_r5 := goodIn_r _ [101, 102, 103, 104, 105, 106, 107, 108, 109, 110, 111, 112, 113, 114, 115, 116, 117, 118, 119, 120, 121, 122, 123, 124] (by decide +kernel) (by decide +kernel)
set_option maxRecDepth 20000 in
theorem ggL_refuses_L_seen_c6 : GoodIn wsL_refuses wsL_seen_r6 := goodIn_r _ [125, 126, 127, 128, 129, 130, 131] (by decide +kernel) (by decide +kernel)
set_option maxRecDepth 20000 in
theorem ggL_refuses_L_seen_wsX40 : GoodIn wsL_refuses wsX40 := goodIn_r _ [417, 418, 419, 420, 421, 422, 423, 424, 425] (by decide +kernel) (by decide +kernel)
set_option maxRecDepth 20000 in
theorem ggL_refuses_L_seen_wsX20 : GoodIn wsL_refuses wsX20 := goodIn_r _ [426, 427, 428, 429] (by decide +kernel) (by decide +kernel)
set_option maxRecDepth 20000 in
theorem ggL_refuses_L_seen_wsX00 : GoodIn wsL_refuses wsX00 := goodIn_r _ [430, 431] (by decide +kernel) (by decide +kernel)
set_option maxRecDepth 20000 in
theorem ggL_refuses_L_seen_wsX30 : GoodIn wsL_refuses wsX30 := goodIn_r _ [432, 433, 434, 435] (by decide +kernel) (by decide +kernel)
set_option maxRecDepth 20000 in
theorem ggL_refuses_L_seen_wsX10 : GoodIn wsL_refuses wsX10 := goodIn_r _ [436, 437, 438, 439, 440, 441, 442] (by decide +kernel) (by decide +kernel)
set_option maxRecDepth 20000 in
theorem ggL_refuses_L_seen : GoodIn wsL_refuses wsL_seen := goodIn_ca (goodIn_ca (goodIn_cons1 ggL_refuses_L_seen_c0 (goodIn_app (goodIn_app (goodIn_app (goodIn_app (goodIn_app (goodIn_app ggL_refuses_L_seen_c1 (goodIn_app ggL_refuses_L_seen_c2 (goodIn_app ggL_refuses_L_seen_c3 (goodIn_app ggL_refuses_L_seen_c4 (goodIn_app ggL_refuses_L_seen_c5 (ggL_refuses_L_seen_c6)))))) ggL_refuses_L_seen_wsX40) ggL_refuses_L_seen_wsX20) ggL_refuses_L_seen_wsX00) ggL_refuses_L_seen_wsX30) ggL_refuses_L_seen_wsX10)) (goodIn_sub (fun _ h => List.mem_cons_of_mem _ (List.mem_append_left _ (List.mem_append_left _ (List.mem_append_right _ h)))) (by decide +kernel))) (goodIn_sub (fun _ h => List.mem_cons_of_mem _ (List.mem_append_left _ (List.mem_append_right _ h))) (by decide +kernel))
set_option maxRecDepth 20000 in
theorem gL_refuses_L_seen : GoodIn wsL_refuses (va_wsS RL 108 yL_seen wsL_seen) := goodIn_app (goodIn_of _ (by decide +kernel)) ggL_refuses_L_seen
set_option maxRecDepth 20000 in
theorem ggL_refuses_X4_count : GoodIn wsL_refuses wsX4_count := goodIn_ca (goodIn_r _ [11, 12, 13, 14, 15, 16, 17, 18, 10, 19, 20, 21, 417, 418, 419, 420, 421, 422, 423, 424, 425, 426, 427, 428, 429, 430, 431] (by decide +kernel) (by decide +kernel)) (goodIn_sub (fun _ h => List.mem_cons_of_mem _ (List.mem_append_left _ (List.mem_append_left _ (List.mem_append_right _ h)))) (by decide +kernel))
set_option maxRecDepth 20000 in
theorem gL_refuses_X4_count : GoodIn wsL_refuses (wsV RL 80 RX4 yX4_count wsX4_count) := goodIn_app (goodIn_of _ (by decide +kernel)) ggL_refuses_X4_count
set_option maxRecDepth 20000 in
theorem ggL_refuses_L_refusesAny_c0 : GoodIn wsL_refuses [.code yL_refusesAny cL_refusesAny 5 (some .boolean)] := goodIn_r _ [134] (by decide +kernel) (by decide +kernel)
set_option maxRecDepth 20000 in
theorem ggL_refuses_L_refusesAny_c1 : GoodIn wsL_refuses wsL_refusesAny_r1 := goodIn_r _ [135, 136, 3, 137, 138, 139, 140, 141, 142, 143, 10, 144, 145, 146, 147, 148, 149, 20, 21, 150, 151, 152, 153, 12] (by decide +kernel) (by decide +kernel)
set_option maxRecDepth 20000 in
theorem ggL_refuses_L_refusesAny_c2 : GoodIn wsL_refuses wsL_refusesAny_r2 := goodIn_r _ [33, 26, 154, 155, 156, 37, 157, 158, 159, 160, 161, 104, 162, 163, 164, 165, 39, 166, 167, 168, 169, 14, 170, 171] (by decide +kernel) (by decide +kernel)
set_option maxRecDepth 20000 in
theorem ggL_refuses_L_refusesAny_c3 : GoodIn wsL_refuses wsL_refusesAny_r3 := goodIn_r _ [172, 173, 174, 175, 176, 177, 178, 179, 180, 181, 182, 183, 184, 185, 186, 187, 188, 189, 190, 191, 192, 54, 44, 193] (by decide +kernel) (by decide +kernel)
set_option maxRecDepth 20000 in
theorem ggL_refuses_L_refusesAny_c4 : GoodIn wsL_refuses wsL_refusesAny_r4 := goodIn_r _ [194, 195, 85, 196, 197, 89, 88, 198, 87, 94, 199, 200, 201, 202, 203, 204, 205, 31, 81, 206, 207, 208, 209, 210] (by decide +kernel) (by decide +kernel)
set_option maxRecDepth 20000 in
theorem ggL_refuses_L_refusesAny_c5 : GoodIn wsL_refuses wsL_refusesAny_r5 := goodIn_r _ [211, 212, 213, 214, 215, 216, 217, 67, 68, 69, 70, 218, 219, 220, 221, 80, 222, 223, 224, 225, 13, 226, 227, 228] (by decide +kernel) (by decide +kernel)
set_option maxRecDepth 20000 in
theorem ggL_refuses_L_refusesAny_c6 : GoodIn wsL_refuses wsL_refusesAny_r6 := goodIn_r _ [229, 230, 231, 232, 233, 234, 235, 236, 237, 238, 126, 239, 240, 241, 242, 243, 244, 245, 246, 247, 248, 249, 250, 251] (by decide +kernel) (by decide +kernel)
set_option maxRecDepth 20000 in
theorem ggL_refuses_L_refusesAny_c7 : GoodIn wsL_refuses wsL_refusesAny_r7 := goodIn_r _ [252, 253, 254, 255, 256, 32, 257, 258, 259, 260, 261, 45, 46, 47, 48, 49, 35, 36, 38, 40, 41, 42, 43, 50] (by decide +kernel) (by decide +kernel)
set_option maxRecDepth 20000 in
theorem ggL_refuses_L_refusesAny_c8 : GoodIn wsL_refuses wsL_refusesAny_r8 := goodIn_r _ [51, 52, 53, 55, 56, 57, 58, 262, 263, 264, 265, 99, 100, 101, 102, 103, 34, 266, 267, 268, 269, 270, 271, 272] (by decide +kernel) (by decide +kernel)
set_option maxRecDepth 20000 in
theorem ggL_refuses_L_refusesAny_c9 : GoodIn wsL_refuses wsL_refusesAny_r9 := goodIn_r _ [273, 274, 275, 276, 277, 278, 279, 280, 281, 282, 283, 284, 285, 286, 78, 287, 288, 289, 290, 79, 291, 292, 293, 294] (by decide +kernel) (by decide +kernel)
set_option maxRecDepth 20000 in
theorem ggL_refuses_L_refusesAny_c10 : GoodIn wsL_refuses wsL_refusesAny_r10 := goodIn_r _ [295, 296, 127, 128, 129, 130, 131, 297, 298, 299, 300, 15, 16, 301, 302, 303, 304, 305, 306, 307, 308, 309, 310, 311] (by decide +kernel) (by decide +kernel)
set_option maxRecDepth 20000 in
theorem ggL_refuses_L_refusesAny_c11 : GoodIn wsL_refuses wsL_refusesAny_r11 := goodIn_r _ [312, 313, 314, 315, 316, 317, 318, 319, 320, 321, 322, 323, 324, 325, 326, 327, 328, 329, 330, 331, 332, 333, 334, 335] (by decide +kernel) (by decide +kernel)
set_option maxRecDepth 20000 in
theorem ggL_refuses_L_refusesAny_c12 : GoodIn wsL_refuses wsL_refusesAny_r12 := goodIn_r _ [336, 337, 338, 339, 340, 341, 342, 343, 344, 345, 346, 347, 348, 349, 350, 351, 352, 353, 354, 355, 356, 357, 358, 17] (by decide +kernel) (by decide +kernel)
set_option maxRecDepth 20000 in
theorem ggL_refuses_L_refusesAny_c13 : GoodIn wsL_refuses wsL_refusesAny_r13 := goodIn_r _ [18, 19, 359, 360, 361, 362, 363, 364, 365, 366, 367, 368, 369, 370, 371, 372, 373, 374, 375, 376, 377, 378, 379, 380] (by decide +kernel) (by decide +kernel)
set_option maxRecDepth 20000 in
theorem ggL_refuses_L_refusesAny_c14 : GoodIn wsL_refuses wsL_refusesAny_r14 := goodIn_r _ [381, 109, 110, 111, 112, 27, 28, 29, 30, 113, 114, 115, 116, 382, 383, 384, 385, 386, 387, 388, 389, 22, 23, 24] (by decide +kernel) (by decide +kernel)
set_option maxRecDepth 20000 in
theorem ggL_refuses_L_refusesAny_c15 : GoodIn wsL_refuses wsL_refusesAny_r15 := goodIn_r _ [25, 59, 60, 61, 62, 63, 64, 65, 66, 71, 72, 73, 74, 75, 76, 77, 82, 83, 84, 86, 90, 91, 92, 93] (by decide +kernel) (by decide +kernel)
set_option maxRecDepth 20000 in
theorem ggL_refuses_L_refusesAny_c16 : GoodIn wsL_refuses wsL_refusesAny_r16 := goodIn_r _ [95, 96, 97, 98, 105, 106, 107, 108, 117, 118, 119, 120, 121, 7, 8, 9, 11, 122, 123, 124, 125, 390, 391, 392] (by decide +kernel) (by decide +kernel)
set_option maxRecDepth 20000 in
theorem ggL_refuses_L_refusesAny_c17 : GoodIn wsL_refuses wsL_refusesAny_r17 := goodIn_r _ [393, 394, 395, 396, 397, 398, 399, 400, 401, 402, 403, 404, 405, 406, 407, 408, 409, 410, 411, 412, 413, 414, 415, 416] (by decide +kernel) (by decide +kernel)
set_option maxRecDepth 20000 in
theorem ggL_refuses_L_refusesAny_wsX40 : GoodIn wsL_refuses wsX40 := goodIn_r _ [417, 418, 419, 420, 421, 422, 423, 424, 425] (by decide +kernel) (by decide +kernel)
set_option maxRecDepth 20000 in
theorem ggL_refuses_L_refusesAny_wsX20 : GoodIn wsL_refuses wsX20 := goodIn_r _ [426, 427, 428, 429] (by decide +kernel) (by decide +kernel)
set_option maxRecDepth 20000 in
theorem ggL_refuses_L_refusesAny_wsX30 : GoodIn wsL_refuses wsX30 := goodIn_r _ [432, 433, 434, 435] (by decide +kernel) (by decide +kernel)
set_option maxRecDepth 20000 in
theorem ggL_refuses_L_refusesAny_wsX10 : GoodIn wsL_refuses wsX10 := goodIn_r _ [436, 437, 438, 439, 440, 441, 442] (by decide +kernel) (by decide +kernel)
set_option maxRecDepth 20000 in
theorem ggL_refuses_L_refusesAny_wsX00 : GoodIn wsL_refuses wsX00 := goodIn_r _ [430, 431] (by decide +kernel) (by decide +kernel)
set_option maxRecDepth 20000 in
theorem ggL_refuses_L_refusesAny : GoodIn wsL_refuses wsL_refusesAny := goodIn_ca (goodIn_ca (goodIn_ca (goodIn_cons1 ggL_refuses_L_refusesAny_c0 (goodIn_app (goodIn_app (goodIn_app (goodIn_app (goodIn_app (goodIn_app ggL_refuses_L_refusesAny_c1 (goodIn_app ggL_refuses_L_refusesAny_c2 (goodIn_app ggL_refuses_L_refusesAny_c3 (goodIn_app ggL_refuses_L_refusesAny_c4 (goodIn_app ggL_refuses_L_refusesAny_c5 (goodIn_app ggL_refuses_L_refusesAny_c6 (goodIn_app ggL_refuses_L_refusesAny_c7 (goodIn_app ggL_refuses_L_refusesAny_c8 (goodIn_app ggL_refuses_L_refusesAny_c9 (goodIn_app ggL_refuses_L_refusesAny_c10 (goodIn_app ggL_refuses_L_refusesAny_c11 (goodIn_app ggL_refuses_L_refusesAny_c12 (goodIn_app ggL_refuses_L_refusesAny_c13 (goodIn_app ggL_refuses_L_refusesAny_c14 (goodIn_app ggL_refuses_L_refusesAny_c15 (goodIn_app ggL_refuses_L_refusesAny_c16 (ggL_refuses_L_refusesAny_c17))))))))))))))))) ggL_refuses_L_refusesAny_wsX40) ggL_refuses_L_refusesAny_wsX20) ggL_refuses_L_refusesAny_wsX30) ggL_refuses_L_refusesAny_wsX10) ggL_refuses_L_refusesAny_wsX00)) (goodIn_sub (fun _ h => List.mem_cons_of_mem _ (List.mem_append_right _ h)) (by decide +kernel))) (goodIn_sub (fun _ h => List.mem_cons_of_mem _ (List.mem_append_left _ (List.mem_append_left _ (List.mem_append_right _ h)))) (by decide +kernel))) (goodIn_sub (fun _ h => List.mem_cons_of_mem _ (List.mem_append_left _ (List.mem_append_right _ h))) (by decide +kernel))
set_option maxRecDepth 20000 in
theorem gL_refuses_L_refusesAny : GoodIn wsL_refuses (va_wsS RL 112 yL_refusesAny wsL_refusesAny) := goodIn_app (goodIn_of _ (by decide +kernel)) ggL_refuses_L_refusesAny
theorem dL_refuses_0 : decode cL_refuses 0 = .ok (.aload_n 0, 1) := by decide +kernel
theorem dL_refuses_1 : decode cL_refuses 1 = .ok (.invokestatic 108, 3) := by decide +kernel
theorem dL_refuses_4 : decode cL_refuses 4 = .ok (.lstore_n 2, 1) := by decide +kernel
theorem dL_refuses_5 : decode cL_refuses 5 = .ok (.aload_n 0, 1) := by decide +kernel
theorem dL_refuses_6 : decode cL_refuses 6 = .ok (.bipush 7, 2) := by decide +kernel
theorem dL_refuses_8 : decode cL_refuses 8 = .ok (.invokevirtual 80, 3) := by decide +kernel
theorem dL_refuses_11 : decode cL_refuses 11 = .ok (.istore 4, 2) := by decide +kernel
theorem dL_refuses_13 : decode cL_refuses 13 = .ok (.aload_n 0, 1) := by decide +kernel
theorem dL_refuses_14 : decode cL_refuses 14 = .ok (.iload_n 1, 1) := by decide +kernel
theorem dL_refuses_15 : decode cL_refuses 15 = .ok (.invokestatic 112, 3) := by decide +kernel
theorem dL_refuses_18 : decode cL_refuses 18 = .ok (.ifCond .eq 27, 3) := by decide +kernel
theorem dL_refuses_21 : decode cL_refuses 21 = .ok (.aload_n 0, 1) := by decide +kernel
theorem dL_refuses_22 : decode cL_refuses 22 = .ok (.invokestatic 108, 3) := by decide +kernel
theorem dL_refuses_25 : decode cL_refuses 25 = .ok (.lload_n 2, 1) := by decide +kernel
theorem dL_refuses_26 : decode cL_refuses 26 = .ok (.lcmp, 1) := by decide +kernel
theorem dL_refuses_27 : decode cL_refuses 27 = .ok (.ifCond .ne 18, 3) := by decide +kernel
theorem dL_refuses_30 : decode cL_refuses 30 = .ok (.aload_n 0, 1) := by decide +kernel
theorem dL_refuses_31 : decode cL_refuses 31 = .ok (.bipush 7, 2) := by decide +kernel
theorem dL_refuses_33 : decode cL_refuses 33 = .ok (.invokevirtual 80, 3) := by decide +kernel
theorem dL_refuses_36 : decode cL_refuses 36 = .ok (.iload 4, 2) := by decide +kernel
theorem dL_refuses_38 : decode cL_refuses 38 = .ok (.if_icmp .ne 7, 3) := by decide +kernel
theorem dL_refuses_41 : decode cL_refuses 41 = .ok (.iconst 1, 1) := by decide +kernel
theorem dL_refuses_42 : decode cL_refuses 42 = .ok (.goto 4, 3) := by decide +kernel
theorem dL_refuses_45 : decode cL_refuses 45 = .ok (.iconst 0, 1) := by decide +kernel
theorem dL_refuses_46 : decode cL_refuses 46 = .ok (.ireturn, 1) := by decide +kernel
