set_option maxRecDepth 20000 in
theorem ggL_law_L_cell : GoodIn wsL_law wsL_cell := goodIn_r _ [460, 461, 462] (by decide +kernel) (by decide +kernel)
set_option maxRecDepth 20000 in
theorem gL_law_L_cell : GoodIn wsL_law (va_wsS RL 133 yL_cell wsL_cell) := goodIn_app (goodIn_of _ (by decide +kernel)) ggL_law_L_cell
set_option maxRecDepth 20000 in
theorem ggL_law_L_isFull_c0 : GoodIn wsL_law [.code yL_isFull cL_isFull 6 (some .boolean)] := goodIn_r _ [465] (by decide +kernel) (by decide +kernel)
set_option maxRecDepth 20000 in
theorem ggL_law_L_isFull_c1 : GoodIn wsL_law wsL_isFull_r1 := goodIn_r _ [63, 64, 65, 66, 67, 68, 69, 70, 71, 72, 2, 73, 74, 75, 76, 77, 78, 79, 80, 81, 82, 83, 84, 12] (by decide +kernel) (by decide +kernel)
set_option maxRecDepth 20000 in
theorem ggL_law_L_isFull_c2 : GoodIn wsL_law wsL_isFull_r2 := goodIn_r _ [85, 86, 87, 88, 89, 33, 90, 91, 92, 93, 94, 48, 95, 96, 97, 98, 99, 100, 101, 102, 103, 104, 13, 105] (by decide +kernel) (by decide +kernel)
set_option maxRecDepth 20000 in
theorem ggL_law_L_isFull_c3 : GoodIn wsL_law wsL_isFull_r3 := goodIn_r _ [106, 107, 108, 109, 110, 111, 11, 112, 34, 36, 43, 113, 114, 115, 116, 44, 117, 118, 119, 120, 121, 49, 50, 122] (by decide +kernel) (by decide +kernel)
set_option maxRecDepth 20000 in
theorem ggL_law_L_isFull_c4 : GoodIn wsL_law wsL_isFull_r4 := goodIn_r _ [123, 124, 26, 125, 55, 126, 127, 128, 129, 56, 130, 57, 131, 132, 133, 134, 135, 136, 137, 138, 139, 140, 141, 142] (by decide +kernel) (by decide +kernel)
set_option maxRecDepth 20000 in
theorem ggL_law_L_isFull_c5 : GoodIn wsL_law wsL_isFull_r5 := goodIn_r _ [143, 144, 145, 146, 147, 148, 149, 150, 151, 152, 153, 154, 155, 156, 157, 158, 159, 160, 161, 162, 163, 164, 165, 166] (by decide +kernel) (by decide +kernel)
set_option maxRecDepth 20000 in
theorem ggL_law_L_isFull_c6 : GoodIn wsL_law wsL_isFull_r6 := goodIn_r _ [167, 168, 169, 170, 171, 172, 173, 174, 175, 176, 177, 178, 179, 180, 181, 182, 183, 184, 185, 186, 187, 188, 189, 190] (by decide +kernel) (by decide +kernel)
set_option maxRecDepth 20000 in
theorem ggL_law_L_isFull_c7 : GoodIn wsL_law wsL_isFull_r7 := goodIn_r _ [191, 192, 193, 194, 195, 196, 197, 198, 199, 200, 201, 202, 203, 204, 205, 206, 207, 208, 209, 210, 211, 212, 213, 214] (by decide +kernel) (by decide +kernel)
set_option maxRecDepth 20000 in
theorem ggL_law_L_isFull_c8 : GoodIn wsL_law wsL_isFull_r8 := goodIn_r _ [215, 216, 217, 218, 219, 220, 221, 222, 223, 224, 225, 23, 226, 227, 228, 229, 230, 231, 232, 233, 234, 235, 236, 237] (by decide +kernel) (by decide +kernel)
set_option maxRecDepth 20000 in
theorem ggL_law_L_isFull_c9 : GoodIn wsL_law wsL_isFull_r9 := goodIn_r _ [238, 239, 240, 241, 242, 243, 244, 245, 246, 247, 248, 249, 250, 251, 252, 253, 254, 255, 256, 257, 258, 259, 260, 261] (by decide +kernel) (by decide +kernel)
set_option maxRecDepth 20000 in
theorem ggL_law_L_isFull_c10 : GoodIn wsL_law wsL_isFull_r10 := goodIn_r _ [262, 263, 264, 265, 266, 267, 268, 269, 270, 271, 272, 20, 273, 274, 275, 276, 19, 277, 278, 62, 279, 280, 281, 282] (by decide +kernel) (by decide +kernel)
set_option maxRecDepth 20000 in
theorem ggL_law_L_isFull_c11 : GoodIn wsL_law wsL_isFull_r11 := goodIn_r _ [22, 283, 284, 285, 286, 287, 288, 289, 290, 291, 292, 293, 294, 295, 296, 297, 298, 299, 300, 301, 302, 303, 304, 305] (by decide +kernel) (by decide +kernel)
set_option maxRecDepth 20000 in
theorem ggL_law_L_isFull_c12 : GoodIn wsL_law wsL_isFull_r12 := goodIn_r _ [306, 307, 14, 16, 308, 309, 310, 311, 312, 313, 314, 315, 316, 317, 318, 319, 320, 321, 322, 323, 324, 325, 326, 327] (by decide +kernel) (by decide +kernel)
set_option maxRecDepth 20000 in
theorem ggL_law_L_isFull_c13 : GoodIn wsL_law wsL_isFull_r13 := goodIn_r _ [328, 329, 330, 331, 332, 333, 334, 335, 336, 337, 466, 467, 468, 345, 346, 347, 348, 349, 350, 351, 352, 353, 354, 355] (by decide +kernel) (by decide +kernel)
set_option maxRecDepth 20000 in
theorem ggL_law_L_isFull_c14 : GoodIn wsL_law wsL_isFull_r14 := goodIn_r _ [356, 357, 358, 359, 360, 361, 362, 363, 364, 365, 366, 367, 368, 369, 370, 371, 372, 373, 374, 375, 376, 377, 378, 379] (by decide +kernel) (by decide +kernel)
set_option maxRecDepth 20000 in
theorem ggL_law_L_isFull_c15 : GoodIn wsL_law wsL_isFull_r15 := goodIn_r _ [380, 381, 382, 383, 384, 385, 386, 387, 388, 389, 390, 391, 392, 393, 394, 395, 396, 397, 398, 399, 400, 401, 402, 403] (by decide +kernel) (by decide +kernel)
set_option maxRecDepth 20000 in
theorem ggL_law_L_isFull_c16 : GoodIn wsL_law wsL_isFull_r16 := goodIn_r _ [404, 405, 338, 339, 340, 341, 469, 470, 471, 472, 473, 474, 475, 476, 477, 478, 479, 432, 433, 434, 435, 436, 437, 438] (by decide +kernel) (by decide +kernel)
set_option maxRecDepth 20000 in
theorem ggL_law_L_isFull_c17 : GoodIn wsL_law wsL_isFull_r17 := goodIn_r _ [439, 440, 441, 442, 443, 444, 445, 446, 447, 454, 455, 456, 457, 480, 481, 482, 483] (by decide +kernel) (by decide +kernel)
set_option maxRecDepth 20000 in
theorem ggL_law_L_isFull_wsX40 : GoodIn wsL_law wsX40 := goodIn_r _ [490, 491, 492, 493, 494, 495, 496, 497, 498] (by decide +kernel) (by decide +kernel)
set_option maxRecDepth 20000 in
theorem ggL_law_L_isFull_wsX20 : GoodIn wsL_law wsX20 := goodIn_r _ [499, 500, 501, 502] (by decide +kernel) (by decide +kernel)
set_option maxRecDepth 20000 in
theorem ggL_law_L_isFull_wsX30 : GoodIn wsL_law wsX30 := goodIn_r _ [512, 513, 514, 515] (by decide +kernel) (by decide +kernel)
set_option maxRecDepth 20000 in
theorem ggL_law_L_isFull_wsX10 : GoodIn wsL_law wsX10 := goodIn_r _ [505, 506, 507, 508, 509, 510, 511] (by decide +kernel) (by decide +kernel)
set_option maxRecDepth 20000 in
theorem ggL_law_L_isFull_wsX00 : GoodIn wsL_law wsX00 := goodIn_r _ [503, 504] (by decide +kernel) (by decide +kernel)
set_option maxRecDepth 20000 in
theorem ggL_law_L_isFull : GoodIn wsL_law wsL_isFull := goodIn_ca (goodIn_ca (goodIn_ca (goodIn_cons1 ggL_law_L_isFull_c0 (goodIn_app (goodIn_app (goodIn_app (goodIn_app (goodIn_app (goodIn_app ggL_law_L_isFull_c1 (goodIn_app ggL_law_L_isFull_c2 (goodIn_app ggL_law_L_isFull_c3 (goodIn_app ggL_law_L_isFull_c4 (goodIn_app ggL_law_L_isFull_c5 (goodIn_app ggL_law_L_isFull_c6 (goodIn_app ggL_law_L_isFull_c7 (goodIn_app ggL_law_L_isFull_c8 (goodIn_app ggL_law_L_isFull_c9 (goodIn_app ggL_law_L_isFull_c10 (goodIn_app ggL_law_L_isFull_c11 (goodIn_app ggL_law_L_isFull_c12 (goodIn_app ggL_law_L_isFull_c13 (goodIn_app ggL_law_L_isFull_c14 (goodIn_app ggL_law_L_isFull_c15 (goodIn_app ggL_law_L_isFull_c16 (ggL_law_L_isFull_c17))))))))))))))))) ggL_law_L_isFull_wsX40) ggL_law_L_isFull_wsX20) ggL_law_L_isFull_wsX30) ggL_law_L_isFull_wsX10) ggL_law_L_isFull_wsX00)) (goodIn_sub (fun _ h => List.mem_append_left _ (List.mem_append_left _ (List.mem_append_right _ h))) (by decide +kernel))) (goodIn_sub (fun _ h => List.mem_append_left _ (List.mem_append_right _ h)) (by decide +kernel))) (goodIn_sub (fun _ h => List.mem_append_right _ h) (by decide +kernel))
set_option maxRecDepth 20000 in
theorem gL_law_L_isFull : GoodIn wsL_law (va_wsS RL 137 yL_isFull wsL_isFull) := goodIn_app (goodIn_of _ (by decide +kernel)) ggL_law_L_isFull
