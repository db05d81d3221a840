set_option maxRecDepth 20000 in
theorem ggL_law_L_refuses_c0 : GoodIn wsL_law [.code yL_refuses cL_refuses 5 (some .boolean)] := goodIn_r _ [344] (by decide +kernel) (by decide +kernel)
set_option maxRecDepth 20000 in
theorem ggL_law_L_refuses_c1 : GoodIn wsL_law wsL_refuses_r1 := goodIn_r _ [345, 346, 65, 347, 348, 349, 350, 351, 352, 2, 353, 12, 163, 104, 20, 273, 327, 328, 329, 79, 80, 354, 355, 356] (by decide +kernel) (by decide +kernel)
set_option maxRecDepth 20000 in
theorem ggL_law_L_refuses_c2 : GoodIn wsL_law wsL_refuses_r2 := goodIn_r _ [357, 86, 358, 359, 360, 361, 136, 196, 85, 230, 207, 208, 33, 209, 99, 210, 211, 212, 213, 50, 202, 203, 204, 205] (by decide +kernel) (by decide +kernel)
set_option maxRecDepth 20000 in
theorem ggL_law_L_refuses_c3 : GoodIn wsL_law wsL_refuses_r3 := goodIn_r _ [206, 214, 215, 216, 217, 49, 218, 219, 220, 221, 362, 363, 364, 365, 366, 367, 368, 369, 150, 151, 152, 153, 370, 371] (by decide +kernel) (by decide +kernel)
set_option maxRecDepth 20000 in
theorem ggL_law_L_refuses_c4 : GoodIn wsL_law wsL_refuses_r4 := goodIn_r _ [372, 373, 374, 375, 376, 252, 257, 158, 137, 377, 378, 379, 26, 380, 129, 127, 126, 381, 382, 383, 384, 56, 385, 386] (by decide +kernel) (by decide +kernel)
set_option maxRecDepth 20000 in
theorem ggL_law_L_refuses_c5 : GoodIn wsL_law wsL_refuses_r5 := goodIn_r _ [387, 388, 23, 226, 227, 228, 229, 48, 389, 390, 391, 392, 393, 394, 395, 396, 397, 398, 399, 400, 401, 402, 403, 404] (by decide +kernel) (by decide +kernel)
set_option maxRecDepth 20000 in
theorem ggL_law_L_refuses_c6 : GoodIn wsL_law wsL_refuses_r6 := goodIn_r _ [405, 338, 339, 340, 341, 177, 264, 265, 266, 267, 268, 406, 407, 408, 63, 64, 66, 67, 68, 69, 70, 71, 72, 73] (by decide +kernel) (by decide +kernel)
set_option maxRecDepth 20000 in
theorem ggL_law_L_refuses_c7 : GoodIn wsL_law wsL_refuses_r7 := goodIn_r _ [74, 75, 76, 77, 78, 81, 82, 83, 84, 87, 88, 89, 90, 91, 92, 93, 94, 95, 96, 97, 98, 100, 101, 102] (by decide +kernel) (by decide +kernel)
set_option maxRecDepth 20000 in
theorem ggL_law_L_refuses_c8 : GoodIn wsL_law wsL_refuses_r8 := goodIn_r _ [103, 13, 105, 106, 107, 108, 109, 110, 111, 11, 112, 34, 36, 43, 113, 114, 115, 116, 44, 117, 118, 119, 120, 121] (by decide +kernel) (by decide +kernel)
set_option maxRecDepth 20000 in
theorem ggL_law_L_refuses_c9 : GoodIn wsL_law wsL_refuses_r9 := goodIn_r _ [122, 123, 124, 125, 55, 128, 130, 57, 131, 132, 133, 134, 135, 138, 139, 140, 141, 142, 143, 144, 145, 146, 147, 148] (by decide +kernel) (by decide +kernel)
set_option maxRecDepth 20000 in
theorem ggL_law_L_refuses_c10 : GoodIn wsL_law wsL_refuses_r10 := goodIn_r _ [149, 154, 155, 156, 157, 159, 160, 161, 162, 164, 165, 166, 167, 168, 169, 170, 171, 172, 173, 174, 175, 176, 178, 179] (by decide +kernel) (by decide +kernel)
set_option maxRecDepth 20000 in
theorem ggL_law_L_refuses_c11 : GoodIn wsL_law wsL_refuses_r11 := goodIn_r _ [180, 181, 182, 183, 184, 185, 186, 187, 188, 189, 190, 191, 192, 193, 194, 195, 197, 198, 199, 200, 201, 222, 223, 224] (by decide +kernel) (by decide +kernel)
set_option maxRecDepth 20000 in
theorem ggL_law_L_refuses_c12 : GoodIn wsL_law wsL_refuses_r12 := goodIn_r _ [225, 231, 232, 233, 234, 235, 236, 237, 238, 239, 240, 241, 242, 243, 244, 245, 246, 247, 248, 249, 250, 251, 253, 254] (by decide +kernel) (by decide +kernel)
set_option maxRecDepth 20000 in
theorem ggL_law_L_refuses_c13 : GoodIn wsL_law wsL_refuses_r13 := goodIn_r _ [255, 256, 258, 259, 260, 261, 262, 263, 269, 270, 271, 272, 274, 275, 276, 19, 277, 278, 62, 279, 280, 281, 282, 22] (by decide +kernel) (by decide +kernel)
set_option maxRecDepth 20000 in
theorem ggL_law_L_refuses_c14 : GoodIn wsL_law wsL_refuses_r14 := goodIn_r _ [283, 284, 285, 286, 287, 288, 289, 290, 291, 292, 293, 294, 295, 296, 297, 298, 299, 300, 301, 302, 303, 304, 305, 306] (by decide +kernel) (by decide +kernel)
set_option maxRecDepth 20000 in
theorem ggL_law_L_refuses_c15 : GoodIn wsL_law wsL_refuses_r15 := goodIn_r _ [307, 14, 16, 308, 309, 310, 311, 312, 313, 314, 315, 316, 317, 318, 319, 320, 321, 322, 323, 324, 325, 326, 330, 331] (by decide +kernel) (by decide +kernel)
set_option maxRecDepth 20000 in
theorem ggL_law_L_refuses_c16 : GoodIn wsL_law wsL_refuses_r16 := goodIn_r _ [332, 333, 334, 335, 336, 337, 409, 410, 411, 412, 413, 414, 415, 416, 417, 418, 419, 420, 421, 422, 423, 424, 425, 426] (by decide +kernel) (by decide +kernel)
set_option maxRecDepth 20000 in
theorem ggL_law_L_refuses_c17 : GoodIn wsL_law wsL_refuses_r17 := goodIn_r _ [427, 428, 429, 430, 431, 432, 433, 434, 435, 436, 437, 438, 439, 440, 441, 442, 443, 444, 445, 446, 447, 448, 449, 450] (by decide +kernel) (by decide +kernel)
set_option maxRecDepth 20000 in
theorem ggL_law_L_refuses_c18 : GoodIn wsL_law wsL_refuses_r18 := goodIn_r _ [451, 27, 452, 453, 454, 455, 456, 457] (by decide +kernel) (by decide +kernel)
set_option maxRecDepth 20000 in
theorem ggL_law_L_refuses_wsX40 : GoodIn wsL_law wsX40 := goodIn_r _ [490, 491, 492, 493, 494, 495, 496, 497, 498] (by decide +kernel) (by decide +kernel)
set_option maxRecDepth 20000 in
theorem ggL_law_L_refuses_wsX20 : GoodIn wsL_law wsX20 := goodIn_r _ [499, 500, 501, 502] (by decide +kernel) (by decide +kernel)
set_option maxRecDepth 20000 in
theorem ggL_law_L_refuses_wsX00 : GoodIn wsL_law wsX00 := goodIn_r _ [503, 504] (by decide +kernel) (by decide +kernel)
set_option maxRecDepth 20000 in
theorem ggL_law_L_refuses_wsX30 : GoodIn wsL_law wsX30 := goodIn_r _ [512, 513, 514, 515] (by decide +kernel) (by decide +kernel)
set_option maxRecDepth 20000 in
theorem ggL_law_L_refuses_wsX10 : GoodIn wsL_law wsX10 := goodIn_r _ [505, 506, 507, 508, 509, 510, 511] (by decide +kernel) (by decide +kernel)
set_option maxRecDepth 20000 in
theorem ggL_law_L_refuses : GoodIn wsL_law wsL_refuses := goodIn_ca (goodIn_ca (goodIn_ca (goodIn_cons1 ggL_law_L_refuses_c0 (goodIn_app (goodIn_app (goodIn_app (goodIn_app (goodIn_app (goodIn_app ggL_law_L_refuses_c1 (goodIn_app ggL_law_L_refuses_c2 (goodIn_app ggL_law_L_refuses_c3 (goodIn_app ggL_law_L_refuses_c4 (goodIn_app ggL_law_L_refuses_c5 (goodIn_app ggL_law_L_refuses_c6 (goodIn_app ggL_law_L_refuses_c7 (goodIn_app ggL_law_L_refuses_c8 (goodIn_app ggL_law_L_refuses_c9 (goodIn_app ggL_law_L_refuses_c10 (goodIn_app ggL_law_L_refuses_c11 (goodIn_app ggL_law_L_refuses_c12 (goodIn_app ggL_law_L_refuses_c13 (goodIn_app ggL_law_L_refuses_c14 (goodIn_app ggL_law_L_refuses_c15 (goodIn_app ggL_law_L_refuses_c16 (goodIn_app ggL_law_L_refuses_c17 (ggL_law_L_refuses_c18)))))))))))))))))) ggL_law_L_refuses_wsX40) ggL_law_L_refuses_wsX20) ggL_law_L_refuses_wsX00) ggL_law_L_refuses_wsX30) ggL_law_L_refuses_wsX10)) (goodIn_sub (fun _ h => List.mem_append_left _ (List.mem_append_right _ h)) (by decide +kernel))) (goodIn_sub (fun _ h => List.mem_append_right _ h) (by decide +kernel))) (goodIn_sub (fun _ h => List.mem_append_left _ (List.mem_append_left _ (List.mem_append_right _ h))) (by decide +kernel))
set_option maxRecDepth 20000 in
theorem gL_law_L_refuses : GoodIn wsL_law (va_wsS RL 130 yL_refuses wsL_refuses) := goodIn_app (goodIn_of _ (by decide +kernel)) ggL_law_L_refuses
