theorem dL_cell_0 : decode cL_cell 0 = .ok (.iload_n 1, 1) := by decide +kernel
theorem dL_cell_1 : decode cL_cell 1 = .ok (.aload_n 0, 1) := by decide +kernel
theorem dL_cell_2 : decode cL_cell 2 = .ok (.arraylength, 1) := by decide +kernel
theorem dL_cell_3 : decode cL_cell 3 = .ok (.if_icmp .ge 9, 3) := by decide +kernel
theorem dL_cell_6 : decode cL_cell 6 = .ok (.aload_n 0, 1) := by decide +kernel
theorem dL_cell_7 : decode cL_cell 7 = .ok (.iload_n 1, 1) := by decide +kernel
theorem dL_cell_8 : decode cL_cell 8 = .ok (.iaload, 1) := by decide +kernel
theorem dL_cell_9 : decode cL_cell 9 = .ok (.goto 14, 3) := by decide +kernel
theorem dL_cell_12 : decode cL_cell 12 = .ok (.ldc 7, 2) := by decide +kernel
theorem dL_cell_14 : decode cL_cell 14 = .ok (.iload_n 1, 1) := by decide +kernel
theorem dL_cell_15 : decode cL_cell 15 = .ok (.bipush 53, 2) := by decide +kernel
theorem dL_cell_17 : decode cL_cell 17 = .ok (.iadd, 1) := by decide +kernel
theorem dL_cell_18 : decode cL_cell 18 = .ok (.imul, 1) := by decide +kernel
theorem dL_cell_19 : decode cL_cell 19 = .ok (.sipush 11003, 3) := by decide +kernel
theorem dL_cell_22 : decode cL_cell 22 = .ok (.iadd, 1) := by decide +kernel
theorem dL_cell_23 : decode cL_cell 23 = .ok (.ldc 8, 2) := by decide +kernel
theorem dL_cell_25 : decode cL_cell 25 = .ok (.iand, 1) := by decide +kernel
theorem dL_cell_26 : decode cL_cell 26 = .ok (.ireturn, 1) := by decide +kernel
set_option maxRecDepth 20000 in
theorem ggL_call_X4_add : GoodIn wsL_call wsX4_add := goodIn_ca (goodIn_ca (goodIn_r _ [8, 9, 10, 11, 12, 7, 13, 14, 15, 16, 17, 18, 19, 20, 21, 22, 23, 24, 25, 26, 27, 28, 29, 30, 31, 32, 33, 34, 35, 36, 37, 38, 39, 40, 41, 42, 43, 44, 45, 46, 47, 48, 49, 50, 51, 52, 53, 54, 55, 56, 57, 58, 59, 60, 61, 62, 63, 64, 65, 66, 67, 68, 69, 70, 71, 72, 73, 74, 75, 76, 77, 78, 79, 80, 81, 82, 83, 84, 85, 86, 87, 88, 89, 90, 91, 92, 93, 94, 95, 96, 97, 98, 99, 100, 101, 102, 103, 104, 105, 106, 107, 108, 109, 110, 111, 112, 113, 114, 115, 116, 117, 118, 119, 120, 121, 122, 123, 124, 125, 126, 127, 128, 129, 130, 131, 132, 133, 134, 135, 136, 137, 138, 139, 140, 141, 142, 143, 144, 145, 146, 147, 148, 149, 150, 151, 152, 153, 154, 155, 156, 157, 158, 159, 160, 161, 162, 163, 164, 165, 166, 167, 168, 169, 170, 171, 172, 173, 174, 175, 176, 177, 178, 179, 180, 181, 182, 183, 184, 185, 186, 187, 188, 189, 190, 191, 192, 193, 194, 295, 296, 297, 298, 299, 300, 301, 302, 303, 304, 305, 306, 307, 308, 309, 310, 311, 312, 313, 314, 315, 316, 317, 318] (by decide +kernel) (by decide +kernel)) (goodIn_sub (fun _ h => List.mem_cons_of_mem _ (List.mem_append_left _ (List.mem_append_left _ (List.mem_append_right _ h)))) (by decide +kernel))) (goodIn_sub (fun _ h => List.mem_cons_of_mem _ (List.mem_append_left _ (List.mem_append_right _ h))) (by decide +kernel))
set_option maxRecDepth 20000 in
theorem gL_call_X4_add : GoodIn wsL_call (wsV RL 9 RX4 yX4_add wsX4_add) := goodIn_app (goodIn_of _ (by decide +kernel)) ggL_call_X4_add
set_option maxRecDepth 20000 in
theorem ggL_call_X4_remove : GoodIn wsL_call wsX4_remove := goodIn_ca (goodIn_r _ [198, 11, 12, 7, 13, 14, 15, 38, 39, 40, 41, 42, 43, 20, 44, 45, 46, 47, 48, 49, 50, 51, 52, 53, 54, 55, 56, 57, 58, 59, 60, 61, 62, 63, 26, 64, 37, 32, 65, 66, 67, 68, 69, 70, 71, 72, 73, 74, 75, 76, 77, 78, 79, 80, 81, 82, 83, 84, 85, 21, 86, 87, 88, 89, 90, 91, 33, 34, 35, 36, 92, 93, 94, 95, 96, 97, 98, 99, 100, 101, 102, 103, 104, 105, 106, 107, 108, 109, 110, 111, 112, 113, 114, 115, 116, 117, 118, 119, 120, 121, 122, 123, 124, 125, 126, 127, 128, 129, 130, 131, 132, 133, 134, 135, 136, 137, 138, 139, 140, 141, 142, 143, 144, 145, 146, 147, 148, 149, 150, 151, 22, 152, 153, 154, 155, 156, 157, 158, 159, 160, 161, 162, 163, 164, 165, 166, 167, 168, 169, 170, 171, 172, 173, 174, 175, 176, 177, 178, 179, 180, 181, 182, 183, 184, 185, 186, 187, 188, 189, 190, 191, 192, 193, 194, 295, 296, 297, 298, 299, 300, 301, 302, 303, 304, 305, 306, 307, 308, 309, 310, 311, 312, 313, 314, 315, 316, 317, 318] (by decide +kernel) (by decide +kernel)) (goodIn_sub (fun _ h => List.mem_cons_of_mem _ (List.mem_append_left _ (List.mem_append_right _ h))) (by decide +kernel))
set_option maxRecDepth 20000 in
theorem gL_call_X4_remove : GoodIn wsL_call (wsV RL 15 RX4 yX4_remove wsX4_remove) := goodIn_app (goodIn_of _ (by decide +kernel)) ggL_call_X4_remove
set_option maxRecDepth 20000 in
theorem ggL_call_X4_begin : GoodIn wsL_call wsX4_begin := goodIn_ca (goodIn_r _ [202, 9, 10, 20, 86, 87, 203, 38, 39, 40, 7, 41, 42, 43, 44, 45, 46, 47, 48, 49, 50, 51, 52, 53, 54, 55, 56, 57, 58, 59, 60, 61, 62, 63, 26, 64, 37, 32, 65, 66, 67, 68, 69, 70, 71, 72, 73, 74, 75, 76, 77, 78, 79, 80, 81, 172, 173, 174, 175, 21, 176, 113, 177, 178, 179, 180, 181, 157, 158, 159, 160, 161, 162, 163, 182, 183, 184, 185, 186, 115, 116, 117, 118, 187, 188, 189, 295, 296, 297, 298, 299, 300, 301, 302, 303, 304, 305, 306, 307, 312, 313, 314, 315, 316, 317, 318, 308, 309, 310, 311] (by decide +kernel) (by decide +kernel)) (goodIn_sub (fun _ h => List.mem_cons_of_mem _ (List.mem_append_left _ (List.mem_append_left _ (List.mem_append_right _ h)))) (by decide +kernel))
set_option maxRecDepth 20000 in
theorem gL_call_X4_begin : GoodIn wsL_call (wsV RL 18 RX4 yX4_begin wsX4_begin) := goodIn_app (goodIn_of _ (by decide +kernel)) ggL_call_X4_begin
set_option maxRecDepth 20000 in
theorem ggL_call_X4_abandon : GoodIn wsL_call wsX4_abandon := goodIn_ca (goodIn_r _ [207, 9, 10, 20, 86, 87, 208, 38, 39, 40, 7, 41, 42, 43, 44, 45, 46, 47, 48, 49, 50, 51, 52, 53, 54, 55, 56, 57, 58, 59, 60, 61, 62, 63, 26, 64, 37, 32, 65, 66, 67, 68, 69, 70, 71, 72, 73, 74, 75, 76, 77, 78, 79, 80, 81, 109, 110, 111, 112, 113, 114, 115, 116, 117, 118, 295, 296, 297, 298, 299, 300, 301, 302, 303, 304, 305, 306, 307, 312, 313, 314, 315, 316, 317, 318, 308, 309, 310, 311] (by decide +kernel) (by decide +kernel)) (goodIn_sub (fun _ h => List.mem_cons_of_mem _ (List.mem_append_left _ (List.mem_append_left _ (List.mem_append_right _ h)))) (by decide +kernel))
set_option maxRecDepth 20000 in
theorem gL_call_X4_abandon : GoodIn wsL_call (wsV RL 22 RX4 yX4_abandon wsX4_abandon) := goodIn_app (goodIn_of _ (by decide +kernel)) ggL_call_X4_abandon
set_option maxRecDepth 20000 in
theorem ggL_call_X4_set : GoodIn wsL_call wsX4_set := goodIn_ca (goodIn_ca (goodIn_r _ [212, 14, 15, 213, 214, 20, 127, 215, 216, 7, 217, 218, 219, 38, 39, 40, 41, 42, 43, 44, 45, 46, 47, 48, 49, 50, 51, 52, 53, 54, 55, 56, 57, 58, 59, 60, 61, 62, 63, 26, 64, 37, 32, 65, 66, 67, 68, 69, 70, 71, 72, 73, 74, 75, 76, 77, 78, 79, 80, 81, 295, 296, 297, 298, 299, 300, 301, 302, 303, 304, 305, 306, 307, 308, 309, 310, 311, 312, 313, 314, 315, 316, 317, 318] (by decide +kernel) (by decide +kernel)) (goodIn_sub (fun _ h => List.mem_cons_of_mem _ (List.mem_append_left _ (List.mem_append_right _ h))) (by decide +kernel))) (goodIn_sub (fun _ h => List.mem_cons_of_mem _ (List.mem_append_right _ h)) (by decide +kernel))
set_option maxRecDepth 20000 in
theorem gL_call_X4_set : GoodIn wsL_call (wsV RL 25 RX4 yX4_set wsX4_set) := goodIn_app (goodIn_of _ (by decide +kernel)) ggL_call_X4_set
set_option maxRecDepth 20000 in
theorem ggL_call_X4_append : GoodIn wsL_call wsX4_append := goodIn_ca (goodIn_ca (goodIn_r _ [223, 14, 15, 9, 10, 224, 225, 226, 227, 228, 229, 230, 231, 232, 295, 296, 297, 298, 299, 300, 301, 302, 303, 319, 320] (by decide +kernel) (by decide +kernel)) (goodIn_sub (fun _ h => List.mem_cons_of_mem _ (List.mem_append_left _ (List.mem_append_right _ h))) (by decide +kernel))) (goodIn_sub (fun _ h => List.mem_cons_of_mem _ (List.mem_append_left _ (List.mem_append_left _ (List.mem_append_right _ h)))) (by decide +kernel))
set_option maxRecDepth 20000 in
theorem gL_call_X4_append : GoodIn wsL_call (wsV RL 29 RX4 yX4_append wsX4_append) := goodIn_app (goodIn_of _ (by decide +kernel)) ggL_call_X4_append
set_option maxRecDepth 20000 in
theorem ggL_call_X4_execute : GoodIn wsL_call wsX4_execute := goodIn_ca (goodIn_r _ [236, 14, 15, 224, 237, 225, 238, 239, 240, 229, 241, 231, 232, 242, 243, 244, 245, 246, 247, 248, 249, 250, 38, 39, 40, 7, 41, 42, 43, 20, 44, 45, 46, 47, 48, 49, 50, 51, 52, 53, 54, 55, 56, 57, 58, 59, 60, 61, 62, 63, 26, 64, 37, 32, 65, 66, 67, 68, 69, 70, 71, 72, 73, 74, 75, 76, 77, 78, 79, 80, 81, 251, 252, 253, 254, 16, 17, 18, 19, 21, 22, 23, 24, 25, 27, 28, 29, 30, 31, 33, 34, 35, 36, 82, 83, 84, 85, 86, 87, 88, 89, 90, 91, 92, 93, 94, 95, 96, 97, 98, 99, 100, 101, 102, 103, 104, 105, 106, 107, 108, 109, 110, 111, 112, 113, 114, 115, 116, 117, 118, 119, 120, 121, 122, 123, 124, 125, 126, 127, 128, 129, 130, 131, 132, 133, 134, 135, 136, 137, 138, 139, 140, 141, 142, 143, 144, 145, 146, 147, 148, 149, 150, 151, 152, 153, 154, 155, 156, 157, 158, 159, 160, 161, 162, 163, 164, 165, 166, 167, 168, 169, 170, 171, 172, 173, 174, 175, 176, 177, 178, 179, 180, 181, 182, 183, 184, 185, 186, 187, 188, 189, 190, 191, 192, 193, 194, 295, 296, 297, 298, 299, 300, 301, 302, 303, 319, 320, 304, 305, 306, 307, 308, 309, 310, 311, 312, 313, 314, 315, 316, 317, 318] (by decide +kernel) (by decide +kernel)) (goodIn_sub (fun _ h => List.mem_cons_of_mem _ (List.mem_append_left _ (List.mem_append_right _ h))) (by decide +kernel))
set_option maxRecDepth 20000 in
theorem gL_call_X4_execute : GoodIn wsL_call (wsV RL 32 RX4 yX4_execute wsX4_execute) := goodIn_app (goodIn_of _ (by decide +kernel)) ggL_call_X4_execute
set_option maxRecDepth 20000 in
theorem ggL_call_X4_undo : GoodIn wsL_call wsX4_undo := goodIn_ca (goodIn_r _ [258, 9, 10, 42, 20, 43, 48, 49, 50, 51, 52, 53, 54, 55, 56, 57, 58, 59, 60, 61, 62, 63, 26, 64, 37, 32, 65, 66, 67, 68, 69, 70, 71, 72, 73, 74, 75, 76, 77, 78, 79, 80, 81, 295, 296, 297, 298, 299, 300, 301, 302, 303, 304, 305, 306, 307, 308, 309, 310, 311, 312, 313, 314, 315, 316, 317, 318] (by decide +kernel) (by decide +kernel)) (goodIn_sub (fun _ h => List.mem_cons_of_mem _ (List.mem_append_left _ (List.mem_append_left _ (List.mem_append_right _ h)))) (by decide +kernel))
set_option maxRecDepth 20000 in
theorem gL_call_X4_undo : GoodIn wsL_call (wsV RL 35 RX4 yX4_undo wsX4_undo) := goodIn_app (goodIn_of _ (by decide +kernel)) ggL_call_X4_undo
set_option maxRecDepth 20000 in
theorem ggL_call_X4_keep : GoodIn wsL_call wsX4_keep := goodIn_ca (goodIn_r _ [262, 263, 20, 264, 21, 265, 266, 7, 267, 14, 15, 48, 49, 50, 51, 52, 53, 54, 55, 56, 57, 58, 59, 60, 61, 62, 63, 26, 64, 37, 32, 65, 66, 67, 68, 69, 70, 71, 72, 73, 74, 75, 76, 77, 78, 79, 80, 81, 181, 157, 158, 159, 160, 161, 162, 163, 295, 296, 297, 298, 299, 300, 301, 302, 303, 304, 305, 306, 307, 308, 309, 310, 311, 312, 313, 314, 315, 316, 317, 318] (by decide +kernel) (by decide +kernel)) (goodIn_sub (fun _ h => List.mem_cons_of_mem _ (List.mem_append_left _ (List.mem_append_right _ h))) (by decide +kernel))
set_option maxRecDepth 20000 in
theorem gL_call_X4_keep : GoodIn wsL_call (wsV RL 38 RX4 yX4_keep wsX4_keep) := goodIn_app (goodIn_of _ (by decide +kernel)) ggL_call_X4_keep
set_option maxRecDepth 20000 in
theorem ggL_call_X4_goBack : GoodIn wsL_call wsX4_goBack := goodIn_ca (goodIn_ca (goodIn_r _ [271, 9, 10, 264, 20, 263, 21, 265, 266, 7, 267, 14, 15, 38, 39, 40, 41, 42, 43, 44, 45, 46, 47, 48, 49, 50, 51, 52, 53, 54, 55, 56, 57, 58, 59, 60, 61, 62, 63, 26, 64, 37, 32, 65, 66, 67, 68, 69, 70, 71, 72, 73, 74, 75, 76, 77, 78, 79, 80, 81, 181, 157, 158, 159, 160, 161, 162, 163, 295, 296, 297, 298, 299, 300, 301, 302, 303, 304, 305, 306, 307, 308, 309, 310, 311, 312, 313, 314, 315, 316, 317, 318] (by decide +kernel) (by decide +kernel)) (goodIn_sub (fun _ h => List.mem_cons_of_mem _ (List.mem_append_left _ (List.mem_append_left _ (List.mem_append_right _ h)))) (by decide +kernel))) (goodIn_sub (fun _ h => List.mem_cons_of_mem _ (List.mem_append_left _ (List.mem_append_right _ h))) (by decide +kernel))
set_option maxRecDepth 20000 in
theorem gL_call_X4_goBack : GoodIn wsL_call (wsV RL 41 RX4 yX4_goBack wsX4_goBack) := goodIn_app (goodIn_of _ (by decide +kernel)) ggL_call_X4_goBack
set_option maxRecDepth 20000 in
theorem ggL_call_X4_contains : GoodIn wsL_call wsX4_contains := goodIn_ca (goodIn_r _ [275, 20, 21, 11, 12, 7, 13, 14, 15, 276, 277, 278, 26, 279, 67, 28, 29, 30, 31, 32, 33, 34, 35, 36, 37, 295, 296, 297, 298, 299, 300, 301, 302, 303, 304, 305, 306, 307, 308, 309, 310, 311] (by decide +kernel) (by decide +kernel)) (goodIn_sub (fun _ h => List.mem_cons_of_mem _ (List.mem_append_left _ (List.mem_append_right _ h))) (by decide +kernel))
set_option maxRecDepth 20000 in
theorem gL_call_X4_contains : GoodIn wsL_call (wsV RL 44 RX4 yX4_contains wsX4_contains) := goodIn_app (goodIn_of _ (by decide +kernel)) ggL_call_X4_contains
set_option maxRecDepth 20000 in
theorem ggL_call_X4_near : GoodIn wsL_call wsX4_near := goodIn_ca (goodIn_r _ [283, 20, 21, 11, 12, 7, 13, 14, 15, 284, 285, 286, 287, 288, 289, 26, 290, 37, 67, 32, 291, 292, 293, 294, 295, 296, 297, 298, 299, 300, 301, 302, 303, 304, 305, 306, 307, 308, 309, 310, 311] (by decide +kernel) (by decide +kernel)) (goodIn_sub (fun _ h => List.mem_cons_of_mem _ (List.mem_append_left _ (List.mem_append_right _ h))) (by decide +kernel))
set_option maxRecDepth 20000 in
theorem gL_call_X4_near : GoodIn wsL_call (wsV RL 48 RX4 yX4_near wsX4_near) := goodIn_app (goodIn_of _ (by decide +kernel)) ggL_call_X4_near
theorem dL_call_0 : decode cL_call 0 = .ok (.iload_n 1, 1) := by decide +kernel
theorem dL_call_1 : decode cL_call 1 = .ok (.ifCond .ne 11, 3) := by decide +kernel
theorem dL_call_4 : decode cL_call 4 = .ok (.aload_n 0, 1) := by decide +kernel
theorem dL_call_5 : decode cL_call 5 = .ok (.iload_n 2, 1) := by decide +kernel
theorem dL_call_6 : decode cL_call 6 = .ok (.invokevirtual 9, 3) := by decide +kernel
theorem dL_call_9 : decode cL_call 9 = .ok (.goto 149, 3) := by decide +kernel
theorem dL_call_12 : decode cL_call 12 = .ok (.iload_n 1, 1) := by decide +kernel
theorem dL_call_13 : decode cL_call 13 = .ok (.iconst 1, 1) := by decide +kernel
theorem dL_call_14 : decode cL_call 14 = .ok (.if_icmp .ne 11, 3) := by decide +kernel
theorem dL_call_17 : decode cL_call 17 = .ok (.aload_n 0, 1) := by decide +kernel
theorem dL_call_18 : decode cL_call 18 = .ok (.iload_n 2, 1) := by decide +kernel
theorem dL_call_19 : decode cL_call 19 = .ok (.invokevirtual 15, 3) := by decide +kernel
theorem dL_call_22 : decode cL_call 22 = .ok (.goto 136, 3) := by decide +kernel
theorem dL_call_25 : decode cL_call 25 = .ok (.iload_n 1, 1) := by decide +kernel
theorem dL_call_26 : decode cL_call 26 = .ok (.iconst 2, 1) := by decide +kernel
theorem dL_call_27 : decode cL_call 27 = .ok (.if_icmp .ne 10, 3) := by decide +kernel
theorem dL_call_30 : decode cL_call 30 = .ok (.aload_n 0, 1) := by decide +kernel
theorem dL_call_31 : decode cL_call 31 = .ok (.invokevirtual 18, 3) := by decide +kernel
theorem dL_call_34 : decode cL_call 34 = .ok (.goto 124, 3) := by decide +kernel
theorem dL_call_37 : decode cL_call 37 = .ok (.iload_n 1, 1) := by decide +kernel
theorem dL_call_38 : decode cL_call 38 = .ok (.iconst 3, 1) := by decide +kernel
theorem dL_call_39 : decode cL_call 39 = .ok (.if_icmp .ne 10, 3) := by decide +kernel
theorem dL_call_42 : decode cL_call 42 = .ok (.aload_n 0, 1) := by decide +kernel
theorem dL_call_43 : decode cL_call 43 = .ok (.invokevirtual 22, 3) := by decide +kernel
theorem dL_call_46 : decode cL_call 46 = .ok (.goto 112, 3) := by decide +kernel
theorem dL_call_49 : decode cL_call 49 = .ok (.iload_n 1, 1) := by decide +kernel
theorem dL_call_50 : decode cL_call 50 = .ok (.iconst 4, 1) := by decide +kernel
theorem dL_call_51 : decode cL_call 51 = .ok (.if_icmp .ne 12, 3) := by decide +kernel
theorem dL_call_54 : decode cL_call 54 = .ok (.aload_n 0, 1) := by decide +kernel
theorem dL_call_55 : decode cL_call 55 = .ok (.iload_n 2, 1) := by decide +kernel
theorem dL_call_56 : decode cL_call 56 = .ok (.iload_n 3, 1) := by decide +kernel
theorem dL_call_57 : decode cL_call 57 = .ok (.invokevirtual 25, 3) := by decide +kernel
theorem dL_call_60 : decode cL_call 60 = .ok (.goto 98, 3) := by decide +kernel
theorem dL_call_63 : decode cL_call 63 = .ok (.iload_n 1, 1) := by decide +kernel
theorem dL_call_64 : decode cL_call 64 = .ok (.iconst 5, 1) := by decide +kernel
theorem dL_call_65 : decode cL_call 65 = .ok (.if_icmp .ne 11, 3) := by decide +kernel
theorem dL_call_68 : decode cL_call 68 = .ok (.aload_n 0, 1) := by decide +kernel
theorem dL_call_69 : decode cL_call 69 = .ok (.iload_n 2, 1) := by decide +kernel
theorem dL_call_70 : decode cL_call 70 = .ok (.invokevirtual 29, 3) := by decide +kernel
theorem dL_call_73 : decode cL_call 73 = .ok (.goto 85, 3) := by decide +kernel
theorem dL_call_76 : decode cL_call 76 = .ok (.iload_n 1, 1) := by decide +kernel
theorem dL_call_77 : decode cL_call 77 = .ok (.bipush 6, 2) := by decide +kernel
theorem dL_call_79 : decode cL_call 79 = .ok (.if_icmp .ne 10, 3) := by decide +kernel
theorem dL_call_82 : decode cL_call 82 = .ok (.aload_n 0, 1) := by decide +kernel
theorem dL_call_83 : decode cL_call 83 = .ok (.invokevirtual 32, 3) := by decide +kernel
theorem dL_call_86 : decode cL_call 86 = .ok (.goto 72, 3) := by decide +kernel
theorem dL_call_89 : decode cL_call 89 = .ok (.iload_n 1, 1) := by decide +kernel
theorem dL_call_90 : decode cL_call 90 = .ok (.bipush 7, 2) := by decide +kernel
theorem dL_call_92 : decode cL_call 92 = .ok (.if_icmp .ne 10, 3) := by decide +kernel
theorem dL_call_95 : decode cL_call 95 = .ok (.aload_n 0, 1) := by decide +kernel
theorem dL_call_96 : decode cL_call 96 = .ok (.invokevirtual 35, 3) := by decide +kernel
theorem dL_call_99 : decode cL_call 99 = .ok (.goto 59, 3) := by decide +kernel
theorem dL_call_102 : decode cL_call 102 = .ok (.iload_n 1, 1) := by decide +kernel
theorem dL_call_103 : decode cL_call 103 = .ok (.bipush 8, 2) := by decide +kernel
theorem dL_call_105 : decode cL_call 105 = .ok (.if_icmp .ne 11, 3) := by decide +kernel
theorem dL_call_108 : decode cL_call 108 = .ok (.aload_n 0, 1) := by decide +kernel
theorem dL_call_109 : decode cL_call 109 = .ok (.iload_n 2, 1) := by decide +kernel
theorem dL_call_110 : decode cL_call 110 = .ok (.invokevirtual 38, 3) := by decide +kernel
theorem dL_call_113 : decode cL_call 113 = .ok (.goto 45, 3) := by decide +kernel
theorem dL_call_116 : decode cL_call 116 = .ok (.iload_n 1, 1) := by decide +kernel
theorem dL_call_117 : decode cL_call 117 = .ok (.bipush 9, 2) := by decide +kernel
theorem dL_call_119 : decode cL_call 119 = .ok (.if_icmp .ne 11, 3) := by decide +kernel
theorem dL_call_122 : decode cL_call 122 = .ok (.aload_n 0, 1) := by decide +kernel
theorem dL_call_123 : decode cL_call 123 = .ok (.iload_n 2, 1) := by decide +kernel
theorem dL_call_124 : decode cL_call 124 = .ok (.invokevirtual 41, 3) := by decide +kernel
theorem dL_call_127 : decode cL_call 127 = .ok (.goto 31, 3) := by decide +kernel
theorem dL_call_130 : decode cL_call 130 = .ok (.iload_n 1, 1) := by decide +kernel
theorem dL_call_131 : decode cL_call 131 = .ok (.bipush 10, 2) := by decide +kernel
theorem dL_call_133 : decode cL_call 133 = .ok (.if_icmp .ne 19, 3) := by decide +kernel
theorem dL_call_136 : decode cL_call 136 = .ok (.aload_n 0, 1) := by decide +kernel
theorem dL_call_137 : decode cL_call 137 = .ok (.iload_n 2, 1) := by decide +kernel
theorem dL_call_138 : decode cL_call 138 = .ok (.invokevirtual 44, 3) := by decide +kernel
theorem dL_call_141 : decode cL_call 141 = .ok (.ifCond .eq 7, 3) := by decide +kernel
theorem dL_call_144 : decode cL_call 144 = .ok (.iconst 1, 1) := by decide +kernel
theorem dL_call_145 : decode cL_call 145 = .ok (.goto 13, 3) := by decide +kernel
theorem dL_call_148 : decode cL_call 148 = .ok (.iconst 0, 1) := by decide +kernel
theorem dL_call_149 : decode cL_call 149 = .ok (.goto 9, 3) := by decide +kernel
theorem dL_call_152 : decode cL_call 152 = .ok (.aload_n 0, 1) := by decide +kernel
theorem dL_call_153 : decode cL_call 153 = .ok (.iload_n 2, 1) := by decide +kernel
theorem dL_call_154 : decode cL_call 154 = .ok (.iload_n 3, 1) := by decide +kernel
theorem dL_call_155 : decode cL_call 155 = .ok (.invokevirtual 48, 3) := by decide +kernel
theorem dL_call_158 : decode cL_call 158 = .ok (.ireturn, 1) := by decide +kernel
theorem dL_call_159 : decode cL_call 159 = .ok (.astore 4, 2) := by decide +kernel
theorem dL_call_161 : decode cL_call 161 = .ok (.bipush (-10), 2) := by decide +kernel
theorem dL_call_163 : decode cL_call 163 = .ok (.ireturn, 1) := by decide +kernel
theorem dL_call_164 : decode cL_call 164 = .ok (.astore 4, 2) := by decide +kernel
theorem dL_call_166 : decode cL_call 166 = .ok (.bipush (-11), 2) := by decide +kernel
theorem dL_call_168 : decode cL_call 168 = .ok (.ireturn, 1) := by decide +kernel
theorem dL_call_169 : decode cL_call 169 = .ok (.astore 4, 2) := by decide +kernel
theorem dL_call_171 : decode cL_call 171 = .ok (.bipush (-12), 2) := by decide +kernel
theorem dL_call_173 : decode cL_call 173 = .ok (.ireturn, 1) := by decide +kernel
set_option maxRecDepth 20000 in
theorem ggL_ask_X4_rank : GoodIn wsL_ask wsX4_rank := goodIn_ca (goodIn_r _ [7, 8, 9, 10, 11, 6, 12, 13, 14, 15, 16, 17, 18, 19, 20, 21, 22, 218, 219, 220, 221, 222, 223, 224, 225, 226, 227, 228, 229, 230, 231, 232, 233, 234] (by decide +kernel) (by decide +kernel)) (goodIn_sub (fun _ h => List.mem_cons_of_mem _ (List.mem_append_left _ (List.mem_append_right _ h))) (by decide +kernel))
set_option maxRecDepth 20000 in
theorem gL_ask_X4_rank : GoodIn wsL_ask (wsV RL 57 RX4 yX4_rank wsX4_rank) := goodIn_app (goodIn_of _ (by decide +kernel)) ggL_ask_X4_rank
set_option maxRecDepth 20000 in
theorem ggL_ask_X4_keyAt : GoodIn wsL_ask wsX4_keyAt := goodIn_ca (goodIn_r _ [26, 13, 14, 8, 9, 27, 28, 29, 30, 18, 31, 20, 22, 21, 218, 219, 220, 221, 222, 223, 224, 225, 226, 227, 228, 229, 230, 231, 232, 233, 234] (by decide +kernel) (by decide +kernel)) (goodIn_sub (fun _ h => List.mem_cons_of_mem _ (List.mem_append_left _ (List.mem_append_right _ h))) (by decide +kernel))
set_option maxRecDepth 20000 in
theorem gL_ask_X4_keyAt : GoodIn wsL_ask (wsV RL 60 RX4 yX4_keyAt wsX4_keyAt) := goodIn_app (goodIn_of _ (by decide +kernel)) ggL_ask_X4_keyAt
set_option maxRecDepth 20000 in
theorem ggL_ask_X4_node : GoodIn wsL_ask wsX4_node := goodIn_ca (goodIn_r _ [35, 13, 14, 36, 37, 38, 6, 39, 40, 41, 42, 43, 8, 44, 45, 9, 46, 47, 48, 18, 49, 22, 21, 50, 51, 52, 53, 54, 20, 55, 56, 57, 58, 231, 232, 233, 234, 218, 219, 220, 221, 222, 223, 224, 225, 226, 227, 228, 229, 230, 235, 236, 237, 238, 239, 240, 241] (by decide +kernel) (by decide +kernel)) (goodIn_sub (fun _ h => List.mem_cons_of_mem _ (List.mem_append_left _ (List.mem_append_right _ h))) (by decide +kernel))
set_option maxRecDepth 20000 in
theorem gL_ask_X4_node : GoodIn wsL_ask (wsV RL 63 RX4 yX4_node wsX4_node) := goodIn_app (goodIn_of _ (by decide +kernel)) ggL_ask_X4_node
set_option maxRecDepth 20000 in
theorem ggL_ask_X4_path : GoodIn wsL_ask wsX4_path := goodIn_ca (goodIn_r _ [62, 13, 14, 8, 9, 10, 11, 6, 12, 63, 64, 65, 18, 66, 50, 22, 67, 68, 69, 70, 20, 218, 219, 220, 221, 222, 223, 224, 225, 226, 227, 228, 229, 230, 231, 232, 233, 234] (by decide +kernel) (by decide +kernel)) (goodIn_sub (fun _ h => List.mem_cons_of_mem _ (List.mem_append_left _ (List.mem_append_right _ h))) (by decide +kernel))
set_option maxRecDepth 20000 in
theorem gL_ask_X4_path : GoodIn wsL_ask (wsV RL 67 RX4 yX4_path wsX4_path) := goodIn_app (goodIn_of _ (by decide +kernel)) ggL_ask_X4_path
set_option maxRecDepth 20000 in
theorem ggL_ask_X4_tree : GoodIn wsL_ask wsX4_tree := goodIn_ca (goodIn_r _ [74, 36, 37, 38, 6, 39, 13, 14, 40, 41, 42, 43, 8, 44, 45, 9, 75, 76, 77, 18, 78, 20, 55, 56, 57, 58, 21, 79, 80, 81, 82, 83, 84, 85, 86, 87, 50, 88, 89, 90, 91, 92, 93, 94, 95, 96, 97, 98, 99, 51, 52, 53, 54, 100, 101, 102, 231, 232, 233, 234, 218, 219, 220, 221, 222, 223, 224, 225, 226, 227, 228, 229, 230, 235, 236, 237, 238, 239, 240, 241] (by decide +kernel) (by decide +kernel)) (goodIn_sub (fun _ h => List.mem_cons_of_mem _ (List.mem_append_left _ (List.mem_append_right _ h))) (by decide +kernel))
set_option maxRecDepth 20000 in
theorem gL_ask_X4_tree : GoodIn wsL_ask (wsV RL 70 RX4 yX4_tree wsX4_tree) := goodIn_app (goodIn_of _ (by decide +kernel)) ggL_ask_X4_tree
set_option maxRecDepth 20000 in
theorem ggL_ask_X4_rebuild : GoodIn wsL_ask wsX4_rebuild := goodIn_ca (goodIn_r _ [106, 8, 44, 107, 108, 109, 110, 37, 38, 6, 39, 13, 14, 111, 112, 113, 114, 115, 116, 117, 118, 119, 120, 121, 122, 123, 124, 125, 126, 127, 45, 9, 27, 28, 29, 30, 18, 31, 20, 22, 21, 128, 129, 130, 131, 75, 76, 77, 78, 55, 56, 57, 58, 218, 219, 220, 221, 222, 223, 224, 225, 226, 227, 228, 229, 230, 235, 236, 237, 238, 239, 240, 241, 231, 232, 233, 234] (by decide +kernel) (by decide +kernel)) (goodIn_sub (fun _ h => List.mem_cons_of_mem _ (List.mem_append_left _ (List.mem_append_right _ h))) (by decide +kernel))
set_option maxRecDepth 20000 in
theorem gL_ask_X4_rebuild : GoodIn wsL_ask (wsV RL 74 RX4 yX4_rebuild wsX4_rebuild) := goodIn_app (goodIn_of _ (by decide +kernel)) ggL_ask_X4_rebuild
set_option maxRecDepth 20000 in
theorem ggL_ask_X4_queued : GoodIn wsL_ask wsX4_queued := goodIn_ca (goodIn_r _ [135, 13, 14, 8, 44, 109, 136, 218, 219, 220, 221, 222, 223, 224, 225, 226, 227, 228, 229, 230, 235, 236, 237, 238, 239, 240, 241] (by decide +kernel) (by decide +kernel)) (goodIn_sub (fun _ h => List.mem_cons_of_mem _ (List.mem_append_left _ (List.mem_append_right _ h))) (by decide +kernel))
set_option maxRecDepth 20000 in
theorem gL_ask_X4_queued : GoodIn wsL_ask (wsV RL 77 RX4 yX4_queued wsX4_queued) := goodIn_app (goodIn_of _ (by decide +kernel)) ggL_ask_X4_queued
set_option maxRecDepth 20000 in
theorem ggL_ask_X4_count : GoodIn wsL_ask wsX4_count := goodIn_ca (goodIn_r _ [140, 8, 141, 142, 143, 144, 37, 38, 6, 39, 13, 14, 218, 219, 220, 221, 222, 223, 224, 225, 226, 227, 228, 229, 230, 242, 243] (by decide +kernel) (by decide +kernel)) (goodIn_sub (fun _ h => List.mem_cons_of_mem _ (List.mem_append_left _ (List.mem_append_right _ h))) (by decide +kernel))
set_option maxRecDepth 20000 in
theorem gL_ask_X4_count : GoodIn wsL_ask (wsV RL 80 RX4 yX4_count wsX4_count) := goodIn_app (goodIn_of _ (by decide +kernel)) ggL_ask_X4_count
set_option maxRecDepth 20000 in
theorem ggL_ask_X4_setting : GoodIn wsL_ask wsX4_setting := goodIn_ca (goodIn_r _ [148, 8, 149, 150, 151, 6, 152, 153, 154, 218, 219, 220, 221, 222, 223, 224, 225, 226, 227, 228, 229, 230] (by decide +kernel) (by decide +kernel)) (goodIn_sub (fun _ h => List.mem_cons_of_mem _ (List.mem_append_right _ h)) (by decide +kernel))
set_option maxRecDepth 20000 in
theorem gL_ask_X4_setting : GoodIn wsL_ask (wsV RL 83 RX4 yX4_setting wsX4_setting) := goodIn_app (goodIn_of _ (by decide +kernel)) ggL_ask_X4_setting
set_option maxRecDepth 20000 in
theorem ggL_ask_X4_untilExchange : GoodIn wsL_ask wsX4_untilExchange := goodIn_ca (goodIn_r _ [158, 8, 44, 110, 159, 160, 6, 161, 13, 14, 162, 163, 164, 114, 165, 166, 167, 168, 169, 118, 117, 170, 171, 89, 90, 91, 218, 219, 220, 221, 222, 223, 224, 225, 226, 227, 228, 229, 230, 235, 236, 237, 238, 239, 240, 241] (by decide +kernel) (by decide +kernel)) (goodIn_sub (fun _ h => List.mem_cons_of_mem _ (List.mem_append_left _ (List.mem_append_right _ h))) (by decide +kernel))
set_option maxRecDepth 20000 in
theorem gL_ask_X4_untilExchange : GoodIn wsL_ask (wsV RL 86 RX4 yX4_untilExchange wsX4_untilExchange) := goodIn_app (goodIn_of _ (by decide +kernel)) ggL_ask_X4_untilExchange
set_option maxRecDepth 20000 in
theorem ggL_ask_X4_longest : GoodIn wsL_ask wsX4_longest := goodIn_ca (goodIn_r _ [175, 8, 44, 110, 176, 177, 89, 90, 91, 159, 160, 6, 161, 13, 14, 178, 179, 180, 114, 181, 182, 118, 117, 170, 116, 123, 183, 184, 185, 186, 187, 188, 189, 190, 18, 191, 20, 22, 192, 50, 21, 193, 167, 168, 169, 171, 194, 195, 196, 197, 198, 199, 200, 201, 67, 68, 69, 70, 202, 203, 204, 205, 51, 52, 53, 54, 206, 207, 208, 209, 210, 211, 212, 213, 218, 219, 220, 221, 222, 223, 224, 225, 226, 227, 228, 229, 230, 235, 236, 237, 238, 239, 240, 241, 231, 232, 233, 234] (by decide +kernel) (by decide +kernel)) (goodIn_sub (fun _ h => List.mem_cons_of_mem _ (List.mem_append_left _ (List.mem_append_right _ h))) (by decide +kernel))
set_option maxRecDepth 20000 in
theorem gL_ask_X4_longest : GoodIn wsL_ask (wsV RL 89 RX4 yX4_longest wsX4_longest) := goodIn_app (goodIn_of _ (by decide +kernel)) ggL_ask_X4_longest
set_option maxRecDepth 20000 in
theorem ggL_ask_X4_leastSpeed : GoodIn wsL_ask wsX4_leastSpeed := goodIn_ca (goodIn_r _ [217, 13, 14, 8, 44, 110, 162, 163, 164, 114, 165, 166, 167, 168, 169, 118, 117, 170, 171, 89, 90, 91, 218, 219, 220, 221, 222, 223, 224, 225, 226, 227, 228, 229, 230, 235, 236, 237, 238, 239, 240, 241] (by decide +kernel) (by decide +kernel)) (goodIn_sub (fun _ h => List.mem_cons_of_mem _ (List.mem_append_left _ (List.mem_append_right _ h))) (by decide +kernel))
set_option maxRecDepth 20000 in
theorem gL_ask_X4_leastSpeed : GoodIn wsL_ask (wsV RL 92 RX4 yX4_leastSpeed wsX4_leastSpeed) := goodIn_app (goodIn_of _ (by decide +kernel)) ggL_ask_X4_leastSpeed
theorem dL_ask_0 : decode cL_ask 0 = .ok (.iload_n 1, 1) := by decide +kernel
theorem dL_ask_1 : decode cL_ask 1 = .ok (.ifCond .ne 11, 3) := by decide +kernel
theorem dL_ask_4 : decode cL_ask 4 = .ok (.aload_n 0, 1) := by decide +kernel
theorem dL_ask_5 : decode cL_ask 5 = .ok (.iload_n 2, 1) := by decide +kernel
theorem dL_ask_6 : decode cL_ask 6 = .ok (.invokevirtual 57, 3) := by decide +kernel
theorem dL_ask_9 : decode cL_ask 9 = .ok (.goto 169, 3) := by decide +kernel
theorem dL_ask_12 : decode cL_ask 12 = .ok (.iload_n 1, 1) := by decide +kernel
theorem dL_ask_13 : decode cL_ask 13 = .ok (.iconst 1, 1) := by decide +kernel
theorem dL_ask_14 : decode cL_ask 14 = .ok (.if_icmp .ne 11, 3) := by decide +kernel
theorem dL_ask_17 : decode cL_ask 17 = .ok (.aload_n 0, 1) := by decide +kernel
theorem dL_ask_18 : decode cL_ask 18 = .ok (.iload_n 2, 1) := by decide +kernel
theorem dL_ask_19 : decode cL_ask 19 = .ok (.invokevirtual 60, 3) := by decide +kernel
theorem dL_ask_22 : decode cL_ask 22 = .ok (.goto 156, 3) := by decide +kernel
theorem dL_ask_25 : decode cL_ask 25 = .ok (.iload_n 1, 1) := by decide +kernel
theorem dL_ask_26 : decode cL_ask 26 = .ok (.iconst 2, 1) := by decide +kernel
theorem dL_ask_27 : decode cL_ask 27 = .ok (.if_icmp .ne 26, 3) := by decide +kernel
theorem dL_ask_30 : decode cL_ask 30 = .ok (.aload_n 0, 1) := by decide +kernel
theorem dL_ask_31 : decode cL_ask 31 = .ok (.iload_n 3, 1) := by decide +kernel
theorem dL_ask_32 : decode cL_ask 32 = .ok (.bipush 99, 2) := by decide +kernel
theorem dL_ask_34 : decode cL_ask 34 = .ok (.if_icmp .le 7, 3) := by decide +kernel
theorem dL_ask_37 : decode cL_ask 37 = .ok (.iconst 1, 1) := by decide +kernel
theorem dL_ask_38 : decode cL_ask 38 = .ok (.goto 4, 3) := by decide +kernel
theorem dL_ask_41 : decode cL_ask 41 = .ok (.iconst 0, 1) := by decide +kernel
theorem dL_ask_42 : decode cL_ask 42 = .ok (.iload_n 2, 1) := by decide +kernel
theorem dL_ask_43 : decode cL_ask 43 = .ok (.iload_n 3, 1) := by decide +kernel
theorem dL_ask_44 : decode cL_ask 44 = .ok (.bipush 100, 2) := by decide +kernel
theorem dL_ask_46 : decode cL_ask 46 = .ok (.irem, 1) := by decide +kernel
theorem dL_ask_47 : decode cL_ask 47 = .ok (.invokevirtual 63, 3) := by decide +kernel
theorem dL_ask_50 : decode cL_ask 50 = .ok (.goto 128, 3) := by decide +kernel
theorem dL_ask_53 : decode cL_ask 53 = .ok (.iload_n 1, 1) := by decide +kernel
theorem dL_ask_54 : decode cL_ask 54 = .ok (.iconst 3, 1) := by decide +kernel
theorem dL_ask_55 : decode cL_ask 55 = .ok (.if_icmp .ne 12, 3) := by decide +kernel
theorem dL_ask_58 : decode cL_ask 58 = .ok (.aload_n 0, 1) := by decide +kernel
theorem dL_ask_59 : decode cL_ask 59 = .ok (.iload_n 2, 1) := by decide +kernel
theorem dL_ask_60 : decode cL_ask 60 = .ok (.iload_n 3, 1) := by decide +kernel
theorem dL_ask_61 : decode cL_ask 61 = .ok (.invokevirtual 67, 3) := by decide +kernel
theorem dL_ask_64 : decode cL_ask 64 = .ok (.goto 114, 3) := by decide +kernel
theorem dL_ask_67 : decode cL_ask 67 = .ok (.iload_n 1, 1) := by decide +kernel
theorem dL_ask_68 : decode cL_ask 68 = .ok (.iconst 4, 1) := by decide +kernel
theorem dL_ask_69 : decode cL_ask 69 = .ok (.if_icmp .ne 21, 3) := by decide +kernel
theorem dL_ask_72 : decode cL_ask 72 = .ok (.aload_n 0, 1) := by decide +kernel
theorem dL_ask_73 : decode cL_ask 73 = .ok (.iload_n 3, 1) := by decide +kernel
theorem dL_ask_74 : decode cL_ask 74 = .ok (.iconst 1, 1) := by decide +kernel
theorem dL_ask_75 : decode cL_ask 75 = .ok (.if_icmp .ne 7, 3) := by decide +kernel
theorem dL_ask_78 : decode cL_ask 78 = .ok (.iconst 1, 1) := by decide +kernel
theorem dL_ask_79 : decode cL_ask 79 = .ok (.goto 4, 3) := by decide +kernel
theorem dL_ask_82 : decode cL_ask 82 = .ok (.iconst 0, 1) := by decide +kernel
theorem dL_ask_83 : decode cL_ask 83 = .ok (.iload_n 2, 1) := by decide +kernel
theorem dL_ask_84 : decode cL_ask 84 = .ok (.invokevirtual 70, 3) := by decide +kernel
theorem dL_ask_87 : decode cL_ask 87 = .ok (.goto 91, 3) := by decide +kernel
theorem dL_ask_90 : decode cL_ask 90 = .ok (.iload_n 1, 1) := by decide +kernel
theorem dL_ask_91 : decode cL_ask 91 = .ok (.iconst 5, 1) := by decide +kernel
theorem dL_ask_92 : decode cL_ask 92 = .ok (.if_icmp .ne 11, 3) := by decide +kernel
theorem dL_ask_95 : decode cL_ask 95 = .ok (.aload_n 0, 1) := by decide +kernel
theorem dL_ask_96 : decode cL_ask 96 = .ok (.iload_n 2, 1) := by decide +kernel
theorem dL_ask_97 : decode cL_ask 97 = .ok (.invokevirtual 74, 3) := by decide +kernel
theorem dL_ask_100 : decode cL_ask 100 = .ok (.goto 78, 3) := by decide +kernel
theorem dL_ask_103 : decode cL_ask 103 = .ok (.iload_n 1, 1) := by decide +kernel
theorem dL_ask_104 : decode cL_ask 104 = .ok (.bipush 6, 2) := by decide +kernel
theorem dL_ask_106 : decode cL_ask 106 = .ok (.if_icmp .ne 11, 3) := by decide +kernel
theorem dL_ask_109 : decode cL_ask 109 = .ok (.aload_n 0, 1) := by decide +kernel
theorem dL_ask_110 : decode cL_ask 110 = .ok (.iload_n 2, 1) := by decide +kernel
theorem dL_ask_111 : decode cL_ask 111 = .ok (.invokevirtual 77, 3) := by decide +kernel
theorem dL_ask_114 : decode cL_ask 114 = .ok (.goto 64, 3) := by decide +kernel
theorem dL_ask_117 : decode cL_ask 117 = .ok (.iload_n 1, 1) := by decide +kernel
theorem dL_ask_118 : decode cL_ask 118 = .ok (.bipush 7, 2) := by decide +kernel
theorem dL_ask_120 : decode cL_ask 120 = .ok (.if_icmp .ne 11, 3) := by decide +kernel
theorem dL_ask_123 : decode cL_ask 123 = .ok (.aload_n 0, 1) := by decide +kernel
theorem dL_ask_124 : decode cL_ask 124 = .ok (.iload_n 2, 1) := by decide +kernel
theorem dL_ask_125 : decode cL_ask 125 = .ok (.invokevirtual 80, 3) := by decide +kernel
theorem dL_ask_128 : decode cL_ask 128 = .ok (.goto 50, 3) := by decide +kernel
theorem dL_ask_131 : decode cL_ask 131 = .ok (.iload_n 1, 1) := by decide +kernel
theorem dL_ask_132 : decode cL_ask 132 = .ok (.bipush 8, 2) := by decide +kernel
theorem dL_ask_134 : decode cL_ask 134 = .ok (.if_icmp .ne 11, 3) := by decide +kernel
theorem dL_ask_137 : decode cL_ask 137 = .ok (.aload_n 0, 1) := by decide +kernel
theorem dL_ask_138 : decode cL_ask 138 = .ok (.iload_n 2, 1) := by decide +kernel
theorem dL_ask_139 : decode cL_ask 139 = .ok (.invokevirtual 83, 3) := by decide +kernel
theorem dL_ask_142 : decode cL_ask 142 = .ok (.goto 36, 3) := by decide +kernel
theorem dL_ask_145 : decode cL_ask 145 = .ok (.iload_n 1, 1) := by decide +kernel
theorem dL_ask_146 : decode cL_ask 146 = .ok (.bipush 9, 2) := by decide +kernel
theorem dL_ask_148 : decode cL_ask 148 = .ok (.if_icmp .ne 11, 3) := by decide +kernel
theorem dL_ask_151 : decode cL_ask 151 = .ok (.aload_n 0, 1) := by decide +kernel
theorem dL_ask_152 : decode cL_ask 152 = .ok (.iload_n 2, 1) := by decide +kernel
theorem dL_ask_153 : decode cL_ask 153 = .ok (.invokevirtual 86, 3) := by decide +kernel
theorem dL_ask_156 : decode cL_ask 156 = .ok (.goto 22, 3) := by decide +kernel
theorem dL_ask_159 : decode cL_ask 159 = .ok (.iload_n 1, 1) := by decide +kernel
theorem dL_ask_160 : decode cL_ask 160 = .ok (.bipush 10, 2) := by decide +kernel
theorem dL_ask_162 : decode cL_ask 162 = .ok (.if_icmp .ne 11, 3) := by decide +kernel
theorem dL_ask_165 : decode cL_ask 165 = .ok (.aload_n 0, 1) := by decide +kernel
theorem dL_ask_166 : decode cL_ask 166 = .ok (.iload_n 2, 1) := by decide +kernel
theorem dL_ask_167 : decode cL_ask 167 = .ok (.invokevirtual 89, 3) := by decide +kernel
theorem dL_ask_170 : decode cL_ask 170 = .ok (.goto 8, 3) := by decide +kernel
theorem dL_ask_173 : decode cL_ask 173 = .ok (.aload_n 0, 1) := by decide +kernel
theorem dL_ask_174 : decode cL_ask 174 = .ok (.iload_n 2, 1) := by decide +kernel
theorem dL_ask_175 : decode cL_ask 175 = .ok (.invokevirtual 92, 3) := by decide +kernel
theorem dL_ask_178 : decode cL_ask 178 = .ok (.ireturn, 1) := by decide +kernel
theorem dL_ask_179 : decode cL_ask 179 = .ok (.astore 4, 2) := by decide +kernel
theorem dL_ask_181 : decode cL_ask 181 = .ok (.bipush (-10), 2) := by decide +kernel
theorem dL_ask_183 : decode cL_ask 183 = .ok (.ireturn, 1) := by decide +kernel
theorem dL_ask_184 : decode cL_ask 184 = .ok (.astore 4, 2) := by decide +kernel
theorem dL_ask_186 : decode cL_ask 186 = .ok (.bipush (-11), 2) := by decide +kernel
theorem dL_ask_188 : decode cL_ask 188 = .ok (.ireturn, 1) := by decide +kernel
set_option maxRecDepth 20000 in
theorem ggL_seen_X4_count : GoodIn wsL_seen wsX4_count := goodIn_ca (goodIn_r _ [7, 8, 9, 10, 11, 12, 13, 14, 6, 15, 16, 17, 128, 129, 130, 131, 132, 133, 134, 135, 136, 137, 138, 139, 140, 141, 142] (by decide +kernel) (by decide +kernel)) (goodIn_sub (fun _ h => List.mem_cons_of_mem _ (List.mem_append_left _ (List.mem_append_right _ h))) (by decide +kernel))
set_option maxRecDepth 20000 in
theorem gL_seen_X4_count : GoodIn wsL_seen (wsV RL 80 RX4 yX4_count wsX4_count) := goodIn_app (goodIn_of _ (by decide +kernel)) ggL_seen_X4_count
set_option maxRecDepth 20000 in
theorem ggL_seen_X4_tree : GoodIn wsL_seen wsX4_tree := goodIn_ca (goodIn_r _ [21, 22, 13, 14, 6, 15, 16, 17, 23, 24, 25, 26, 8, 27, 28, 29, 30, 31, 32, 33, 34, 35, 36, 37, 38, 39, 40, 41, 42, 43, 44, 45, 46, 47, 48, 49, 50, 51, 52, 53, 54, 55, 56, 57, 58, 59, 60, 61, 62, 63, 64, 65, 66, 67, 68, 69, 143, 144, 145, 146, 128, 129, 130, 131, 132, 133, 134, 135, 136, 137, 138, 139, 140, 147, 148, 149, 150, 151, 152, 153] (by decide +kernel) (by decide +kernel)) (goodIn_sub (fun _ h => List.mem_cons_of_mem _ (List.mem_append_left _ (List.mem_append_right _ h))) (by decide +kernel))
set_option maxRecDepth 20000 in
theorem gL_seen_X4_tree : GoodIn wsL_seen (wsV RL 70 RX4 yX4_tree wsX4_tree) := goodIn_app (goodIn_of _ (by decide +kernel)) ggL_seen_X4_tree
set_option maxRecDepth 20000 in
theorem ggL_seen_X4_rebuild : GoodIn wsL_seen wsX4_rebuild := goodIn_ca (goodIn_r _ [73, 8, 27, 74, 75, 76, 77, 13, 14, 6, 15, 16, 17, 78, 79, 80, 81, 82, 83, 84, 85, 86, 87, 88, 89, 90, 91, 92, 93, 94, 28, 29, 95, 96, 97, 98, 33, 99, 35, 100, 40, 101, 102, 103, 104, 30, 31, 32, 34, 36, 37, 38, 39, 128, 129, 130, 131, 132, 133, 134, 135, 136, 137, 138, 139, 140, 147, 148, 149, 150, 151, 152, 153, 143, 144, 145, 146] (by decide +kernel) (by decide +kernel)) (goodIn_sub (fun _ h => List.mem_cons_of_mem _ (List.mem_append_left _ (List.mem_append_right _ h))) (by decide +kernel))
set_option maxRecDepth 20000 in
theorem gL_seen_X4_rebuild : GoodIn wsL_seen (wsV RL 74 RX4 yX4_rebuild wsX4_rebuild) := goodIn_app (goodIn_of _ (by decide +kernel)) ggL_seen_X4_rebuild
set_option maxRecDepth 20000 in
theorem ggL_seen_X4_node : GoodIn wsL_seen wsX4_node := goodIn_ca (goodIn_r _ [108, 16, 17, 22, 13, 14, 6, 15, 23, 24, 25, 26, 8, 27, 28, 29, 109, 110, 111, 33, 112, 100, 40, 50, 63, 64, 65, 66, 35, 36, 37, 38, 39, 143, 144, 145, 146, 128, 129, 130, 131, 132, 133, 134, 135, 136, 137, 138, 139, 140, 147, 148, 149, 150, 151, 152, 153] (by decide +kernel) (by decide +kernel)) (goodIn_sub (fun _ h => List.mem_cons_of_mem _ (List.mem_append_left _ (List.mem_append_right _ h))) (by decide +kernel))
set_option maxRecDepth 20000 in
theorem gL_seen_X4_node : GoodIn wsL_seen (wsV RL 63 RX4 yX4_node wsX4_node) := goodIn_app (goodIn_of _ (by decide +kernel)) ggL_seen_X4_node
set_option maxRecDepth 20000 in
theorem ggL_seen_X4_queued : GoodIn wsL_seen wsX4_queued := goodIn_ca (goodIn_r _ [116, 16, 17, 8, 27, 76, 117, 128, 129, 130, 131, 132, 133, 134, 135, 136, 137, 138, 139, 140, 147, 148, 149, 150, 151, 152, 153] (by decide +kernel) (by decide +kernel)) (goodIn_sub (fun _ h => List.mem_cons_of_mem _ (List.mem_append_left _ (List.mem_append_right _ h))) (by decide +kernel))
set_option maxRecDepth 20000 in
theorem gL_seen_X4_queued : GoodIn wsL_seen (wsV RL 77 RX4 yX4_queued wsX4_queued) := goodIn_app (goodIn_of _ (by decide +kernel)) ggL_seen_X4_queued
set_option maxRecDepth 20000 in
theorem ggL_seen_X4_setting : GoodIn wsL_seen wsX4_setting := goodIn_ca (goodIn_r _ [121, 8, 122, 123, 124, 6, 125, 126, 127, 128, 129, 130, 131, 132, 133, 134, 135, 136, 137, 138, 139, 140] (by decide +kernel) (by decide +kernel)) (goodIn_sub (fun _ h => List.mem_cons_of_mem _ (List.mem_append_right _ h)) (by decide +kernel))
set_option maxRecDepth 20000 in
theorem gL_seen_X4_setting : GoodIn wsL_seen (wsV RL 83 RX4 yX4_setting wsX4_setting) := goodIn_app (goodIn_of _ (by decide +kernel)) ggL_seen_X4_setting
theorem dL_seen_0 : decode cL_seen 0 = .ok (.ldc2_w 95, 3) := by decide +kernel
theorem dL_seen_3 : decode cL_seen 3 = .ok (.lstore_n 1, 1) := by decide +kernel
theorem dL_seen_4 : decode cL_seen 4 = .ok (.iconst 0, 1) := by decide +kernel
theorem dL_seen_5 : decode cL_seen 5 = .ok (.istore_n 3, 1) := by decide +kernel
theorem dL_seen_6 : decode cL_seen 6 = .ok (.iload_n 3, 1) := by decide +kernel
theorem dL_seen_7 : decode cL_seen 7 = .ok (.bipush 7, 2) := by decide +kernel
theorem dL_seen_9 : decode cL_seen 9 = .ok (.if_icmp .ge 46, 3) := by decide +kernel
theorem dL_seen_12 : decode cL_seen 12 = .ok (.ldc2_w 97, 3) := by decide +kernel
theorem dL_seen_15 : decode cL_seen 15 = .ok (.ldc2_w 97, 3) := by decide +kernel
theorem dL_seen_18 : decode cL_seen 18 = .ok (.ldc2_w 97, 3) := by decide +kernel
theorem dL_seen_21 : decode cL_seen 21 = .ok (.lload_n 1, 1) := by decide +kernel
theorem dL_seen_22 : decode cL_seen 22 = .ok (.lmul, 1) := by decide +kernel
theorem dL_seen_23 : decode cL_seen 23 = .ok (.aload_n 0, 1) := by decide +kernel
theorem dL_seen_24 : decode cL_seen 24 = .ok (.iload_n 3, 1) := by decide +kernel
theorem dL_seen_25 : decode cL_seen 25 = .ok (.invokevirtual 80, 3) := by decide +kernel
theorem dL_seen_28 : decode cL_seen 28 = .ok (.i2l, 1) := by decide +kernel
theorem dL_seen_29 : decode cL_seen 29 = .ok (.ladd, 1) := by decide +kernel
theorem dL_seen_30 : decode cL_seen 30 = .ok (.lmul, 1) := by decide +kernel
theorem dL_seen_31 : decode cL_seen 31 = .ok (.aload_n 0, 1) := by decide +kernel
theorem dL_seen_32 : decode cL_seen 32 = .ok (.iconst 0, 1) := by decide +kernel
theorem dL_seen_33 : decode cL_seen 33 = .ok (.iload_n 3, 1) := by decide +kernel
theorem dL_seen_34 : decode cL_seen 34 = .ok (.invokevirtual 70, 3) := by decide +kernel
theorem dL_seen_37 : decode cL_seen 37 = .ok (.i2l, 1) := by decide +kernel
theorem dL_seen_38 : decode cL_seen 38 = .ok (.ladd, 1) := by decide +kernel
theorem dL_seen_39 : decode cL_seen 39 = .ok (.lmul, 1) := by decide +kernel
theorem dL_seen_40 : decode cL_seen 40 = .ok (.aload_n 0, 1) := by decide +kernel
theorem dL_seen_41 : decode cL_seen 41 = .ok (.iconst 1, 1) := by decide +kernel
theorem dL_seen_42 : decode cL_seen 42 = .ok (.iload_n 3, 1) := by decide +kernel
theorem dL_seen_43 : decode cL_seen 43 = .ok (.invokevirtual 70, 3) := by decide +kernel
theorem dL_seen_46 : decode cL_seen 46 = .ok (.i2l, 1) := by decide +kernel
theorem dL_seen_47 : decode cL_seen 47 = .ok (.ladd, 1) := by decide +kernel
theorem dL_seen_48 : decode cL_seen 48 = .ok (.lstore_n 1, 1) := by decide +kernel
theorem dL_seen_49 : decode cL_seen 49 = .ok (.iinc 3 1, 3) := by decide +kernel
theorem dL_seen_52 : decode cL_seen 52 = .ok (.goto (-46), 3) := by decide +kernel
theorem dL_seen_55 : decode cL_seen 55 = .ok (.iconst 0, 1) := by decide +kernel
theorem dL_seen_56 : decode cL_seen 56 = .ok (.istore_n 3, 1) := by decide +kernel
theorem dL_seen_57 : decode cL_seen 57 = .ok (.iload_n 3, 1) := by decide +kernel
theorem dL_seen_58 : decode cL_seen 58 = .ok (.bipush 6, 2) := by decide +kernel
theorem dL_seen_60 : decode cL_seen 60 = .ok (.if_icmp .ge 22, 3) := by decide +kernel
theorem dL_seen_63 : decode cL_seen 63 = .ok (.ldc2_w 97, 3) := by decide +kernel
theorem dL_seen_66 : decode cL_seen 66 = .ok (.lload_n 1, 1) := by decide +kernel
theorem dL_seen_67 : decode cL_seen 67 = .ok (.lmul, 1) := by decide +kernel
theorem dL_seen_68 : decode cL_seen 68 = .ok (.aload_n 0, 1) := by decide +kernel
theorem dL_seen_69 : decode cL_seen 69 = .ok (.iload_n 3, 1) := by decide +kernel
theorem dL_seen_70 : decode cL_seen 70 = .ok (.invokevirtual 74, 3) := by decide +kernel
theorem dL_seen_73 : decode cL_seen 73 = .ok (.i2l, 1) := by decide +kernel
theorem dL_seen_74 : decode cL_seen 74 = .ok (.ladd, 1) := by decide +kernel
theorem dL_seen_75 : decode cL_seen 75 = .ok (.lstore_n 1, 1) := by decide +kernel
theorem dL_seen_76 : decode cL_seen 76 = .ok (.iinc 3 1, 3) := by decide +kernel
theorem dL_seen_79 : decode cL_seen 79 = .ok (.goto (-22), 3) := by decide +kernel
theorem dL_seen_82 : decode cL_seen 82 = .ok (.iconst 0, 1) := by decide +kernel
theorem dL_seen_83 : decode cL_seen 83 = .ok (.istore_n 3, 1) := by decide +kernel
theorem dL_seen_84 : decode cL_seen 84 = .ok (.iload_n 3, 1) := by decide +kernel
theorem dL_seen_85 : decode cL_seen 85 = .ok (.bipush 12, 2) := by decide +kernel
theorem dL_seen_87 : decode cL_seen 87 = .ok (.if_icmp .ge 50, 3) := by decide +kernel
theorem dL_seen_90 : decode cL_seen 90 = .ok (.ldc2_w 97, 3) := by decide +kernel
theorem dL_seen_93 : decode cL_seen 93 = .ok (.ldc2_w 97, 3) := by decide +kernel
theorem dL_seen_96 : decode cL_seen 96 = .ok (.ldc2_w 97, 3) := by decide +kernel
theorem dL_seen_99 : decode cL_seen 99 = .ok (.lload_n 1, 1) := by decide +kernel
theorem dL_seen_100 : decode cL_seen 100 = .ok (.lmul, 1) := by decide +kernel
theorem dL_seen_101 : decode cL_seen 101 = .ok (.aload_n 0, 1) := by decide +kernel
theorem dL_seen_102 : decode cL_seen 102 = .ok (.iconst 0, 1) := by decide +kernel
theorem dL_seen_103 : decode cL_seen 103 = .ok (.iload_n 3, 1) := by decide +kernel
theorem dL_seen_104 : decode cL_seen 104 = .ok (.iconst 0, 1) := by decide +kernel
theorem dL_seen_105 : decode cL_seen 105 = .ok (.invokevirtual 63, 3) := by decide +kernel
theorem dL_seen_108 : decode cL_seen 108 = .ok (.i2l, 1) := by decide +kernel
theorem dL_seen_109 : decode cL_seen 109 = .ok (.ladd, 1) := by decide +kernel
theorem dL_seen_110 : decode cL_seen 110 = .ok (.lmul, 1) := by decide +kernel
theorem dL_seen_111 : decode cL_seen 111 = .ok (.aload_n 0, 1) := by decide +kernel
theorem dL_seen_112 : decode cL_seen 112 = .ok (.iconst 0, 1) := by decide +kernel
theorem dL_seen_113 : decode cL_seen 113 = .ok (.iload_n 3, 1) := by decide +kernel
theorem dL_seen_114 : decode cL_seen 114 = .ok (.iconst 1, 1) := by decide +kernel
theorem dL_seen_115 : decode cL_seen 115 = .ok (.invokevirtual 63, 3) := by decide +kernel
theorem dL_seen_118 : decode cL_seen 118 = .ok (.i2l, 1) := by decide +kernel
theorem dL_seen_119 : decode cL_seen 119 = .ok (.ladd, 1) := by decide +kernel
theorem dL_seen_120 : decode cL_seen 120 = .ok (.lmul, 1) := by decide +kernel
theorem dL_seen_121 : decode cL_seen 121 = .ok (.aload_n 0, 1) := by decide +kernel
theorem dL_seen_122 : decode cL_seen 122 = .ok (.iconst 1, 1) := by decide +kernel
theorem dL_seen_123 : decode cL_seen 123 = .ok (.iload_n 3, 1) := by decide +kernel
theorem dL_seen_124 : decode cL_seen 124 = .ok (.iconst 0, 1) := by decide +kernel
theorem dL_seen_125 : decode cL_seen 125 = .ok (.invokevirtual 63, 3) := by decide +kernel
theorem dL_seen_128 : decode cL_seen 128 = .ok (.i2l, 1) := by decide +kernel
theorem dL_seen_129 : decode cL_seen 129 = .ok (.ladd, 1) := by decide +kernel
theorem dL_seen_130 : decode cL_seen 130 = .ok (.lstore_n 1, 1) := by decide +kernel
theorem dL_seen_131 : decode cL_seen 131 = .ok (.iinc 3 1, 3) := by decide +kernel
theorem dL_seen_134 : decode cL_seen 134 = .ok (.goto (-50), 3) := by decide +kernel
theorem dL_seen_137 : decode cL_seen 137 = .ok (.iconst 0, 1) := by decide +kernel
theorem dL_seen_138 : decode cL_seen 138 = .ok (.istore_n 3, 1) := by decide +kernel
theorem dL_seen_139 : decode cL_seen 139 = .ok (.iload_n 3, 1) := by decide +kernel
theorem dL_seen_140 : decode cL_seen 140 = .ok (.bipush 31, 2) := by decide +kernel
theorem dL_seen_142 : decode cL_seen 142 = .ok (.if_icmp .ge 22, 3) := by decide +kernel
theorem dL_seen_145 : decode cL_seen 145 = .ok (.ldc2_w 97, 3) := by decide +kernel
theorem dL_seen_148 : decode cL_seen 148 = .ok (.lload_n 1, 1) := by decide +kernel
theorem dL_seen_149 : decode cL_seen 149 = .ok (.lmul, 1) := by decide +kernel
theorem dL_seen_150 : decode cL_seen 150 = .ok (.aload_n 0, 1) := by decide +kernel
theorem dL_seen_151 : decode cL_seen 151 = .ok (.iload_n 3, 1) := by decide +kernel
theorem dL_seen_152 : decode cL_seen 152 = .ok (.invokevirtual 77, 3) := by decide +kernel
theorem dL_seen_155 : decode cL_seen 155 = .ok (.i2l, 1) := by decide +kernel
theorem dL_seen_156 : decode cL_seen 156 = .ok (.ladd, 1) := by decide +kernel
theorem dL_seen_157 : decode cL_seen 157 = .ok (.lstore_n 1, 1) := by decide +kernel
theorem dL_seen_158 : decode cL_seen 158 = .ok (.iinc 3 1, 3) := by decide +kernel
theorem dL_seen_161 : decode cL_seen 161 = .ok (.goto (-22), 3) := by decide +kernel
theorem dL_seen_164 : decode cL_seen 164 = .ok (.ldc2_w 97, 3) := by decide +kernel
theorem dL_seen_167 : decode cL_seen 167 = .ok (.ldc2_w 97, 3) := by decide +kernel
theorem dL_seen_170 : decode cL_seen 170 = .ok (.ldc2_w 97, 3) := by decide +kernel
theorem dL_seen_173 : decode cL_seen 173 = .ok (.lload_n 1, 1) := by decide +kernel
theorem dL_seen_174 : decode cL_seen 174 = .ok (.lmul, 1) := by decide +kernel
theorem dL_seen_175 : decode cL_seen 175 = .ok (.aload_n 0, 1) := by decide +kernel
theorem dL_seen_176 : decode cL_seen 176 = .ok (.iconst 0, 1) := by decide +kernel
theorem dL_seen_177 : decode cL_seen 177 = .ok (.invokevirtual 83, 3) := by decide +kernel
theorem dL_seen_180 : decode cL_seen 180 = .ok (.i2l, 1) := by decide +kernel
theorem dL_seen_181 : decode cL_seen 181 = .ok (.ladd, 1) := by decide +kernel
theorem dL_seen_182 : decode cL_seen 182 = .ok (.lmul, 1) := by decide +kernel
theorem dL_seen_183 : decode cL_seen 183 = .ok (.aload_n 0, 1) := by decide +kernel
theorem dL_seen_184 : decode cL_seen 184 = .ok (.iconst 1, 1) := by decide +kernel
theorem dL_seen_185 : decode cL_seen 185 = .ok (.invokevirtual 83, 3) := by decide +kernel
theorem dL_seen_188 : decode cL_seen 188 = .ok (.i2l, 1) := by decide +kernel
theorem dL_seen_189 : decode cL_seen 189 = .ok (.ladd, 1) := by decide +kernel
theorem dL_seen_190 : decode cL_seen 190 = .ok (.lmul, 1) := by decide +kernel
theorem dL_seen_191 : decode cL_seen 191 = .ok (.aload_n 0, 1) := by decide +kernel
theorem dL_seen_192 : decode cL_seen 192 = .ok (.iconst 2, 1) := by decide +kernel
theorem dL_seen_193 : decode cL_seen 193 = .ok (.invokevirtual 83, 3) := by decide +kernel
theorem dL_seen_196 : decode cL_seen 196 = .ok (.i2l, 1) := by decide +kernel
theorem dL_seen_197 : decode cL_seen 197 = .ok (.ladd, 1) := by decide +kernel
theorem dL_seen_198 : decode cL_seen 198 = .ok (.lreturn, 1) := by decide +kernel
set_option maxRecDepth 20000 in
theorem ggL_refusesAny_L_call : GoodIn wsL_refusesAny wsL_call := goodIn_ca (goodIn_ca (goodIn_ca (goodIn_r _ [4, 5, 6, 7, 8, 9, 10, 11, 12, 13, 14, 15, 16, 17, 18, 19, 20, 21, 22, 23, 24, 25, 26, 27, 28, 29, 30, 31, 32, 33, 34, 35, 36, 37, 38, 39, 40, 41, 42, 43, 44, 45, 46, 47, 48, 49, 50, 51, 52, 53, 54, 55, 56, 57, 58, 59, 60, 61, 62, 63, 64, 65, 66, 67, 68, 69, 70, 71, 72, 73, 74, 75, 76, 77, 78, 79, 80, 81, 82, 83, 84, 85, 86, 87, 88, 89, 90, 91, 92, 93, 94, 95, 96, 97, 98, 99, 100, 101, 102, 103, 104, 105, 106, 107, 108, 109, 110, 111, 112, 113, 114, 115, 116, 117, 118, 119, 120, 121, 122, 123, 124, 125, 126, 127, 128, 129, 130, 131, 132, 133, 134, 135, 136, 137, 138, 139, 140, 141, 142, 143, 144, 145, 146, 147, 148, 149, 150, 151, 152, 153, 154, 155, 156, 157, 158, 159, 160, 161, 162, 163, 164, 165, 166, 167, 168, 169, 170, 171, 172, 173, 174, 175, 176, 177, 178, 179, 180, 181, 182, 183, 184, 185, 186, 187, 188, 189, 190, 191, 192, 193, 194, 195, 196, 197, 198, 199, 200, 201, 202, 203, 204, 205, 206, 207, 208, 209, 210, 211, 212, 213, 214, 215, 216, 217, 218, 219, 220, 221, 222, 223, 224, 225, 226, 227, 228, 229, 230, 231, 232, 233, 234, 235, 236, 237, 238, 239, 240, 241, 242, 243, 244, 245, 246, 247, 248, 249, 250, 251, 252, 253, 254, 255, 256, 257, 258, 259, 260, 261, 262, 263, 264, 265, 266, 267, 268, 269, 270, 271, 272, 273, 274, 275, 276, 277, 278, 279, 280, 281, 282, 283, 284, 285, 286, 287, 288, 289, 290, 291, 292, 293, 294, 295, 296, 297, 298, 409, 410, 411, 412, 413, 414, 415, 416, 417, 418, 419, 420, 421, 422, 423, 424, 425, 426, 427, 428, 429, 430, 431, 432, 433, 434] (by decide +kernel) (by decide +kernel)) (goodIn_sub (fun _ h => List.mem_cons_of_mem _ (List.mem_append_left _ (List.mem_append_left _ (List.mem_append_right _ h)))) (by decide +kernel))) (goodIn_sub (fun _ h => List.mem_cons_of_mem _ (List.mem_append_left _ (List.mem_append_right _ h))) (by decide +kernel))) (goodIn_sub (fun _ h => List.mem_cons_of_mem _ (List.mem_append_right _ h)) (by decide +kernel))
set_option maxRecDepth 20000 in
theorem gL_refusesAny_L_call : GoodIn wsL_refusesAny (va_wsS RL 99 yL_call wsL_call) := goodIn_app (goodIn_of _ (by decide +kernel)) ggL_refusesAny_L_call
set_option maxRecDepth 20000 in
theorem ggL_refusesAny_L_ask : GoodIn wsL_refusesAny wsL_ask := goodIn_ca (goodIn_ca (goodIn_r _ [301, 5, 6, 302, 303, 304, 11, 305, 24, 25, 15, 16, 17, 18, 19, 306, 307, 308, 30, 309, 41, 71, 36, 310, 311, 312, 313, 180, 181, 182, 183, 184, 314, 315, 316, 317, 26, 288, 289, 290, 318, 319, 320, 321, 90, 150, 322, 323, 324, 325, 70, 104, 105, 106, 107, 164, 165, 166, 167, 326, 327, 328, 329, 330, 331, 332, 333, 37, 38, 39, 40, 334, 335, 336, 337, 185, 161, 162, 163, 156, 157, 158, 159, 160, 168, 169, 170, 171, 172, 173, 174, 175, 338, 339, 340, 341, 342, 343, 344, 345, 346, 347, 348, 349, 350, 351, 352, 207, 212, 112, 91, 353, 354, 355, 75, 356, 81, 79, 78, 357, 358, 359, 360, 82, 361, 362, 363, 364, 365, 366, 367, 368, 369, 370, 371, 372, 373, 374, 375, 376, 377, 117, 46, 228, 229, 378, 379, 380, 381, 131, 219, 220, 221, 222, 223, 382, 383, 384, 385, 386, 387, 388, 389, 390, 391, 392, 393, 394, 395, 396, 80, 397, 398, 399, 400, 401, 402, 198, 403, 73, 74, 76, 77, 83, 61, 62, 63, 84, 85, 66, 67, 68, 69, 404, 132, 133, 134, 135, 136, 97, 98, 99, 100, 101, 102, 103, 137, 138, 139, 140, 141, 93, 94, 95, 405, 406, 407, 408, 409, 410, 411, 412, 413, 414, 415, 416, 417, 418, 419, 420, 421, 422, 423, 424, 425, 426, 427, 428, 429, 430, 431, 432, 433, 434] (by decide +kernel) (by decide +kernel)) (goodIn_sub (fun _ h => List.mem_cons_of_mem _ (List.mem_append_left _ (List.mem_append_right _ h))) (by decide +kernel))) (goodIn_sub (fun _ h => List.mem_cons_of_mem _ (List.mem_append_right _ h)) (by decide +kernel))
set_option maxRecDepth 20000 in
theorem gL_refusesAny_L_ask : GoodIn wsL_refusesAny (va_wsS RL 105 yL_ask wsL_ask) := goodIn_app (goodIn_of _ (by decide +kernel)) ggL_refusesAny_L_ask
set_option maxRecDepth 20000 in
theorem ggL_refusesAny_X4_rebuild : GoodIn wsL_refusesAny wsX4_rebuild := goodIn_ca (goodIn_r _ [352, 24, 90, 207, 212, 112, 91, 288, 289, 11, 290, 18, 19, 353, 354, 355, 75, 356, 81, 79, 78, 357, 358, 359, 360, 82, 361, 362, 363, 364, 150, 25, 180, 181, 182, 183, 30, 184, 41, 36, 71, 365, 366, 367, 368, 185, 161, 162, 163, 164, 165, 166, 167, 409, 410, 411, 412, 413, 414, 415, 416, 417, 418, 419, 420, 421, 426, 427, 428, 429, 430, 431, 432, 422, 423, 424, 425] (by decide +kernel) (by decide +kernel)) (goodIn_sub (fun _ h => List.mem_cons_of_mem _ (List.mem_append_left _ (List.mem_append_right _ h))) (by decide +kernel))
set_option maxRecDepth 20000 in
theorem gL_refusesAny_X4_rebuild : GoodIn wsL_refusesAny (wsV RL 74 RX4 yX4_rebuild wsX4_rebuild) := goodIn_app (goodIn_of _ (by decide +kernel)) ggL_refusesAny_X4_rebuild
set_option maxRecDepth 20000 in
theorem ggL_refuses_L_seen : GoodIn wsL_refuses wsL_seen := goodIn_ca (goodIn_ca (goodIn_r _ [4, 5, 6, 7, 8, 9, 10, 11, 12, 13, 14, 15, 16, 17, 18, 19, 20, 21, 22, 23, 24, 25, 26, 27, 28, 29, 30, 31, 32, 33, 34, 35, 36, 37, 38, 39, 40, 41, 42, 43, 44, 45, 46, 47, 48, 49, 50, 51, 52, 53, 54, 55, 56, 57, 58, 59, 60, 61, 62, 63, 64, 65, 66, 67, 68, 69, 70, 71, 72, 73, 74, 75, 76, 77, 78, 79, 80, 81, 82, 83, 84, 85, 86, 87, 88, 89, 90, 91, 92, 93, 94, 95, 96, 97, 98, 99, 100, 101, 102, 103, 104, 105, 106, 107, 108, 109, 110, 111, 112, 113, 114, 115, 116, 117, 118, 119, 120, 121, 122, 123, 124, 125, 126, 127, 128, 129, 130, 131, 417, 418, 419, 420, 421, 422, 423, 424, 425, 426, 427, 428, 429, 430, 431, 432, 433, 434, 435, 436, 437, 438, 439, 440, 441, 442] (by decide +kernel) (by decide +kernel)) (goodIn_sub (fun _ h => List.mem_cons_of_mem _ (List.mem_append_left _ (List.mem_append_left _ (List.mem_append_right _ h)))) (by decide +kernel))) (goodIn_sub (fun _ h => List.mem_cons_of_mem _ (List.mem_append_left _ (List.mem_append_right _ h))) (by decide +kernel))
set_option maxRecDepth 20000 in
theorem gL_refuses_L_seen : GoodIn wsL_refuses (va_wsS RL 108 yL_seen wsL_seen) := goodIn_app (goodIn_of _ (by decide +kernel)) ggL_refuses_L_seen
set_option maxRecDepth 20000 in
theorem ggL_refuses_X4_count : GoodIn wsL_refuses wsX4_count := goodIn_ca (goodIn_r _ [11, 12, 13, 14, 15, 16, 17, 18, 10, 19, 20, 21, 417, 418, 419, 420, 421, 422, 423, 424, 425, 426, 427, 428, 429, 430, 431] (by decide +kernel) (by decide +kernel)) (goodIn_sub (fun _ h => List.mem_cons_of_mem _ (List.mem_append_left _ (List.mem_append_left _ (List.mem_append_right _ h)))) (by decide +kernel))
set_option maxRecDepth 20000 in
theorem gL_refuses_X4_count : GoodIn wsL_refuses (wsV RL 80 RX4 yX4_count wsX4_count) := goodIn_app (goodIn_of _ (by decide +kernel)) ggL_refuses_X4_count
set_option maxRecDepth 20000 in
theorem ggL_refuses_L_refusesAny : GoodIn wsL_refuses wsL_refusesAny := goodIn_ca (goodIn_ca (goodIn_ca (goodIn_r _ [134, 135, 136, 3, 137, 138, 139, 140, 141, 142, 143, 10, 144, 145, 146, 147, 148, 149, 20, 21, 150, 151, 152, 153, 12, 33, 26, 154, 155, 156, 37, 157, 158, 159, 160, 161, 104, 162, 163, 164, 165, 39, 166, 167, 168, 169, 14, 170, 171, 172, 173, 174, 175, 176, 177, 178, 179, 180, 181, 182, 183, 184, 185, 186, 187, 188, 189, 190, 191, 192, 54, 44, 193, 194, 195, 85, 196, 197, 89, 88, 198, 87, 94, 199, 200, 201, 202, 203, 204, 205, 31, 81, 206, 207, 208, 209, 210, 211, 212, 213, 214, 215, 216, 217, 67, 68, 69, 70, 218, 219, 220, 221, 80, 222, 223, 224, 225, 13, 226, 227, 228, 229, 230, 231, 232, 233, 234, 235, 236, 237, 238, 126, 239, 240, 241, 242, 243, 244, 245, 246, 247, 248, 249, 250, 251, 252, 253, 254, 255, 256, 32, 257, 258, 259, 260, 261, 45, 46, 47, 48, 49, 35, 36, 38, 40, 41, 42, 43, 50, 51, 52, 53, 55, 56, 57, 58, 262, 263, 264, 265, 99, 100, 101, 102, 103, 34, 266, 267, 268, 269, 270, 271, 272, 273, 274, 275, 276, 277, 278, 279, 280, 281, 282, 283, 284, 285, 286, 78, 287, 288, 289, 290, 79, 291, 292, 293, 294, 295, 296, 127, 128, 129, 130, 131, 297, 298, 299, 300, 15, 16, 301, 302, 303, 304, 305, 306, 307, 308, 309, 310, 311, 312, 313, 314, 315, 316, 317, 318, 319, 320, 321, 322, 323, 324, 325, 326, 327, 328, 329, 330, 331, 332, 333, 334, 335, 336, 337, 338, 339, 340, 341, 342, 343, 344, 345, 346, 347, 348, 349, 350, 351, 352, 353, 354, 355, 356, 357, 358, 17, 18, 19, 359, 360, 361, 362, 363, 364, 365, 366, 367, 368, 369, 370, 371, 372, 373, 374, 375, 376, 377, 378, 379, 380, 381, 109, 110, 111, 112, 27, 28, 29, 30, 113, 114, 115, 116, 382, 383, 384, 385, 386, 387, 388, 389, 22, 23, 24, 25, 59, 60, 61, 62, 63, 64, 65, 66, 71, 72, 73, 74, 75, 76, 77, 82, 83, 84, 86, 90, 91, 92, 93, 95, 96, 97, 98, 105, 106, 107, 108, 117, 118, 119, 120, 121, 7, 8, 9, 11, 122, 123, 124, 125, 390, 391, 392, 393, 394, 395, 396, 397, 398, 399, 400, 401, 402, 403, 404, 405, 406, 407, 408, 409, 410, 411, 412, 413, 414, 415, 416, 417, 418, 419, 420, 421, 422, 423, 424, 425, 426, 427, 428, 429, 432, 433, 434, 435, 436, 437, 438, 439, 440, 441, 442, 430, 431] (by decide +kernel) (by decide +kernel)) (goodIn_sub (fun _ h => List.mem_cons_of_mem _ (List.mem_append_right _ h)) (by decide +kernel))) (goodIn_sub (fun _ h => List.mem_cons_of_mem _ (List.mem_append_left _ (List.mem_append_left _ (List.mem_append_right _ h)))) (by decide +kernel))) (goodIn_sub (fun _ h => List.mem_cons_of_mem _ (List.mem_append_left _ (List.mem_append_right _ h))) (by decide +kernel))
set_option maxRecDepth 20000 in
theorem gL_refuses_L_refusesAny : GoodIn wsL_refuses (va_wsS RL 112 yL_refusesAny wsL_refusesAny) := goodIn_app (goodIn_of _ (by decide +kernel)) ggL_refuses_L_refusesAny
theorem dL_refuses_0 : decode cL_refuses 0 = .ok (.aload_n 0, 1) := by decide +kernel
theorem dL_refuses_1 : decode cL_refuses 1 = .ok (.invokestatic 108, 3) := by decide +kernel
theorem dL_refuses_4 : decode cL_refuses 4 = .ok (.lstore_n 2, 1) := by decide +kernel
theorem dL_refuses_5 : decode cL_refuses 5 = .ok (.aload_n 0, 1) := by decide +kernel
theorem dL_refuses_6 : decode cL_refuses 6 = .ok (.bipush 7, 2) := by decide +kernel
theorem dL_refuses_8 : decode cL_refuses 8 = .ok (.invokevirtual 80, 3) := by decide +kernel
theorem dL_refuses_11 : decode cL_refuses 11 = .ok (.istore 4, 2) := by decide +kernel
theorem dL_refuses_13 : decode cL_refuses 13 = .ok (.aload_n 0, 1) := by decide +kernel
theorem dL_refuses_14 : decode cL_refuses 14 = .ok (.iload_n 1, 1) := by decide +kernel
theorem dL_refuses_15 : decode cL_refuses 15 = .ok (.invokestatic 112, 3) := by decide +kernel
theorem dL_refuses_18 : decode cL_refuses 18 = .ok (.ifCond .eq 27, 3) := by decide +kernel
theorem dL_refuses_21 : decode cL_refuses 21 = .ok (.aload_n 0, 1) := by decide +kernel
theorem dL_refuses_22 : decode cL_refuses 22 = .ok (.invokestatic 108, 3) := by decide +kernel
theorem dL_refuses_25 : decode cL_refuses 25 = .ok (.lload_n 2, 1) := by decide +kernel
theorem dL_refuses_26 : decode cL_refuses 26 = .ok (.lcmp, 1) := by decide +kernel
theorem dL_refuses_27 : decode cL_refuses 27 = .ok (.ifCond .ne 18, 3) := by decide +kernel
theorem dL_refuses_30 : decode cL_refuses 30 = .ok (.aload_n 0, 1) := by decide +kernel
theorem dL_refuses_31 : decode cL_refuses 31 = .ok (.bipush 7, 2) := by decide +kernel
theorem dL_refuses_33 : decode cL_refuses 33 = .ok (.invokevirtual 80, 3) := by decide +kernel
theorem dL_refuses_36 : decode cL_refuses 36 = .ok (.iload 4, 2) := by decide +kernel
theorem dL_refuses_38 : decode cL_refuses 38 = .ok (.if_icmp .ne 7, 3) := by decide +kernel
theorem dL_refuses_41 : decode cL_refuses 41 = .ok (.iconst 1, 1) := by decide +kernel
theorem dL_refuses_42 : decode cL_refuses 42 = .ok (.goto 4, 3) := by decide +kernel
theorem dL_refuses_45 : decode cL_refuses 45 = .ok (.iconst 0, 1) := by decide +kernel
theorem dL_refuses_46 : decode cL_refuses 46 = .ok (.ireturn, 1) := by decide +kernel
theorem dL_keyOf_0 : decode cL_keyOf 0 = .ok (.iconst 4, 1) := by decide +kernel
theorem dL_keyOf_1 : decode cL_keyOf 1 = .ok (.iload_n 0, 1) := by decide +kernel
theorem dL_keyOf_2 : decode cL_keyOf 2 = .ok (.imul, 1) := by decide +kernel
theorem dL_keyOf_3 : decode cL_keyOf 3 = .ok (.iconst 1, 1) := by decide +kernel
theorem dL_keyOf_4 : decode cL_keyOf 4 = .ok (.iadd, 1) := by decide +kernel
theorem dL_keyOf_5 : decode cL_keyOf 5 = .ok (.ireturn, 1) := by decide +kernel
set_option maxRecDepth 20000 in
theorem ggL_isFull_L_call : GoodIn wsL_isFull wsL_call := goodIn_ca (goodIn_ca (goodIn_ca (goodIn_r _ [4, 5, 6, 7, 8, 9, 10, 11, 12, 13, 14, 15, 16, 17, 18, 19, 20, 21, 22, 23, 24, 25, 26, 27, 28, 29, 30, 31, 32, 33, 34, 35, 36, 37, 38, 39, 40, 41, 42, 43, 44, 45, 46, 47, 48, 49, 50, 51, 52, 53, 54, 55, 56, 57, 58, 59, 60, 61, 62, 63, 64, 65, 66, 67, 68, 69, 70, 71, 72, 73, 74, 75, 76, 77, 78, 79, 80, 81, 82, 83, 84, 85, 86, 87, 88, 89, 90, 91, 92, 93, 94, 95, 96, 97, 98, 99, 100, 101, 102, 103, 104, 105, 106, 107, 108, 109, 110, 111, 112, 113, 114, 115, 116, 117, 118, 119, 120, 121, 122, 123, 124, 125, 126, 127, 128, 129, 130, 131, 132, 133, 134, 135, 136, 137, 138, 139, 140, 141, 142, 143, 144, 145, 146, 147, 148, 149, 150, 151, 152, 153, 154, 155, 156, 157, 158, 159, 160, 161, 162, 163, 164, 165, 166, 167, 168, 169, 170, 171, 172, 173, 174, 175, 176, 177, 178, 179, 180, 181, 182, 183, 184, 185, 186, 187, 188, 189, 190, 191, 192, 193, 194, 195, 196, 197, 198, 199, 200, 201, 202, 203, 204, 205, 206, 207, 208, 209, 210, 211, 212, 213, 214, 215, 216, 217, 218, 219, 220, 221, 222, 223, 224, 225, 226, 227, 228, 229, 230, 231, 232, 233, 234, 235, 236, 237, 238, 239, 240, 241, 242, 243, 244, 245, 246, 247, 248, 249, 250, 251, 252, 253, 254, 255, 256, 257, 258, 259, 260, 261, 262, 263, 264, 265, 266, 267, 268, 269, 270, 271, 272, 273, 274, 275, 276, 277, 278, 279, 280, 281, 282, 283, 284, 285, 286, 287, 288, 289, 290, 291, 292, 293, 294, 295, 296, 297, 298, 402, 403, 404, 405, 406, 407, 408, 409, 410, 411, 412, 413, 414, 415, 416, 417, 418, 419, 420, 421, 422, 423, 424, 425, 426, 427] (by decide +kernel) (by decide +kernel)) (goodIn_sub (fun _ h => List.mem_cons_of_mem _ (List.mem_append_left _ (List.mem_append_left _ (List.mem_append_right _ h)))) (by decide +kernel))) (goodIn_sub (fun _ h => List.mem_cons_of_mem _ (List.mem_append_left _ (List.mem_append_right _ h))) (by decide +kernel))) (goodIn_sub (fun _ h => List.mem_cons_of_mem _ (List.mem_append_right _ h)) (by decide +kernel))
set_option maxRecDepth 20000 in
theorem gL_isFull_L_call : GoodIn wsL_isFull (va_wsS RL 99 yL_call wsL_call) := goodIn_app (goodIn_of _ (by decide +kernel)) ggL_isFull_L_call
set_option maxRecDepth 20000 in
theorem ggL_isFull_L_keyOf : GoodIn wsL_isFull wsL_keyOf := goodIn_r _ [301] (by decide +kernel) (by decide +kernel)
set_option maxRecDepth 20000 in
theorem gL_isFull_L_keyOf : GoodIn wsL_isFull (va_wsS RL 116 yL_keyOf wsL_keyOf) := goodIn_app (goodIn_of _ (by decide +kernel)) ggL_isFull_L_keyOf
set_option maxRecDepth 20000 in
theorem ggL_isFull_L_seen : GoodIn wsL_isFull wsL_seen := goodIn_ca (goodIn_ca (goodIn_r _ [304, 305, 306, 307, 308, 309, 11, 310, 24, 117, 46, 228, 229, 288, 289, 290, 18, 19, 311, 312, 313, 314, 26, 315, 316, 317, 318, 90, 150, 25, 185, 161, 162, 30, 163, 41, 164, 165, 166, 167, 71, 156, 157, 158, 159, 160, 168, 169, 170, 171, 70, 172, 173, 174, 175, 319, 320, 321, 322, 323, 324, 325, 326, 104, 105, 106, 107, 327, 328, 329, 330, 331, 332, 333, 207, 212, 112, 91, 334, 335, 336, 75, 337, 81, 79, 78, 338, 339, 340, 341, 82, 342, 343, 344, 345, 180, 181, 182, 183, 184, 36, 346, 347, 348, 349, 350, 351, 352, 353, 354, 355, 356, 357, 358, 359, 360, 361, 362, 363, 364, 365, 366, 131, 219, 220, 221, 222, 223, 402, 403, 404, 405, 406, 407, 408, 409, 410, 411, 412, 413, 414, 426, 427, 415, 416, 417, 418, 419, 420, 421, 422, 423, 424, 425] (by decide +kernel) (by decide +kernel)) (goodIn_sub (fun _ h => List.mem_cons_of_mem _ (List.mem_append_left _ (List.mem_append_right _ h))) (by decide +kernel))) (goodIn_sub (fun _ h => List.mem_cons_of_mem _ (List.mem_append_right _ h)) (by decide +kernel))
set_option maxRecDepth 20000 in
theorem gL_isFull_L_seen : GoodIn wsL_isFull (va_wsS RL 108 yL_seen wsL_seen) := goodIn_app (goodIn_of _ (by decide +kernel)) ggL_isFull_L_seen
set_option maxRecDepth 20000 in
theorem ggL_isFull_X4_tree : GoodIn wsL_isFull wsX4_tree := goodIn_ca (goodIn_r _ [314, 26, 288, 289, 11, 290, 18, 19, 315, 316, 317, 318, 24, 90, 150, 25, 185, 161, 162, 30, 163, 41, 164, 165, 166, 167, 71, 156, 157, 158, 159, 160, 168, 169, 170, 171, 70, 172, 173, 174, 175, 319, 320, 321, 322, 323, 324, 325, 326, 104, 105, 106, 107, 327, 328, 329, 415, 416, 417, 418, 402, 403, 404, 405, 406, 407, 408, 409, 410, 411, 412, 413, 414, 419, 420, 421, 422, 423, 424, 425] (by decide +kernel) (by decide +kernel)) (goodIn_sub (fun _ h => List.mem_cons_of_mem _ (List.mem_append_left _ (List.mem_append_right _ h))) (by decide +kernel))
set_option maxRecDepth 20000 in
theorem gL_isFull_X4_tree : GoodIn wsL_isFull (wsV RL 70 RX4 yX4_tree wsX4_tree) := goodIn_app (goodIn_of _ (by decide +kernel)) ggL_isFull_X4_tree
set_option maxRecDepth 20000 in
theorem ggL_isFull_X4_rebuild : GoodIn wsL_isFull wsX4_rebuild := goodIn_ca (goodIn_r _ [333, 24, 90, 207, 212, 112, 91, 288, 289, 11, 290, 18, 19, 334, 335, 336, 75, 337, 81, 79, 78, 338, 339, 340, 341, 82, 342, 343, 344, 345, 150, 25, 180, 181, 182, 183, 30, 184, 41, 36, 71, 346, 347, 348, 349, 185, 161, 162, 163, 164, 165, 166, 167, 402, 403, 404, 405, 406, 407, 408, 409, 410, 411, 412, 413, 414, 419, 420, 421, 422, 423, 424, 425, 415, 416, 417, 418] (by decide +kernel) (by decide +kernel)) (goodIn_sub (fun _ h => List.mem_cons_of_mem _ (List.mem_append_left _ (List.mem_append_right _ h))) (by decide +kernel))
set_option maxRecDepth 20000 in
theorem gL_isFull_X4_rebuild : GoodIn wsL_isFull (wsV RL 74 RX4 yX4_rebuild wsX4_rebuild) := goodIn_app (goodIn_of _ (by decide +kernel)) ggL_isFull_X4_rebuild
set_option maxRecDepth 20000 in
theorem ggL_isFull_X4_count : GoodIn wsL_isFull wsX4_count := goodIn_ca (goodIn_r _ [310, 24, 117, 46, 228, 229, 288, 289, 11, 290, 18, 19, 402, 403, 404, 405, 406, 407, 408, 409, 410, 411, 412, 413, 414, 426, 427] (by decide +kernel) (by decide +kernel)) (goodIn_sub (fun _ h => List.mem_cons_of_mem _ (List.mem_append_left _ (List.mem_append_right _ h))) (by decide +kernel))
set_option maxRecDepth 20000 in
theorem gL_isFull_X4_count : GoodIn wsL_isFull (wsV RL 80 RX4 yX4_count wsX4_count) := goodIn_app (goodIn_of _ (by decide +kernel)) ggL_isFull_X4_count
set_option maxRecDepth 20000 in
theorem ggL_isFull_X4_firstError : GoodIn wsL_isFull wsX4_firstError := goodIn_r _ [370, 228, 371, 372, 373, 233, 374, 235, 236, 252, 253, 254, 402, 403, 404, 405, 406, 407, 408, 409, 410, 426, 427] (by decide +kernel) (by decide +kernel)
set_option maxRecDepth 20000 in
theorem gL_isFull_X4_firstError : GoodIn wsL_isFull (wsV RL 119 RX4 yX4_firstError wsX4_firstError) := goodIn_app (goodIn_of _ (by decide +kernel)) ggL_isFull_X4_firstError
set_option maxRecDepth 20000 in
theorem ggL_isFull_L_isQueued : GoodIn wsL_isFull wsL_isQueued := goodIn_ca (goodIn_ca (goodIn_ca (goodIn_r _ [377, 1, 2, 3, 4, 5, 6, 7, 8, 9, 10, 11, 12, 13, 14, 15, 16, 17, 18, 19, 20, 21, 22, 23, 24, 25, 26, 27, 28, 29, 30, 31, 32, 33, 34, 35, 36, 37, 38, 39, 40, 41, 42, 43, 44, 45, 46, 47, 48, 49, 50, 51, 52, 53, 54, 55, 56, 57, 58, 59, 60, 61, 62, 63, 64, 65, 66, 67, 68, 69, 70, 71, 72, 73, 74, 75, 76, 77, 78, 79, 80, 81, 82, 83, 84, 85, 86, 87, 88, 89, 90, 91, 92, 93, 94, 95, 96, 97, 98, 99, 100, 101, 102, 103, 104, 105, 106, 107, 108, 109, 110, 111, 112, 113, 114, 115, 116, 117, 118, 119, 120, 121, 122, 123, 124, 125, 126, 127, 128, 129, 130, 131, 132, 133, 134, 135, 136, 137, 138, 139, 140, 141, 142, 143, 144, 145, 146, 147, 148, 149, 150, 151, 152, 153, 154, 155, 156, 157, 158, 159, 160, 161, 162, 163, 164, 165, 166, 167, 168, 169, 170, 171, 172, 173, 174, 175, 176, 177, 178, 179, 180, 181, 182, 183, 184, 185, 186, 187, 188, 189, 190, 191, 192, 193, 194, 195, 196, 197, 198, 199, 200, 201, 202, 203, 204, 205, 206, 207, 208, 209, 210, 211, 212, 213, 214, 215, 216, 217, 218, 219, 220, 221, 222, 223, 224, 225, 226, 227, 228, 229, 230, 231, 232, 233, 234, 235, 236, 237, 238, 239, 240, 241, 242, 243, 244, 245, 246, 247, 248, 249, 250, 251, 252, 253, 254, 255, 256, 257, 258, 259, 260, 261, 262, 263, 264, 265, 266, 267, 268, 269, 270, 271, 272, 273, 274, 275, 276, 277, 278, 279, 280, 281, 282, 283, 284, 285, 286, 287, 288, 289, 290, 291, 292, 293, 294, 295, 296, 297, 298, 307, 308, 309, 310, 299, 300, 301, 330, 331, 332, 333, 334, 335, 336, 337, 338, 339, 340, 341, 342, 343, 344, 345, 346, 347, 348, 349, 358, 359, 360, 361, 362, 311, 312, 313, 314, 315, 316, 317, 318, 319, 320, 321, 322, 323, 324, 325, 326, 327, 328, 329, 378, 379, 380, 381, 382, 383, 384, 385, 386, 387, 388, 389, 390, 391, 392, 393, 394, 395, 396, 397, 398, 399, 400, 401, 402, 403, 404, 405, 406, 407, 408, 409, 410, 411, 412, 413, 414, 415, 416, 417, 418, 419, 420, 421, 422, 423, 424, 425, 426, 427] (by decide +kernel) (by decide +kernel)) (goodIn_sub (fun _ h => List.mem_cons_of_mem _ (List.mem_append_left _ (List.mem_append_left _ (List.mem_append_right _ h)))) (by decide +kernel))) (goodIn_sub (fun _ h => List.mem_cons_of_mem _ (List.mem_append_left _ (List.mem_append_right _ h))) (by decide +kernel))) (goodIn_sub (fun _ h => List.mem_cons_of_mem _ (List.mem_append_right _ h)) (by decide +kernel))
set_option maxRecDepth 20000 in
theorem gL_isFull_L_isQueued : GoodIn wsL_isFull (va_wsS RL 122 yL_isQueued wsL_isQueued) := goodIn_app (goodIn_of _ (by decide +kernel)) ggL_isFull_L_isQueued
set_option maxRecDepth 20000 in
theorem ggL_isQueued_L_call : GoodIn wsL_isQueued wsL_call := goodIn_ca (goodIn_ca (goodIn_ca (goodIn_r _ [4, 5, 6, 7, 8, 9, 10, 11, 12, 13, 14, 15, 16, 17, 18, 19, 20, 21, 22, 23, 24, 25, 26, 27, 28, 29, 30, 31, 32, 33, 34, 35, 36, 37, 38, 39, 40, 41, 42, 43, 44, 45, 46, 47, 48, 49, 50, 51, 52, 53, 54, 55, 56, 57, 58, 59, 60, 61, 62, 63, 64, 65, 66, 67, 68, 69, 70, 71, 72, 73, 74, 75, 76, 77, 78, 79, 80, 81, 82, 83, 84, 85, 86, 87, 88, 89, 90, 91, 92, 93, 94, 95, 96, 97, 98, 99, 100, 101, 102, 103, 104, 105, 106, 107, 108, 109, 110, 111, 112, 113, 114, 115, 116, 117, 118, 119, 120, 121, 122, 123, 124, 125, 126, 127, 128, 129, 130, 131, 132, 133, 134, 135, 136, 137, 138, 139, 140, 141, 142, 143, 144, 145, 146, 147, 148, 149, 150, 151, 152, 153, 154, 155, 156, 157, 158, 159, 160, 161, 162, 163, 164, 165, 166, 167, 168, 169, 170, 171, 172, 173, 174, 175, 176, 177, 178, 179, 180, 181, 182, 183, 184, 185, 186, 187, 188, 189, 190, 191, 192, 193, 194, 195, 196, 197, 198, 199, 200, 201, 202, 203, 204, 205, 206, 207, 208, 209, 210, 211, 212, 213, 214, 215, 216, 217, 218, 219, 220, 221, 222, 223, 224, 225, 226, 227, 228, 229, 230, 231, 232, 233, 234, 235, 236, 237, 238, 239, 240, 241, 242, 243, 244, 245, 246, 247, 248, 249, 250, 251, 252, 253, 254, 255, 256, 257, 258, 259, 260, 261, 262, 263, 264, 265, 266, 267, 268, 269, 270, 271, 272, 273, 274, 275, 276, 277, 278, 279, 280, 281, 282, 283, 284, 285, 286, 287, 288, 289, 290, 291, 292, 293, 294, 295, 296, 297, 298, 374, 375, 376, 377, 378, 379, 380, 381, 382, 383, 384, 385, 386, 387, 388, 389, 390, 391, 392, 393, 394, 395, 396, 397, 398, 399] (by decide +kernel) (by decide +kernel)) (goodIn_sub (fun _ h => List.mem_cons_of_mem _ (List.mem_append_left _ (List.mem_append_left _ (List.mem_append_right _ h)))) (by decide +kernel))) (goodIn_sub (fun _ h => List.mem_cons_of_mem _ (List.mem_append_left _ (List.mem_append_right _ h))) (by decide +kernel))) (goodIn_sub (fun _ h => List.mem_cons_of_mem _ (List.mem_append_right _ h)) (by decide +kernel))
set_option maxRecDepth 20000 in
theorem gL_isQueued_L_call : GoodIn wsL_isQueued (va_wsS RL 99 yL_call wsL_call) := goodIn_app (goodIn_of _ (by decide +kernel)) ggL_isQueued_L_call
set_option maxRecDepth 20000 in
theorem ggL_isQueued_X4_count : GoodIn wsL_isQueued wsX4_count := goodIn_ca (goodIn_r _ [302, 24, 117, 46, 228, 229, 288, 289, 11, 290, 18, 19, 374, 375, 376, 377, 378, 379, 380, 381, 382, 383, 384, 385, 386, 398, 399] (by decide +kernel) (by decide +kernel)) (goodIn_sub (fun _ h => List.mem_cons_of_mem _ (List.mem_append_left _ (List.mem_append_right _ h))) (by decide +kernel))
set_option maxRecDepth 20000 in
theorem gL_isQueued_X4_count : GoodIn wsL_isQueued (wsV RL 80 RX4 yX4_count wsX4_count) := goodIn_app (goodIn_of _ (by decide +kernel)) ggL_isQueued_X4_count
set_option maxRecDepth 20000 in
theorem ggL_isQueued_L_keyOf : GoodIn wsL_isQueued wsL_keyOf := goodIn_r _ [305] (by decide +kernel) (by decide +kernel)
set_option maxRecDepth 20000 in
theorem gL_isQueued_L_keyOf : GoodIn wsL_isQueued (va_wsS RL 116 yL_keyOf wsL_keyOf) := goodIn_app (goodIn_of _ (by decide +kernel)) ggL_isQueued_L_keyOf
set_option maxRecDepth 20000 in
theorem ggL_isQueued_X4_rebuild : GoodIn wsL_isQueued wsX4_rebuild := goodIn_ca (goodIn_r _ [309, 24, 90, 207, 212, 112, 91, 288, 289, 11, 290, 18, 19, 310, 311, 312, 75, 313, 81, 79, 78, 314, 315, 316, 317, 82, 318, 319, 320, 321, 150, 25, 180, 181, 182, 183, 30, 184, 41, 36, 71, 322, 323, 324, 325, 185, 161, 162, 163, 164, 165, 166, 167, 374, 375, 376, 377, 378, 379, 380, 381, 382, 383, 384, 385, 386, 391, 392, 393, 394, 395, 396, 397, 387, 388, 389, 390] (by decide +kernel) (by decide +kernel)) (goodIn_sub (fun _ h => List.mem_cons_of_mem _ (List.mem_append_left _ (List.mem_append_right _ h))) (by decide +kernel))
set_option maxRecDepth 20000 in
theorem gL_isQueued_X4_rebuild : GoodIn wsL_isQueued (wsV RL 74 RX4 yX4_rebuild wsX4_rebuild) := goodIn_app (goodIn_of _ (by decide +kernel)) ggL_isQueued_X4_rebuild
set_option maxRecDepth 20000 in
theorem ggL_isQueued_X4_queued : GoodIn wsL_isQueued wsX4_queued := goodIn_ca (goodIn_r _ [329, 18, 19, 24, 90, 112, 330, 374, 375, 376, 377, 378, 379, 380, 381, 382, 383, 384, 385, 386, 391, 392, 393, 394, 395, 396, 397] (by decide +kernel) (by decide +kernel)) (goodIn_sub (fun _ h => List.mem_cons_of_mem _ (List.mem_append_left _ (List.mem_append_right _ h))) (by decide +kernel))
set_option maxRecDepth 20000 in
theorem gL_isQueued_X4_queued : GoodIn wsL_isQueued (wsV RL 77 RX4 yX4_queued wsX4_queued) := goodIn_app (goodIn_of _ (by decide +kernel)) ggL_isQueued_X4_queued
set_option maxRecDepth 20000 in
theorem ggL_isQueued_X4_tree : GoodIn wsL_isQueued wsX4_tree := goodIn_ca (goodIn_r _ [334, 26, 288, 289, 11, 290, 18, 19, 335, 336, 337, 338, 24, 90, 150, 25, 185, 161, 162, 30, 163, 41, 164, 165, 166, 167, 71, 156, 157, 158, 159, 160, 168, 169, 170, 171, 70, 172, 173, 174, 175, 339, 340, 341, 342, 343, 344, 345, 346, 104, 105, 106, 107, 347, 348, 349, 387, 388, 389, 390, 374, 375, 376, 377, 378, 379, 380, 381, 382, 383, 384, 385, 386, 391, 392, 393, 394, 395, 396, 397] (by decide +kernel) (by decide +kernel)) (goodIn_sub (fun _ h => List.mem_cons_of_mem _ (List.mem_append_left _ (List.mem_append_right _ h))) (by decide +kernel))
set_option maxRecDepth 20000 in
theorem gL_isQueued_X4_tree : GoodIn wsL_isQueued (wsV RL 70 RX4 yX4_tree wsX4_tree) := goodIn_app (goodIn_of _ (by decide +kernel)) ggL_isQueued_X4_tree
set_option maxRecDepth 20000 in
theorem ggL_isQueued_X4_untilExchange : GoodIn wsL_isQueued wsX4_untilExchange := goodIn_ca (goodIn_r _ [353, 24, 90, 91, 354, 355, 11, 356, 18, 19, 357, 358, 359, 75, 360, 361, 362, 363, 364, 78, 79, 80, 365, 173, 174, 175, 374, 375, 376, 377, 378, 379, 380, 381, 382, 383, 384, 385, 386, 391, 392, 393, 394, 395, 396, 397] (by decide +kernel) (by decide +kernel)) (goodIn_sub (fun _ h => List.mem_cons_of_mem _ (List.mem_append_left _ (List.mem_append_right _ h))) (by decide +kernel))
set_option maxRecDepth 20000 in
theorem gL_isQueued_X4_untilExchange : GoodIn wsL_isQueued (wsV RL 86 RX4 yX4_untilExchange wsX4_untilExchange) := goodIn_app (goodIn_of _ (by decide +kernel)) ggL_isQueued_X4_untilExchange
set_option maxRecDepth 20000 in
theorem ggL_isQueued_X4_leastSpeed : GoodIn wsL_isQueued wsX4_leastSpeed := goodIn_ca (goodIn_r _ [369, 18, 19, 24, 90, 91, 357, 358, 359, 75, 360, 361, 362, 363, 364, 78, 79, 80, 365, 173, 174, 175, 374, 375, 376, 377, 378, 379, 380, 381, 382, 383, 384, 385, 386, 391, 392, 393, 394, 395, 396, 397] (by decide +kernel) (by decide +kernel)) (goodIn_sub (fun _ h => List.mem_cons_of_mem _ (List.mem_append_left _ (List.mem_append_right _ h))) (by decide +kernel))
set_option maxRecDepth 20000 in
theorem gL_isQueued_X4_leastSpeed : GoodIn wsL_isQueued (wsV RL 92 RX4 yX4_leastSpeed wsX4_leastSpeed) := goodIn_app (goodIn_of _ (by decide +kernel)) ggL_isQueued_X4_leastSpeed
set_option maxRecDepth 20000 in
theorem ggL_isQueued_X4_idle : GoodIn wsL_isQueued wsX4_idle := goodIn_r _ [373, 24, 117, 42, 43, 44, 11, 45, 46, 47, 48, 49, 50, 51, 52, 53, 54, 55, 56, 57, 58, 59, 60, 61, 62, 63, 64, 65, 66, 67, 30, 68, 41, 36, 69, 70, 71, 72, 73, 74, 75, 76, 77, 78, 79, 80, 81, 82, 83, 84, 85, 86, 87, 88, 89, 25, 90, 91, 92, 93, 94, 95, 37, 38, 39, 40, 96, 97, 98, 99, 100, 101, 102, 103, 104, 105, 106, 107, 108, 109, 110, 111, 112, 113, 114, 115, 116, 118, 119, 120, 121, 122, 123, 124, 125, 126, 127, 128, 129, 130, 131, 132, 133, 134, 135, 136, 137, 138, 139, 140, 141, 142, 143, 144, 145, 146, 147, 148, 149, 150, 151, 152, 153, 154, 155, 26, 156, 157, 158, 159, 160, 161, 162, 163, 164, 165, 166, 167, 168, 169, 170, 171, 172, 173, 174, 175, 176, 177, 178, 179, 180, 181, 182, 183, 184, 185, 186, 187, 188, 189, 190, 191, 192, 193, 194, 195, 196, 197, 198, 374, 375, 376, 377, 378, 379, 380, 381, 382, 383, 384, 385, 386, 387, 388, 389, 390, 391, 392, 393, 394, 395, 396, 397] (by decide +kernel) (by decide +kernel)
set_option maxRecDepth 20000 in
theorem gL_isQueued_X4_idle : GoodIn wsL_isQueued (wsV RL 126 RX4 yX4_idle wsX4_idle) := goodIn_app (goodIn_of _ (by decide +kernel)) ggL_isQueued_X4_idle
set_option maxRecDepth 20000 in
theorem ggL_isSorted_X4_tree : GoodIn wsL_isSorted wsX4_tree := goodIn_ca (goodIn_r _ [5, 6, 7, 8, 4, 9, 10, 11, 12, 13, 14, 15, 16, 17, 18, 19, 20, 21, 22, 23, 24, 25, 26, 27, 28, 29, 30, 31, 32, 33, 34, 35, 36, 37, 38, 39, 40, 41, 42, 43, 44, 45, 46, 47, 48, 49, 50, 51, 52, 53, 54, 55, 56, 57, 58, 59, 125, 126, 127, 128, 129, 130, 131, 132, 133, 134, 135, 136, 137, 138, 139, 140, 141, 142, 143, 144, 145, 146, 147, 148] (by decide +kernel) (by decide +kernel)) (goodIn_sub (fun _ h => List.mem_cons_of_mem _ (List.mem_append_right _ h)) (by decide +kernel))
set_option maxRecDepth 20000 in
theorem gL_isSorted_X4_tree : GoodIn wsL_isSorted (wsV RL 70 RX4 yX4_tree wsX4_tree) := goodIn_app (goodIn_of _ (by decide +kernel)) ggL_isSorted_X4_tree
set_option maxRecDepth 20000 in
theorem ggL_isSorted_X4_keyAt : GoodIn wsL_isSorted wsX4_keyAt := goodIn_ca (goodIn_r _ [63, 10, 11, 16, 19, 64, 65, 66, 67, 23, 68, 25, 69, 30, 129, 130, 131, 132, 133, 134, 135, 136, 137, 138, 139, 140, 141, 125, 126, 127, 128] (by decide +kernel) (by decide +kernel)) (goodIn_sub (fun _ h => List.mem_cons_of_mem _ (List.mem_append_right _ h)) (by decide +kernel))
set_option maxRecDepth 20000 in
theorem gL_isSorted_X4_keyAt : GoodIn wsL_isSorted (wsV RL 60 RX4 yX4_keyAt wsX4_keyAt) := goodIn_app (goodIn_of _ (by decide +kernel)) ggL_isSorted_X4_keyAt
set_option maxRecDepth 20000 in
theorem ggL_isSorted_X4_contains : GoodIn wsL_isSorted wsX4_contains := goodIn_ca (goodIn_r _ [73, 16, 19, 74, 75, 4, 76, 10, 11, 77, 78, 79, 23, 80, 30, 81, 82, 83, 84, 69, 85, 86, 87, 88, 25, 129, 130, 131, 132, 133, 134, 135, 136, 137, 138, 139, 140, 141, 125, 126, 127, 128] (by decide +kernel) (by decide +kernel)) (goodIn_sub (fun _ h => List.mem_cons_of_mem _ (List.mem_append_right _ h)) (by decide +kernel))
set_option maxRecDepth 20000 in
theorem gL_isSorted_X4_contains : GoodIn wsL_isSorted (wsV RL 44 RX4 yX4_contains wsX4_contains) := goodIn_app (goodIn_of _ (by decide +kernel)) ggL_isSorted_X4_contains
set_option maxRecDepth 20000 in
theorem ggL_isSorted_X4_rank : GoodIn wsL_isSorted wsX4_rank := goodIn_ca (goodIn_r _ [92, 16, 19, 74, 75, 4, 76, 10, 11, 93, 94, 95, 23, 96, 25, 30, 69, 129, 130, 131, 132, 133, 134, 135, 136, 137, 138, 139, 140, 141, 125, 126, 127, 128] (by decide +kernel) (by decide +kernel)) (goodIn_sub (fun _ h => List.mem_cons_of_mem _ (List.mem_append_right _ h)) (by decide +kernel))
set_option maxRecDepth 20000 in
theorem gL_isSorted_X4_rank : GoodIn wsL_isSorted (wsV RL 57 RX4 yX4_rank wsX4_rank) := goodIn_app (goodIn_of _ (by decide +kernel)) ggL_isSorted_X4_rank
set_option maxRecDepth 20000 in
theorem ggL_isSorted_X4_near : GoodIn wsL_isSorted wsX4_near := goodIn_ca (goodIn_r _ [100, 16, 19, 74, 75, 4, 76, 10, 11, 7, 8, 9, 101, 102, 103, 23, 104, 25, 30, 69, 105, 106, 107, 108, 129, 130, 131, 132, 133, 134, 135, 136, 137, 138, 139, 140, 141, 125, 126, 127, 128] (by decide +kernel) (by decide +kernel)) (goodIn_sub (fun _ h => List.mem_cons_of_mem _ (List.mem_append_right _ h)) (by decide +kernel))
set_option maxRecDepth 20000 in
theorem gL_isSorted_X4_near : GoodIn wsL_isSorted (wsV RL 48 RX4 yX4_near wsX4_near) := goodIn_app (goodIn_of _ (by decide +kernel)) ggL_isSorted_X4_near
set_option maxRecDepth 20000 in
theorem ggL_isSorted_X4_node : GoodIn wsL_isSorted wsX4_node := goodIn_ca (goodIn_r _ [112, 10, 11, 6, 7, 8, 4, 9, 12, 13, 14, 15, 16, 17, 18, 19, 113, 114, 115, 23, 116, 69, 30, 40, 53, 54, 55, 56, 25, 26, 27, 28, 29, 125, 126, 127, 128, 129, 130, 131, 132, 133, 134, 135, 136, 137, 138, 139, 140, 141, 142, 143, 144, 145, 146, 147, 148] (by decide +kernel) (by decide +kernel)) (goodIn_sub (fun _ h => List.mem_cons_of_mem _ (List.mem_append_right _ h)) (by decide +kernel))
set_option maxRecDepth 20000 in
theorem gL_isSorted_X4_node : GoodIn wsL_isSorted (wsV RL 63 RX4 yX4_node wsX4_node) := goodIn_app (goodIn_of _ (by decide +kernel)) ggL_isSorted_X4_node
set_option maxRecDepth 20000 in
theorem ggL_isSorted_X4_path : GoodIn wsL_isSorted wsX4_path := goodIn_ca (goodIn_r _ [120, 10, 11, 16, 19, 74, 75, 4, 76, 121, 122, 123, 23, 124, 40, 69, 85, 86, 87, 88, 25, 129, 130, 131, 132, 133, 134, 135, 136, 137, 138, 139, 140, 141, 125, 126, 127, 128] (by decide +kernel) (by decide +kernel)) (goodIn_sub (fun _ h => List.mem_cons_of_mem _ (List.mem_append_right _ h)) (by decide +kernel))
set_option maxRecDepth 20000 in
theorem gL_isSorted_X4_path : GoodIn wsL_isSorted (wsV RL 67 RX4 yX4_path wsX4_path) := goodIn_app (goodIn_of _ (by decide +kernel)) ggL_isSorted_X4_path
set_option maxRecDepth 20000 in
theorem ggL_act_X4_contains : GoodIn wsL_act wsX4_contains := goodIn_ca (goodIn_r _ [5, 6, 7, 8, 9, 4, 10, 11, 12, 13, 14, 15, 16, 17, 18, 19, 20, 21, 22, 23, 24, 25, 26, 27, 28, 327, 328, 329, 330, 331, 332, 333, 334, 335, 336, 337, 338, 339, 340, 341, 342, 343] (by decide +kernel) (by decide +kernel)) (goodIn_sub (fun _ h => List.mem_cons_of_mem _ (List.mem_append_left _ (List.mem_append_left _ (List.mem_append_right _ h)))) (by decide +kernel))
set_option maxRecDepth 20000 in
theorem gL_act_X4_contains : GoodIn wsL_act (wsV RL 44 RX4 yX4_contains wsX4_contains) := goodIn_app (goodIn_of _ (by decide +kernel)) ggL_act_X4_contains
set_option maxRecDepth 20000 in
theorem ggL_act_L_call : GoodIn wsL_act wsL_call := goodIn_ca (goodIn_ca (goodIn_ca (goodIn_r _ [32, 33, 34, 35, 36, 37, 38, 4, 39, 40, 41, 8, 9, 10, 11, 12, 42, 43, 44, 45, 6, 7, 46, 47, 48, 49, 16, 50, 19, 20, 21, 22, 23, 24, 25, 26, 27, 28, 51, 52, 53, 54, 55, 56, 57, 58, 59, 60, 61, 62, 63, 64, 65, 66, 67, 68, 69, 70, 71, 72, 73, 74, 75, 76, 77, 78, 79, 18, 80, 81, 82, 83, 84, 85, 86, 87, 88, 89, 90, 91, 92, 93, 94, 95, 96, 97, 98, 99, 100, 101, 102, 103, 104, 105, 106, 107, 108, 109, 110, 111, 112, 113, 114, 115, 116, 117, 118, 119, 120, 121, 122, 123, 124, 125, 126, 127, 128, 129, 130, 131, 132, 133, 134, 135, 136, 137, 138, 139, 140, 141, 142, 143, 144, 145, 146, 147, 148, 149, 150, 151, 152, 153, 154, 155, 156, 157, 158, 159, 160, 161, 162, 163, 164, 165, 166, 167, 168, 169, 170, 171, 172, 173, 174, 175, 176, 177, 178, 179, 180, 181, 182, 183, 184, 185, 186, 187, 188, 189, 190, 191, 192, 193, 194, 195, 196, 197, 198, 199, 200, 201, 202, 203, 204, 205, 206, 207, 208, 209, 210, 211, 212, 213, 214, 215, 216, 217, 218, 219, 220, 221, 222, 223, 224, 225, 226, 227, 228, 229, 230, 231, 232, 233, 234, 235, 236, 237, 238, 239, 240, 241, 242, 243, 244, 245, 246, 247, 248, 249, 250, 251, 252, 253, 254, 255, 256, 257, 258, 259, 260, 261, 262, 263, 264, 265, 266, 267, 268, 269, 270, 271, 272, 273, 274, 275, 276, 277, 278, 279, 280, 281, 282, 283, 1, 2, 3, 5, 13, 14, 15, 17, 284, 285, 286, 287, 288, 289, 290, 291, 292, 293, 294, 295, 296, 297, 298, 327, 328, 329, 330, 331, 332, 333, 334, 335, 336, 337, 338, 339, 340, 341, 342, 343, 344, 345, 346, 347, 348, 349, 350, 351, 352] (by decide +kernel) (by decide +kernel)) (goodIn_sub (fun _ h => List.mem_cons_of_mem _ (List.mem_append_left _ (List.mem_append_right _ h))) (by decide +kernel))) (goodIn_sub (fun _ h => List.mem_cons_of_mem _ (List.mem_append_left _ (List.mem_append_left _ (List.mem_append_right _ h)))) (by decide +kernel))) (goodIn_sub (fun _ h => List.mem_cons_of_mem _ (List.mem_append_right _ h)) (by decide +kernel))
set_option maxRecDepth 20000 in
theorem gL_act_L_call : GoodIn wsL_act (va_wsS RL 99 yL_call wsL_call) := goodIn_app (goodIn_of _ (by decide +kernel)) ggL_act_L_call
set_option maxRecDepth 20000 in
theorem ggL_act_X4_count : GoodIn wsL_act wsX4_count := goodIn_ca (goodIn_r _ [302, 6, 125, 55, 236, 237, 288, 289, 4, 290, 11, 12, 327, 328, 329, 330, 331, 332, 333, 334, 335, 336, 337, 338, 339, 351, 352] (by decide +kernel) (by decide +kernel)) (goodIn_sub (fun _ h => List.mem_cons_of_mem _ (List.mem_append_left _ (List.mem_append_left _ (List.mem_append_right _ h)))) (by decide +kernel))
set_option maxRecDepth 20000 in
theorem gL_act_X4_count : GoodIn wsL_act (wsV RL 80 RX4 yX4_count wsX4_count) := goodIn_app (goodIn_of _ (by decide +kernel)) ggL_act_X4_count
set_option maxRecDepth 20000 in
theorem ggL_act_X4_idle : GoodIn wsL_act wsX4_idle := goodIn_r _ [306, 6, 125, 51, 52, 53, 4, 54, 55, 56, 57, 58, 59, 60, 61, 62, 63, 64, 65, 66, 67, 68, 69, 70, 71, 72, 73, 74, 75, 76, 16, 77, 28, 23, 78, 79, 18, 80, 81, 82, 83, 84, 85, 86, 87, 88, 89, 90, 91, 92, 93, 94, 95, 96, 97, 7, 98, 99, 100, 101, 102, 103, 24, 25, 26, 27, 104, 105, 106, 107, 108, 109, 110, 111, 112, 113, 114, 115, 116, 117, 118, 119, 120, 121, 122, 123, 124, 126, 127, 128, 129, 130, 131, 132, 133, 134, 135, 136, 137, 138, 139, 140, 141, 142, 143, 144, 145, 146, 147, 148, 149, 150, 151, 152, 153, 154, 155, 156, 157, 158, 159, 160, 161, 162, 163, 46, 164, 165, 166, 167, 168, 169, 170, 171, 172, 173, 174, 175, 176, 177, 178, 179, 180, 181, 182, 183, 184, 185, 186, 187, 188, 189, 190, 191, 192, 193, 194, 195, 196, 197, 198, 199, 200, 201, 202, 203, 204, 205, 206, 327, 328, 329, 330, 331, 332, 333, 334, 335, 336, 337, 338, 339, 340, 341, 342, 343, 344, 345, 346, 347, 348, 349, 350] (by decide +kernel) (by decide +kernel)
set_option maxRecDepth 20000 in
theorem gL_act_X4_idle : GoodIn wsL_act (wsV RL 126 RX4 yX4_idle wsX4_idle) := goodIn_app (goodIn_of _ (by decide +kernel)) ggL_act_X4_idle
set_option maxRecDepth 20000 in
theorem ggL_act_X4_rebuild : GoodIn wsL_act wsX4_rebuild := goodIn_ca (goodIn_r _ [310, 6, 98, 215, 220, 120, 99, 288, 289, 4, 290, 11, 12, 311, 312, 313, 83, 314, 89, 87, 86, 315, 316, 317, 318, 90, 319, 320, 321, 322, 158, 7, 188, 189, 190, 191, 16, 192, 28, 23, 18, 323, 324, 325, 326, 193, 169, 170, 171, 172, 173, 174, 175, 327, 328, 329, 330, 331, 332, 333, 334, 335, 336, 337, 338, 339, 344, 345, 346, 347, 348, 349, 350, 340, 341, 342, 343] (by decide +kernel) (by decide +kernel)) (goodIn_sub (fun _ h => List.mem_cons_of_mem _ (List.mem_append_left _ (List.mem_append_left _ (List.mem_append_right _ h)))) (by decide +kernel))
set_option maxRecDepth 20000 in
theorem gL_act_X4_rebuild : GoodIn wsL_act (wsV RL 74 RX4 yX4_rebuild wsX4_rebuild) := goodIn_app (goodIn_of _ (by decide +kernel)) ggL_act_X4_rebuild
set_option maxRecDepth 20000 in
theorem ggL_law_X4_init : GoodIn wsL_law wsX4_init := goodIn_r _ [5, 6, 7, 8, 9, 10, 11, 12, 13, 14, 15, 16, 17, 18, 19, 20, 21, 22, 23, 24, 25, 26, 27, 28, 29, 30, 31, 32, 33, 34, 35, 36, 37, 38, 39, 40, 41, 42, 43, 44, 45, 46, 47, 48, 49, 50, 51, 52, 53, 54, 55, 56, 57, 58, 59, 60, 61, 62, 499, 500, 501, 502, 490, 491, 492, 493, 494, 495, 496, 497, 498, 503, 504, 505, 506, 507, 508, 509, 510, 511, 512, 513, 514, 515] (by decide +kernel) (by decide +kernel)
set_option maxRecDepth 20000 in
theorem gL_law_X4_init : GoodIn wsL_law (wsX4_init) := ggL_law_X4_init
set_option maxRecDepth 20000 in
theorem ggL_law_L_call : GoodIn wsL_law wsL_call := goodIn_ca (goodIn_ca (goodIn_ca (goodIn_r _ [66, 67, 68, 69, 70, 71, 72, 2, 73, 74, 75, 76, 77, 78, 79, 80, 81, 82, 83, 84, 12, 85, 86, 87, 88, 89, 33, 90, 91, 92, 93, 94, 48, 95, 96, 97, 98, 99, 100, 101, 102, 103, 104, 13, 105, 106, 107, 108, 109, 110, 111, 11, 112, 34, 36, 43, 113, 114, 115, 116, 44, 117, 118, 119, 120, 121, 49, 50, 122, 123, 124, 26, 125, 55, 126, 127, 128, 129, 56, 130, 57, 131, 132, 133, 134, 135, 136, 137, 138, 139, 140, 141, 142, 143, 144, 145, 146, 147, 148, 149, 150, 151, 152, 153, 154, 155, 156, 157, 158, 159, 160, 161, 162, 163, 164, 165, 166, 167, 168, 169, 170, 171, 172, 173, 174, 175, 176, 177, 178, 179, 180, 181, 182, 183, 184, 185, 186, 187, 188, 189, 190, 191, 192, 193, 194, 195, 196, 197, 198, 199, 200, 201, 202, 203, 204, 205, 206, 207, 208, 209, 210, 211, 212, 213, 214, 215, 216, 217, 218, 219, 220, 221, 222, 223, 224, 225, 23, 226, 227, 228, 229, 230, 231, 232, 233, 234, 235, 236, 237, 238, 239, 240, 241, 242, 243, 244, 245, 246, 247, 248, 249, 250, 251, 252, 253, 254, 255, 256, 257, 258, 259, 260, 261, 262, 263, 264, 265, 266, 267, 268, 269, 270, 271, 272, 20, 273, 274, 275, 276, 19, 277, 278, 62, 279, 280, 281, 282, 22, 283, 284, 285, 286, 287, 288, 289, 290, 291, 292, 293, 294, 295, 296, 297, 298, 299, 300, 301, 302, 303, 304, 305, 306, 307, 14, 16, 308, 309, 310, 311, 312, 313, 314, 315, 316, 317, 318, 319, 320, 321, 322, 323, 324, 325, 326, 327, 328, 329, 330, 331, 332, 333, 334, 335, 336, 337, 490, 491, 492, 493, 494, 495, 496, 497, 498, 499, 500, 501, 502, 512, 513, 514, 515, 505, 506, 507, 508, 509, 510, 511, 503, 504] (by decide +kernel) (by decide +kernel)) (goodIn_sub (fun _ h => List.mem_append_left _ (List.mem_append_left _ (List.mem_append_right _ h))) (by decide +kernel))) (goodIn_sub (fun _ h => List.mem_append_left _ (List.mem_append_right _ h)) (by decide +kernel))) (goodIn_sub (fun _ h => List.mem_append_right _ h) (by decide +kernel))
set_option maxRecDepth 20000 in
theorem gL_law_L_call : GoodIn wsL_law (va_wsS RL 99 yL_call wsL_call) := goodIn_app (goodIn_of _ (by decide +kernel)) ggL_law_L_call
set_option maxRecDepth 20000 in
theorem ggL_law_X4_setting : GoodIn wsL_law wsX4_setting := goodIn_ca (goodIn_r _ [341, 12, 177, 264, 265, 2, 266, 267, 268, 490, 491, 492, 493, 494, 495, 496, 497, 498, 499, 500, 501, 502] (by decide +kernel) (by decide +kernel)) (goodIn_sub (fun _ h => List.mem_append_right _ h) (by decide +kernel))
set_option maxRecDepth 20000 in
theorem gL_law_X4_setting : GoodIn wsL_law (wsV RL 83 RX4 yX4_setting wsX4_setting) := goodIn_app (goodIn_of _ (by decide +kernel)) ggL_law_X4_setting
set_option maxRecDepth 20000 in
theorem ggL_law_L_refuses : GoodIn wsL_law wsL_refuses := goodIn_ca (goodIn_ca (goodIn_ca (goodIn_r _ [344, 345, 346, 65, 347, 348, 349, 350, 351, 352, 2, 353, 12, 163, 104, 20, 273, 327, 328, 329, 79, 80, 354, 355, 356, 357, 86, 358, 359, 360, 361, 136, 196, 85, 230, 207, 208, 33, 209, 99, 210, 211, 212, 213, 50, 202, 203, 204, 205, 206, 214, 215, 216, 217, 49, 218, 219, 220, 221, 362, 363, 364, 365, 366, 367, 368, 369, 150, 151, 152, 153, 370, 371, 372, 373, 374, 375, 376, 252, 257, 158, 137, 377, 378, 379, 26, 380, 129, 127, 126, 381, 382, 383, 384, 56, 385, 386, 387, 388, 23, 226, 227, 228, 229, 48, 389, 390, 391, 392, 393, 394, 395, 396, 397, 398, 399, 400, 401, 402, 403, 404, 405, 338, 339, 340, 341, 177, 264, 265, 266, 267, 268, 406, 407, 408, 63, 64, 66, 67, 68, 69, 70, 71, 72, 73, 74, 75, 76, 77, 78, 81, 82, 83, 84, 87, 88, 89, 90, 91, 92, 93, 94, 95, 96, 97, 98, 100, 101, 102, 103, 13, 105, 106, 107, 108, 109, 110, 111, 11, 112, 34, 36, 43, 113, 114, 115, 116, 44, 117, 118, 119, 120, 121, 122, 123, 124, 125, 55, 128, 130, 57, 131, 132, 133, 134, 135, 138, 139, 140, 141, 142, 143, 144, 145, 146, 147, 148, 149, 154, 155, 156, 157, 159, 160, 161, 162, 164, 165, 166, 167, 168, 169, 170, 171, 172, 173, 174, 175, 176, 178, 179, 180, 181, 182, 183, 184, 185, 186, 187, 188, 189, 190, 191, 192, 193, 194, 195, 197, 198, 199, 200, 201, 222, 223, 224, 225, 231, 232, 233, 234, 235, 236, 237, 238, 239, 240, 241, 242, 243, 244, 245, 246, 247, 248, 249, 250, 251, 253, 254, 255, 256, 258, 259, 260, 261, 262, 263, 269, 270, 271, 272, 274, 275, 276, 19, 277, 278, 62, 279, 280, 281, 282, 22, 283, 284, 285, 286, 287, 288, 289, 290, 291, 292, 293, 294, 295, 296, 297, 298, 299, 300, 301, 302, 303, 304, 305, 306, 307, 14, 16, 308, 309, 310, 311, 312, 313, 314, 315, 316, 317, 318, 319, 320, 321, 322, 323, 324, 325, 326, 330, 331, 332, 333, 334, 335, 336, 337, 409, 410, 411, 412, 413, 414, 415, 416, 417, 418, 419, 420, 421, 422, 423, 424, 425, 426, 427, 428, 429, 430, 431, 432, 433, 434, 435, 436, 437, 438, 439, 440, 441, 442, 443, 444, 445, 446, 447, 448, 449, 450, 451, 27, 452, 453, 454, 455, 456, 457, 490, 491, 492, 493, 494, 495, 496, 497, 498, 499, 500, 501, 502, 503, 504, 512, 513, 514, 515, 505, 506, 507, 508, 509, 510, 511] (by decide +kernel) (by decide +kernel)) (goodIn_sub (fun _ h => List.mem_append_left _ (List.mem_append_right _ h)) (by decide +kernel))) (goodIn_sub (fun _ h => List.mem_append_right _ h) (by decide +kernel))) (goodIn_sub (fun _ h => List.mem_append_left _ (List.mem_append_left _ (List.mem_append_right _ h))) (by decide +kernel))
set_option maxRecDepth 20000 in
theorem gL_law_L_refuses : GoodIn wsL_law (va_wsS RL 130 yL_refuses wsL_refuses) := goodIn_app (goodIn_of _ (by decide +kernel)) ggL_law_L_refuses
set_option maxRecDepth 20000 in
theorem ggL_law_L_cell : GoodIn wsL_law wsL_cell := goodIn_r _ [460, 461, 462] (by decide +kernel) (by decide +kernel)
set_option maxRecDepth 20000 in
theorem gL_law_L_cell : GoodIn wsL_law (va_wsS RL 133 yL_cell wsL_cell) := goodIn_app (goodIn_of _ (by decide +kernel)) ggL_law_L_cell
set_option maxRecDepth 20000 in
theorem ggL_law_L_isFull : GoodIn wsL_law wsL_isFull := goodIn_ca (goodIn_ca (goodIn_ca (goodIn_r _ [465, 63, 64, 65, 66, 67, 68, 69, 70, 71, 72, 2, 73, 74, 75, 76, 77, 78, 79, 80, 81, 82, 83, 84, 12, 85, 86, 87, 88, 89, 33, 90, 91, 92, 93, 94, 48, 95, 96, 97, 98, 99, 100, 101, 102, 103, 104, 13, 105, 106, 107, 108, 109, 110, 111, 11, 112, 34, 36, 43, 113, 114, 115, 116, 44, 117, 118, 119, 120, 121, 49, 50, 122, 123, 124, 26, 125, 55, 126, 127, 128, 129, 56, 130, 57, 131, 132, 133, 134, 135, 136, 137, 138, 139, 140, 141, 142, 143, 144, 145, 146, 147, 148, 149, 150, 151, 152, 153, 154, 155, 156, 157, 158, 159, 160, 161, 162, 163, 164, 165, 166, 167, 168, 169, 170, 171, 172, 173, 174, 175, 176, 177, 178, 179, 180, 181, 182, 183, 184, 185, 186, 187, 188, 189, 190, 191, 192, 193, 194, 195, 196, 197, 198, 199, 200, 201, 202, 203, 204, 205, 206, 207, 208, 209, 210, 211, 212, 213, 214, 215, 216, 217, 218, 219, 220, 221, 222, 223, 224, 225, 23, 226, 227, 228, 229, 230, 231, 232, 233, 234, 235, 236, 237, 238, 239, 240, 241, 242, 243, 244, 245, 246, 247, 248, 249, 250, 251, 252, 253, 254, 255, 256, 257, 258, 259, 260, 261, 262, 263, 264, 265, 266, 267, 268, 269, 270, 271, 272, 20, 273, 274, 275, 276, 19, 277, 278, 62, 279, 280, 281, 282, 22, 283, 284, 285, 286, 287, 288, 289, 290, 291, 292, 293, 294, 295, 296, 297, 298, 299, 300, 301, 302, 303, 304, 305, 306, 307, 14, 16, 308, 309, 310, 311, 312, 313, 314, 315, 316, 317, 318, 319, 320, 321, 322, 323, 324, 325, 326, 327, 328, 329, 330, 331, 332, 333, 334, 335, 336, 337, 466, 467, 468, 345, 346, 347, 348, 349, 350, 351, 352, 353, 354, 355, 356, 357, 358, 359, 360, 361, 362, 363, 364, 365, 366, 367, 368, 369, 370, 371, 372, 373, 374, 375, 376, 377, 378, 379, 380, 381, 382, 383, 384, 385, 386, 387, 388, 389, 390, 391, 392, 393, 394, 395, 396, 397, 398, 399, 400, 401, 402, 403, 404, 405, 338, 339, 340, 341, 469, 470, 471, 472, 473, 474, 475, 476, 477, 478, 479, 432, 433, 434, 435, 436, 437, 438, 439, 440, 441, 442, 443, 444, 445, 446, 447, 454, 455, 456, 457, 480, 481, 482, 483, 490, 491, 492, 493, 494, 495, 496, 497, 498, 499, 500, 501, 502, 512, 513, 514, 515, 505, 506, 507, 508, 509, 510, 511, 503, 504] (by decide +kernel) (by decide +kernel)) (goodIn_sub (fun _ h => List.mem_append_left _ (List.mem_append_left _ (List.mem_append_right _ h))) (by decide +kernel))) (goodIn_sub (fun _ h => List.mem_append_left _ (List.mem_append_right _ h)) (by decide +kernel))) (goodIn_sub (fun _ h => List.mem_append_right _ h) (by decide +kernel))
set_option maxRecDepth 20000 in
theorem gL_law_L_isFull : GoodIn wsL_law (va_wsS RL 137 yL_isFull wsL_isFull) := goodIn_app (goodIn_of _ (by decide +kernel)) ggL_law_L_isFull
set_option maxRecDepth 20000 in
theorem ggL_law_L_seen : GoodIn wsL_law wsL_seen := goodIn_ca (goodIn_ca (goodIn_r _ [347, 348, 349, 350, 351, 352, 2, 353, 12, 163, 104, 20, 273, 327, 328, 329, 79, 80, 354, 355, 356, 357, 86, 358, 359, 360, 361, 136, 196, 85, 230, 207, 208, 33, 209, 99, 210, 211, 212, 213, 50, 202, 203, 204, 205, 206, 214, 215, 216, 217, 49, 218, 219, 220, 221, 362, 363, 364, 365, 366, 367, 368, 369, 150, 151, 152, 153, 370, 371, 372, 373, 374, 375, 376, 252, 257, 158, 137, 377, 378, 379, 26, 380, 129, 127, 126, 381, 382, 383, 384, 56, 385, 386, 387, 388, 23, 226, 227, 228, 229, 48, 389, 390, 391, 392, 393, 394, 395, 396, 397, 398, 399, 400, 401, 402, 403, 404, 405, 338, 339, 340, 341, 177, 264, 265, 266, 267, 268, 490, 491, 492, 493, 494, 495, 496, 497, 498, 499, 500, 501, 502, 503, 504, 512, 513, 514, 515, 505, 506, 507, 508, 509, 510, 511] (by decide +kernel) (by decide +kernel)) (goodIn_sub (fun _ h => List.mem_append_left _ (List.mem_append_right _ h)) (by decide +kernel))) (goodIn_sub (fun _ h => List.mem_append_right _ h) (by decide +kernel))
set_option maxRecDepth 20000 in
theorem gL_law_L_seen : GoodIn wsL_law (va_wsS RL 108 yL_seen wsL_seen) := goodIn_app (goodIn_of _ (by decide +kernel)) ggL_law_L_seen
set_option maxRecDepth 20000 in
theorem ggL_law_X4_count : GoodIn wsL_law wsX4_count := goodIn_ca (goodIn_r _ [353, 12, 163, 104, 20, 273, 327, 328, 2, 329, 79, 80, 490, 491, 492, 493, 494, 495, 496, 497, 498, 499, 500, 501, 502, 503, 504] (by decide +kernel) (by decide +kernel)) (goodIn_sub (fun _ h => List.mem_append_left _ (List.mem_append_right _ h)) (by decide +kernel))
set_option maxRecDepth 20000 in
theorem gL_law_X4_count : GoodIn wsL_law (wsV RL 80 RX4 yX4_count wsX4_count) := goodIn_app (goodIn_of _ (by decide +kernel)) ggL_law_X4_count
set_option maxRecDepth 20000 in
theorem ggL_law_L_act : GoodIn wsL_law wsL_act := goodIn_ca (goodIn_ca (goodIn_ca (goodIn_r _ [486, 315, 316, 317, 2, 318, 12, 85, 76, 77, 78, 79, 80, 319, 320, 321, 33, 322, 50, 91, 92, 93, 94, 48, 95, 96, 97, 98, 99, 63, 64, 65, 66, 67, 68, 69, 70, 71, 72, 73, 74, 75, 81, 82, 83, 84, 86, 87, 88, 89, 90, 100, 101, 102, 103, 104, 13, 105, 106, 107, 108, 109, 110, 111, 11, 112, 34, 36, 43, 113, 114, 115, 116, 44, 117, 118, 119, 120, 121, 49, 122, 123, 124, 26, 125, 55, 126, 127, 128, 129, 56, 130, 57, 131, 132, 133, 134, 135, 136, 137, 138, 139, 140, 141, 142, 143, 144, 145, 146, 147, 148, 149, 150, 151, 152, 153, 154, 155, 156, 157, 158, 159, 160, 161, 162, 163, 164, 165, 166, 167, 168, 169, 170, 171, 172, 173, 174, 175, 176, 177, 178, 179, 180, 181, 182, 183, 184, 185, 186, 187, 188, 189, 190, 191, 192, 193, 194, 195, 196, 197, 198, 199, 200, 201, 202, 203, 204, 205, 206, 207, 208, 209, 210, 211, 212, 213, 214, 215, 216, 217, 218, 219, 220, 221, 222, 223, 224, 225, 23, 226, 227, 228, 229, 230, 231, 232, 233, 234, 235, 236, 237, 238, 239, 240, 241, 242, 243, 244, 245, 246, 247, 248, 249, 250, 251, 252, 253, 254, 255, 256, 257, 258, 259, 260, 261, 262, 263, 264, 265, 266, 267, 268, 269, 270, 271, 272, 20, 273, 274, 275, 276, 19, 277, 278, 62, 279, 280, 281, 282, 22, 283, 284, 285, 286, 287, 288, 289, 290, 291, 292, 293, 294, 295, 296, 297, 298, 299, 300, 301, 302, 303, 304, 305, 306, 307, 14, 16, 308, 309, 310, 311, 312, 313, 314, 323, 324, 325, 326, 327, 328, 329, 330, 331, 332, 333, 334, 335, 336, 337, 350, 351, 352, 353, 480, 481, 482, 483, 373, 374, 375, 376, 377, 378, 379, 380, 381, 382, 383, 384, 385, 386, 387, 388, 389, 390, 391, 392, 490, 491, 492, 493, 494, 495, 496, 497, 498, 499, 500, 501, 502, 512, 513, 514, 515, 505, 506, 507, 508, 509, 510, 511, 503, 504] (by decide +kernel) (by decide +kernel)) (goodIn_sub (fun _ h => List.mem_append_left _ (List.mem_append_right _ h)) (by decide +kernel))) (goodIn_sub (fun _ h => List.mem_append_left _ (List.mem_append_left _ (List.mem_append_right _ h))) (by decide +kernel))) (goodIn_sub (fun _ h => List.mem_append_right _ h) (by decide +kernel))
set_option maxRecDepth 20000 in
theorem gL_law_L_act : GoodIn wsL_law (va_wsS RL 140 yL_act wsL_act) := goodIn_app (goodIn_of _ (by decide +kernel)) ggL_law_L_act
set_option maxRecDepth 20000 in
theorem ggL_law_L_isSorted : GoodIn wsL_law wsL_isSorted := goodIn_ca (goodIn_r _ [489, 354, 355, 356, 2, 357, 86, 327, 328, 329, 79, 80, 358, 359, 360, 361, 12, 136, 196, 85, 230, 207, 208, 33, 209, 99, 210, 211, 212, 213, 50, 202, 203, 204, 205, 206, 214, 215, 216, 217, 49, 218, 219, 220, 221, 362, 363, 364, 365, 366, 367, 368, 369, 150, 151, 152, 153, 370, 371, 372, 420, 421, 422, 423, 23, 226, 227, 228, 229, 48, 315, 316, 317, 318, 76, 77, 78, 319, 320, 321, 322, 91, 92, 93, 94, 95, 96, 97, 98, 412, 413, 414, 415, 416, 417, 418, 419, 323, 324, 325, 326, 330, 331, 332, 333, 334, 335, 336, 337, 393, 394, 395, 396, 397, 398, 399, 400, 424, 425, 426, 427, 428, 429, 430, 431, 512, 513, 514, 515, 490, 491, 492, 493, 494, 495, 496, 497, 498, 499, 500, 501, 502, 505, 506, 507, 508, 509, 510, 511] (by decide +kernel) (by decide +kernel)) (goodIn_sub (fun _ h => List.mem_append_left _ (List.mem_append_right _ h)) (by decide +kernel))
set_option maxRecDepth 20000 in
theorem gL_law_L_isSorted : GoodIn wsL_law (va_wsS RL 144 yL_isSorted wsL_isSorted) := goodIn_app (goodIn_of _ (by decide +kernel)) ggL_law_L_isSorted
set_option maxRecDepth 20000 in
theorem ggL_law_X4_tree : GoodIn wsL_law wsX4_tree := goodIn_ca (goodIn_r _ [357, 86, 327, 328, 2, 329, 79, 80, 358, 359, 360, 361, 12, 136, 196, 85, 230, 207, 208, 33, 209, 99, 210, 211, 212, 213, 50, 202, 203, 204, 205, 206, 214, 215, 216, 217, 49, 218, 219, 220, 221, 362, 363, 364, 365, 366, 367, 368, 369, 150, 151, 152, 153, 370, 371, 372, 512, 513, 514, 515, 490, 491, 492, 493, 494, 495, 496, 497, 498, 499, 500, 501, 502, 505, 506, 507, 508, 509, 510, 511] (by decide +kernel) (by decide +kernel)) (goodIn_sub (fun _ h => List.mem_append_left _ (List.mem_append_right _ h)) (by decide +kernel))
set_option maxRecDepth 20000 in
theorem gL_law_X4_tree : GoodIn wsL_law (wsV RL 70 RX4 yX4_tree wsX4_tree) := goodIn_app (goodIn_of _ (by decide +kernel)) ggL_law_X4_tree
set_option maxRecDepth 20000 in
theorem ggL_law_X4_keep : GoodIn wsL_law wsX4_keep := goodIn_ca (goodIn_r _ [307, 14, 12, 16, 85, 308, 309, 2, 310, 79, 80, 109, 110, 111, 11, 112, 34, 36, 43, 113, 114, 115, 116, 44, 117, 118, 119, 33, 120, 99, 48, 121, 49, 50, 122, 123, 124, 26, 125, 55, 126, 127, 128, 129, 56, 130, 57, 131, 230, 207, 208, 209, 210, 211, 212, 213, 490, 491, 492, 493, 494, 495, 496, 497, 498, 499, 500, 501, 502, 512, 513, 514, 515, 505, 506, 507, 508, 509, 510, 511] (by decide +kernel) (by decide +kernel)) (goodIn_sub (fun _ h => List.mem_append_left _ (List.mem_append_right _ h)) (by decide +kernel))
set_option maxRecDepth 20000 in
theorem gL_law_X4_keep : GoodIn wsL_law (wsV RL 38 RX4 yX4_keep wsX4_keep) := goodIn_app (goodIn_of _ (by decide +kernel)) ggL_law_X4_keep
set_option maxRecDepth 20000 in
theorem ggL_law_X4_undo : GoodIn wsL_law wsX4_undo := goodIn_ca (goodIn_r _ [303, 74, 75, 104, 12, 13, 109, 110, 111, 11, 112, 34, 36, 43, 113, 114, 115, 116, 44, 117, 118, 119, 33, 120, 99, 48, 121, 49, 50, 122, 123, 124, 26, 125, 55, 126, 127, 128, 129, 56, 130, 57, 131, 490, 491, 492, 493, 494, 495, 496, 497, 498, 499, 500, 501, 502, 512, 513, 514, 515, 505, 506, 507, 508, 509, 510, 511] (by decide +kernel) (by decide +kernel)) (goodIn_sub (fun _ h => List.mem_append_left _ (List.mem_append_left _ (List.mem_append_right _ h))) (by decide +kernel))
set_option maxRecDepth 20000 in
theorem gL_law_X4_undo : GoodIn wsL_law (wsV RL 35 RX4 yX4_undo wsX4_undo) := goodIn_app (goodIn_of _ (by decide +kernel)) ggL_law_X4_undo
set_option maxRecDepth 20000 in
theorem ggL_law_X4_goBack : GoodIn wsL_law wsX4_goBack := goodIn_ca (goodIn_ca (goodIn_r _ [314, 74, 75, 16, 12, 14, 85, 308, 309, 2, 310, 79, 80, 100, 101, 102, 103, 104, 13, 105, 106, 107, 108, 109, 110, 111, 11, 112, 34, 36, 43, 113, 114, 115, 116, 44, 117, 118, 119, 33, 120, 99, 48, 121, 49, 50, 122, 123, 124, 26, 125, 55, 126, 127, 128, 129, 56, 130, 57, 131, 230, 207, 208, 209, 210, 211, 212, 213, 490, 491, 492, 493, 494, 495, 496, 497, 498, 499, 500, 501, 502, 512, 513, 514, 515, 505, 506, 507, 508, 509, 510, 511] (by decide +kernel) (by decide +kernel)) (goodIn_sub (fun _ h => List.mem_append_left _ (List.mem_append_left _ (List.mem_append_right _ h))) (by decide +kernel))) (goodIn_sub (fun _ h => List.mem_append_left _ (List.mem_append_right _ h)) (by decide +kernel))
set_option maxRecDepth 20000 in
theorem gL_law_X4_goBack : GoodIn wsL_law (wsV RL 41 RX4 yX4_goBack wsX4_goBack) := goodIn_app (goodIn_of _ (by decide +kernel)) ggL_law_X4_goBack
