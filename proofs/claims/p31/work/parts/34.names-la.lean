theorem dL_cell_0 : decode cL_cell 0 = .ok (.iload_n 1, 1) := by decide +kernel
theorem dL_cell_1 : decode cL_cell 1 = .ok (.aload_n 0, 1) := by decide +kernel
theorem dL_cell_2 : decode cL_cell 2 = .ok (.arraylength, 1) := by decide +kernel
theorem dL_cell_3 : decode cL_cell 3 = .ok (.if_icmp .ge 9, 3) := by decide +kernel
theorem dL_cell_6 : decode cL_cell 6 = .ok (.aload_n 0, 1) := by decide +kernel
theorem dL_cell_7 : decode cL_cell 7 = .ok (.iload_n 1, 1) := by decide +kernel
theorem dL_cell_8 : decode cL_cell 8 = .ok (.iaload, 1) := by decide +kernel
theorem dL_cell_9 : decode cL_cell 9 = .ok (.goto 14, 3) := by decide +kernel
theorem dL_cell_12 : decode cL_cell 12 = .ok (.ldc 7, 2) := by decide +kernel
theorem dL_cell_14 : decode cL_cell 14 = .ok (.iload_n 1, 1) := by decide +kernel
theorem dL_cell_15 : decode cL_cell 15 = .ok (.bipush 53, 2) := by decide +kernel
theorem dL_cell_17 : decode cL_cell 17 = .ok (.iadd, 1) := by decide +kernel
theorem dL_cell_18 : decode cL_cell 18 = .ok (.imul, 1) := by decide +kernel
theorem dL_cell_19 : decode cL_cell 19 = .ok (.sipush 11003, 3) := by decide +kernel
theorem dL_cell_22 : decode cL_cell 22 = .ok (.iadd, 1) := by decide +kernel
theorem dL_cell_23 : decode cL_cell 23 = .ok (.ldc 8, 2) := by decide +kernel
theorem dL_cell_25 : decode cL_cell 25 = .ok (.iand, 1) := by decide +kernel
theorem dL_cell_26 : decode cL_cell 26 = .ok (.ireturn, 1) := by decide +kernel
set_option maxRecDepth 20000 in
theorem ggL_call_X4_add : GoodIn wsL_call wsX4_add := goodIn_ca (goodIn_ca (goodIn_r _ [8, 9, 10, 11, 12, 7, 13, 14, 15, 16, 17, 18, 19, 20, 21, 22, 23, 24, 25, 26, 27, 28, 29, 30, 31, 32, 33, 34, 35, 36, 37, 38, 39, 40, 41, 42, 43, 44, 45, 46, 47, 48, 49, 50, 51, 52, 53, 54, 55, 56, 57, 58, 59, 60, 61, 62, 63, 64, 65, 66, 67, 68, 69, 70, 71, 72, 73, 74, 75, 76, 77, 78, 79, 80, 81, 82, 83, 84, 85, 86, 87, 88, 89, 90, 91, 92, 93, 94, 95, 96, 97, 98, 99, 100, 101, 102, 103, 104, 105, 106, 107, 108, 109, 110, 111, 112, 113, 114, 115, 116, 117, 118, 119, 120, 121, 122, 123, 124, 125, 126, 127, 128, 129, 130, 131, 132, 133, 134, 135, 136, 137, 138, 139, 140, 141, 142, 143, 144, 145, 146, 147, 148, 149, 150, 151, 152, 153, 154, 155, 156, 157, 158, 159, 160, 161, 162, 163, 164, 165, 166, 167, 168, 169, 170, 171, 172, 173, 174, 175, 176, 177, 178, 179, 180, 181, 182, 183, 184, 185, 186, 187, 188, 189, 190, 191, 192, 193, 194, 295, 296, 297, 298, 299, 300, 301, 302, 303, 304, 305, 306, 307, 308, 309, 310, 311, 312, 313, 314, 315, 316, 317, 318] (by decide +kernel) (by decide +kernel)) (goodIn_sub (fun _ h => List.mem_cons_of_mem _ (List.mem_append_left _ (List.mem_append_left _ (List.mem_append_right _ h)))) (by decide +kernel))) (goodIn_sub (fun _ h => List.mem_cons_of_mem _ (List.mem_append_left _ (List.mem_append_right _ h))) (by decide +kernel))
set_option maxRecDepth 20000 in
theorem gL_call_X4_add : GoodIn wsL_call (wsV RL 9 RX4 yX4_add wsX4_add) := goodIn_app (goodIn_of _ (by decide +kernel)) ggL_call_X4_add
set_option maxRecDepth 20000 in
theorem ggL_call_X4_remove : GoodIn wsL_call wsX4_remove := goodIn_ca (goodIn_r _ [198, 11, 12, 7, 13, 14, 15, 38, 39, 40, 41, 42, 43, 20, 44, 45, 46, 47, 48, 49, 50, 51, 52, 53, 54, 55, 56, 57, 58, 59, 60, 61, 62, 63, 26, 64, 37, 32, 65, 66, 67, 68, 69, 70, 71, 72, 73, 74, 75, 76, 77, 78, 79, 80, 81, 82, 83, 84, 85, 21, 86, 87, 88, 89, 90, 91, 33, 34, 35, 36, 92, 93, 94, 95, 96, 97, 98, 99, 100, 101, 102, 103, 104, 105, 106, 107, 108, 109, 110, 111, 112, 113, 114, 115, 116, 117, 118, 119, 120, 121, 122, 123, 124, 125, 126, 127, 128, 129, 130, 131, 132, 133, 134, 135, 136, 137, 138, 139, 140, 141, 142, 143, 144, 145, 146, 147, 148, 149, 150, 151, 22, 152, 153, 154, 155, 156, 157, 158, 159, 160, 161, 162, 163, 164, 165, 166, 167, 168, 169, 170, 171, 172, 173, 174, 175, 176, 177, 178, 179, 180, 181, 182, 183, 184, 185, 186, 187, 188, 189, 190, 191, 192, 193, 194, 295, 296, 297, 298, 299, 300, 301, 302, 303, 304, 305, 306, 307, 308, 309, 310, 311, 312, 313, 314, 315, 316, 317, 318] (by decide +kernel) (by decide +kernel)) (goodIn_sub (fun _ h => List.mem_cons_of_mem _ (List.mem_append_left _ (List.mem_append_right _ h))) (by decide +kernel))
set_option maxRecDepth 20000 in
theorem gL_call_X4_remove : GoodIn wsL_call (wsV RL 15 RX4 yX4_remove wsX4_remove) := goodIn_app (goodIn_of _ (by decide +kernel)) ggL_call_X4_remove
set_option maxRecDepth 20000 in
theorem ggL_call_X4_begin : GoodIn wsL_call wsX4_begin := goodIn_ca (goodIn_r _ [202, 9, 10, 20, 86, 87, 203, 38, 39, 40, 7, 41, 42, 43, 44, 45, 46, 47, 48, 49, 50, 51, 52, 53, 54, 55, 56, 57, 58, 59, 60, 61, 62, 63, 26, 64, 37, 32, 65, 66, 67, 68, 69, 70, 71, 72, 73, 74, 75, 76, 77, 78, 79, 80, 81, 172, 173, 174, 175, 21, 176, 113, 177, 178, 179, 180, 181, 157, 158, 159, 160, 161, 162, 163, 182, 183, 184, 185, 186, 115, 116, 117, 118, 187, 188, 189, 295, 296, 297, 298, 299, 300, 301, 302, 303, 304, 305, 306, 307, 312, 313, 314, 315, 316, 317, 318, 308, 309, 310, 311] (by decide +kernel) (by decide +kernel)) (goodIn_sub (fun _ h => List.mem_cons_of_mem _ (List.mem_append_left _ (List.mem_append_left _ (List.mem_append_right _ h)))) (by decide +kernel))
set_option maxRecDepth 20000 in
theorem gL_call_X4_begin : GoodIn wsL_call (wsV RL 18 RX4 yX4_begin wsX4_begin) := goodIn_app (goodIn_of _ (by decide +kernel)) ggL_call_X4_begin
set_option maxRecDepth 20000 in
theorem ggL_call_X4_abandon : GoodIn wsL_call wsX4_abandon := goodIn_ca (goodIn_r _ [207, 9, 10, 20, 86, 87, 208, 38, 39, 40, 7, 41, 42, 43, 44, 45, 46, 47, 48, 49, 50, 51, 52, 53, 54, 55, 56, 57, 58, 59, 60, 61, 62, 63, 26, 64, 37, 32, 65, 66, 67, 68, 69, 70, 71, 72, 73, 74, 75, 76, 77, 78, 79, 80, 81, 109, 110, 111, 112, 113, 114, 115, 116, 117, 118, 295, 296, 297, 298, 299, 300, 301, 302, 303, 304, 305, 306, 307, 312, 313, 314, 315, 316, 317, 318, 308, 309, 310, 311] (by decide +kernel) (by decide +kernel)) (goodIn_sub (fun _ h => List.mem_cons_of_mem _ (List.mem_append_left _ (List.mem_append_left _ (List.mem_append_right _ h)))) (by decide +kernel))
set_option maxRecDepth 20000 in
theorem gL_call_X4_abandon : GoodIn wsL_call (wsV RL 22 RX4 yX4_abandon wsX4_abandon) := goodIn_app (goodIn_of _ (by decide +kernel)) ggL_call_X4_abandon
set_option maxRecDepth 20000 in
theorem ggL_call_X4_set : GoodIn wsL_call wsX4_set := goodIn_ca (goodIn_ca (goodIn_r _ [212, 14, 15, 213, 214, 20, 127, 215, 216, 7, 217, 218, 219, 38, 39, 40, 41, 42, 43, 44, 45, 46, 47, 48, 49, 50, 51, 52, 53, 54, 55, 56, 57, 58, 59, 60, 61, 62, 63, 26, 64, 37, 32, 65, 66, 67, 68, 69, 70, 71, 72, 73, 74, 75, 76, 77, 78, 79, 80, 81, 295, 296, 297, 298, 299, 300, 301, 302, 303, 304, 305, 306, 307, 308, 309, 310, 311, 312, 313, 314, 315, 316, 317, 318] (by decide +kernel) (by decide +kernel)) (goodIn_sub (fun _ h => List.mem_cons_of_mem _ (List.mem_append_left _ (List.mem_append_right _ h))) (by decide +kernel))) (goodIn_sub (fun _ h => List.mem_cons_of_mem _ (List.mem_append_right _ h)) (by decide +kernel))
set_option maxRecDepth 20000 in
theorem gL_call_X4_set : GoodIn wsL_call (wsV RL 25 RX4 yX4_set wsX4_set) := goodIn_app (goodIn_of _ (by decide +kernel)) ggL_call_X4_set
set_option maxRecDepth 20000 in
theorem ggL_call_X4_append : GoodIn wsL_call wsX4_append := goodIn_ca (goodIn_ca (goodIn_r _ [223, 14, 15, 9, 10, 224, 225, 226, 227, 228, 229, 230, 231, 232, 295, 296, 297, 298, 299, 300, 301, 302, 303, 319, 320] (by decide +kernel) (by decide +kernel)) (goodIn_sub (fun _ h => List.mem_cons_of_mem _ (List.mem_append_left _ (List.mem_append_right _ h))) (by decide +kernel))) (goodIn_sub (fun _ h => List.mem_cons_of_mem _ (List.mem_append_left _ (List.mem_append_left _ (List.mem_append_right _ h)))) (by decide +kernel))
set_option maxRecDepth 20000 in
theorem gL_call_X4_append : GoodIn wsL_call (wsV RL 29 RX4 yX4_append wsX4_append) := goodIn_app (goodIn_of _ (by decide +kernel)) ggL_call_X4_append
set_option maxRecDepth 20000 in
theorem ggL_call_X4_execute : GoodIn wsL_call wsX4_execute := goodIn_ca (goodIn_r _ [236, 14, 15, 224, 237, 225, 238, 239, 240, 229, 241, 231, 232, 242, 243, 244, 245, 246, 247, 248, 249, 250, 38, 39, 40, 7, 41, 42, 43, 20, 44, 45, 46, 47, 48, 49, 50, 51, 52, 53, 54, 55, 56, 57, 58, 59, 60, 61, 62, 63, 26, 64, 37, 32, 65, 66, 67, 68, 69, 70, 71, 72, 73, 74, 75, 76, 77, 78, 79, 80, 81, 251, 252, 253, 254, 16, 17, 18, 19, 21, 22, 23, 24, 25, 27, 28, 29, 30, 31, 33, 34, 35, 36, 82, 83, 84, 85, 86, 87, 88, 89, 90, 91, 92, 93, 94, 95, 96, 97, 98, 99, 100, 101, 102, 103, 104, 105, 106, 107, 108, 109, 110, 111, 112, 113, 114, 115, 116, 117, 118, 119, 120, 121, 122, 123, 124, 125, 126, 127, 128, 129, 130, 131, 132, 133, 134, 135, 136, 137, 138, 139, 140, 141, 142, 143, 144, 145, 146, 147, 148, 149, 150, 151, 152, 153, 154, 155, 156, 157, 158, 159, 160, 161, 162, 163, 164, 165, 166, 167, 168, 169, 170, 171, 172, 173, 174, 175, 176, 177, 178, 179, 180, 181, 182, 183, 184, 185, 186, 187, 188, 189, 190, 191, 192, 193, 194, 295, 296, 297, 298, 299, 300, 301, 302, 303, 319, 320, 304, 305, 306, 307, 308, 309, 310, 311, 312, 313, 314, 315, 316, 317, 318] (by decide +kernel) (by decide +kernel)) (goodIn_sub (fun _ h => List.mem_cons_of_mem _ (List.mem_append_left _ (List.mem_append_right _ h))) (by decide +kernel))
set_option maxRecDepth 20000 in
theorem gL_call_X4_execute : GoodIn wsL_call (wsV RL 32 RX4 yX4_execute wsX4_execute) := goodIn_app (goodIn_of _ (by decide +kernel)) ggL_call_X4_execute
set_option maxRecDepth 20000 in
theorem ggL_call_X4_undo : GoodIn wsL_call wsX4_undo := goodIn_ca (goodIn_r _ [258, 9, 10, 42, 20, 43, 48, 49, 50, 51, 52, 53, 54, 55, 56, 57, 58, 59, 60, 61, 62, 63, 26, 64, 37, 32, 65, 66, 67, 68, 69, 70, 71, 72, 73, 74, 75, 76, 77, 78, 79, 80, 81, 295, 296, 297, 298, 299, 300, 301, 302, 303, 304, 305, 306, 307, 308, 309, 310, 311, 312, 313, 314, 315, 316, 317, 318] (by decide +kernel) (by decide +kernel)) (goodIn_sub (fun _ h => List.mem_cons_of_mem _ (List.mem_append_left _ (List.mem_append_left _ (List.mem_append_right _ h)))) (by decide +kernel))
set_option maxRecDepth 20000 in
theorem gL_call_X4_undo : GoodIn wsL_call (wsV RL 35 RX4 yX4_undo wsX4_undo) := goodIn_app (goodIn_of _ (by decide +kernel)) ggL_call_X4_undo
set_option maxRecDepth 20000 in
theorem ggL_call_X4_keep : GoodIn wsL_call wsX4_keep := goodIn_ca (goodIn_r _ [262, 263, 20, 264, 21, 265, 266, 7, 267, 14, 15, 48, 49, 50, 51, 52, 53, 54, 55, 56, 57, 58, 59, 60, 61, 62, 63, 26, 64, 37, 32, 65, 66, 67, 68, 69, 70, 71, 72, 73, 74, 75, 76, 77, 78, 79, 80, 81, 181, 157, 158, 159, 160, 161, 162, 163, 295, 296, 297, 298, 299, 300, 301, 302, 303, 304, 305, 306, 307, 308, 309, 310, 311, 312, 313, 314, 315, 316, 317, 318] (by decide +kernel) (by decide +kernel)) (goodIn_sub (fun _ h => List.mem_cons_of_mem _ (List.mem_append_left _ (List.mem_append_right _ h))) (by decide +kernel))
set_option maxRecDepth 20000 in
theorem gL_call_X4_keep : GoodIn wsL_call (wsV RL 38 RX4 yX4_keep wsX4_keep) := goodIn_app (goodIn_of _ (by decide +kernel)) ggL_call_X4_keep
set_option maxRecDepth 20000 in
theorem ggL_call_X4_goBack : GoodIn wsL_call wsX4_goBack := goodIn_ca (goodIn_ca (goodIn_r _ [271, 9, 10, 264, 20, 263, 21, 265, 266, 7, 267, 14, 15, 38, 39, 40, 41, 42, 43, 44, 45, 46, 47, 48, 49, 50, 51, 52, 53, 54, 55, 56, 57, 58, 59, 60, 61, 62, 63, 26, 64, 37, 32, 65, 66, 67, 68, 69, 70, 71, 72, 73, 74, 75, 76, 77, 78, 79, 80, 81, 181, 157, 158, 159, 160, 161, 162, 163, 295, 296, 297, 298, 299, 300, 301, 302, 303, 304, 305, 306, 307, 308, 309, 310, 311, 312, 313, 314, 315, 316, 317, 318] (by decide +kernel) (by decide +kernel)) (goodIn_sub (fun _ h => List.mem_cons_of_mem _ (List.mem_append_left _ (List.mem_append_left _ (List.mem_append_right _ h)))) (by decide +kernel))) (goodIn_sub (fun _ h => List.mem_cons_of_mem _ (List.mem_append_left _ (List.mem_append_right _ h))) (by decide +kernel))
set_option maxRecDepth 20000 in
theorem gL_call_X4_goBack : GoodIn wsL_call (wsV RL 41 RX4 yX4_goBack wsX4_goBack) := goodIn_app (goodIn_of _ (by decide +kernel)) ggL_call_X4_goBack
set_option maxRecDepth 20000 in
theorem ggL_call_X4_contains : GoodIn wsL_call wsX4_contains := goodIn_ca (goodIn_r _ [275, 20, 21, 11, 12, 7, 13, 14, 15, 276, 277, 278, 26, 279, 67, 28, 29, 30, 31, 32, 33, 34, 35, 36, 37, 295, 296, 297, 298, 299, 300, 301, 302, 303, 304, 305, 306, 307, 308, 309, 310, 311] (by decide +kernel) (by decide +kernel)) (goodIn_sub (fun _ h => List.mem_cons_of_mem _ (List.mem_append_left _ (List.mem_append_right _ h))) (by decide +kernel))
set_option maxRecDepth 20000 in
theorem gL_call_X4_contains : GoodIn wsL_call (wsV RL 44 RX4 yX4_contains wsX4_contains) := goodIn_app (goodIn_of _ (by decide +kernel)) ggL_call_X4_contains
set_option maxRecDepth 20000 in
theorem ggL_call_X4_near : GoodIn wsL_call wsX4_near := goodIn_ca (goodIn_r _ [283, 20, 21, 11, 12, 7, 13, 14, 15, 284, 285, 286, 287, 288, 289, 26, 290, 37, 67, 32, 291, 292, 293, 294, 295, 296, 297, 298, 299, 300, 301, 302, 303, 304, 305, 306, 307, 308, 309, 310, 311] (by decide +kernel) (by decide +kernel)) (goodIn_sub (fun _ h => List.mem_cons_of_mem _ (List.mem_append_left _ (List.mem_append_right _ h))) (by decide +kernel))
set_option maxRecDepth 20000 in
theorem gL_call_X4_near : GoodIn wsL_call (wsV RL 48 RX4 yX4_near wsX4_near) := goodIn_app (goodIn_of _ (by decide +kernel)) ggL_call_X4_near
theorem dL_call_0 : decode cL_call 0 = .ok (.iload_n 1, 1) := by decide +kernel
theorem dL_call_1 : decode cL_call 1 = .ok (.ifCond .ne 11, 3) := by decide +kernel
theorem dL_call_4 : decode cL_call 4 = .ok (.aload_n 0, 1) := by decide +kernel
theorem dL_call_5 : decode cL_call 5 = .ok (.iload_n 2, 1) := by decide +kernel
theorem dL_call_6 : decode cL_call 6 = .ok (.invokevirtual 9, 3) := by decide +kernel
theorem dL_call_9 : decode cL_call 9 = .ok (.goto 149, 3) := by decide +kernel
theorem dL_call_12 : decode cL_call 12 = .ok (.iload_n 1, 1) := by decide +kernel
theorem dL_call_13 : decode cL_call 13 = .ok (.iconst 1, 1) := by decide +kernel
theorem dL_call_14 : decode cL_call 14 = .ok (.if_icmp .ne 11, 3) := by decide +kernel
theorem dL_call_17 : decode cL_call 17 = .ok (.aload_n 0, 1) := by decide +kernel
theorem dL_call_18 : decode cL_call 18 = .ok (.iload_n 2, 1) := by decide +kernel
theorem dL_call_19 : decode cL_call 19 = .ok (.invokevirtual 15, 3) := by decide +kernel
theorem dL_call_22 : decode cL_call 22 = .ok (.goto 136, 3) := by decide +kernel
theorem dL_call_25 : decode cL_call 25 = .ok (.iload_n 1, 1) := by decide +kernel
theorem dL_call_26 : decode cL_call 26 = .ok (.iconst 2, 1) := by decide +kernel
theorem dL_call_27 : decode cL_call 27 = .ok (.if_icmp .ne 10, 3) := by decide +kernel
theorem dL_call_30 : decode cL_call 30 = .ok (.aload_n 0, 1) := by decide +kernel
theorem dL_call_31 : decode cL_call 31 = .ok (.invokevirtual 18, 3) := by decide +kernel
theorem dL_call_34 : decode cL_call 34 = .ok (.goto 124, 3) := by decide +kernel
theorem dL_call_37 : decode cL_call 37 = .ok (.iload_n 1, 1) := by decide +kernel
theorem dL_call_38 : decode cL_call 38 = .ok (.iconst 3, 1) := by decide +kernel
theorem dL_call_39 : decode cL_call 39 = .ok (.if_icmp .ne 10, 3) := by decide +kernel
theorem dL_call_42 : decode cL_call 42 = .ok (.aload_n 0, 1) := by decide +kernel
theorem dL_call_43 : decode cL_call 43 = .ok (.invokevirtual 22, 3) := by decide +kernel
theorem dL_call_46 : decode cL_call 46 = .ok (.goto 112, 3) := by decide +kernel
theorem dL_call_49 : decode cL_call 49 = .ok (.iload_n 1, 1) := by decide +kernel
theorem dL_call_50 : decode cL_call 50 = .ok (.iconst 4, 1) := by decide +kernel
theorem dL_call_51 : decode cL_call 51 = .ok (.if_icmp .ne 12, 3) := by decide +kernel
theorem dL_call_54 : decode cL_call 54 = .ok (.aload_n 0, 1) := by decide +kernel
theorem dL_call_55 : decode cL_call 55 = .ok (.iload_n 2, 1) := by decide +kernel
theorem dL_call_56 : decode cL_call 56 = .ok (.iload_n 3, 1) := by decide +kernel
theorem dL_call_57 : decode cL_call 57 = .ok (.invokevirtual 25, 3) := by decide +kernel
theorem dL_call_60 : decode cL_call 60 = .ok (.goto 98, 3) := by decide +kernel
theorem dL_call_63 : decode cL_call 63 = .ok (.iload_n 1, 1) := by decide +kernel
theorem dL_call_64 : decode cL_call 64 = .ok (.iconst 5, 1) := by decide +kernel
theorem dL_call_65 : decode cL_call 65 = .ok (.if_icmp .ne 11, 3) := by decide +kernel
theorem dL_call_68 : decode cL_call 68 = .ok (.aload_n 0, 1) := by decide +kernel
theorem dL_call_69 : decode cL_call 69 = .ok (.iload_n 2, 1) := by decide +kernel
theorem dL_call_70 : decode cL_call 70 = .ok (.invokevirtual 29, 3) := by decide +kernel
theorem dL_call_73 : decode cL_call 73 = .ok (.goto 85, 3) := by decide +kernel
theorem dL_call_76 : decode cL_call 76 = .ok (.iload_n 1, 1) := by decide +kernel
theorem dL_call_77 : decode cL_call 77 = .ok (.bipush 6, 2) := by decide +kernel
theorem dL_call_79 : decode cL_call 79 = .ok (.if_icmp .ne 10, 3) := by decide +kernel
theorem dL_call_82 : decode cL_call 82 = .ok (.aload_n 0, 1) := by decide +kernel
theorem dL_call_83 : decode cL_call 83 = .ok (.invokevirtual 32, 3) := by decide +kernel
theorem dL_call_86 : decode cL_call 86 = .ok (.goto 72, 3) := by decide +kernel
theorem dL_call_89 : decode cL_call 89 = .ok (.iload_n 1, 1) := by decide +kernel
theorem dL_call_90 : decode cL_call 90 = .ok (.bipush 7, 2) := by decide +kernel
theorem dL_call_92 : decode cL_call 92 = .ok (.if_icmp .ne 10, 3) := by decide +kernel
theorem dL_call_95 : decode cL_call 95 = .ok (.aload_n 0, 1) := by decide +kernel
theorem dL_call_96 : decode cL_call 96 = .ok (.invokevirtual 35, 3) := by decide +kernel
theorem dL_call_99 : decode cL_call 99 = .ok (.goto 59, 3) := by decide +kernel
theorem dL_call_102 : decode cL_call 102 = .ok (.iload_n 1, 1) := by decide +kernel
theorem dL_call_103 : decode cL_call 103 = .ok (.bipush 8, 2) := by decide +kernel
theorem dL_call_105 : decode cL_call 105 = .ok (.if_icmp .ne 11, 3) := by decide +kernel
theorem dL_call_108 : decode cL_call 108 = .ok (.aload_n 0, 1) := by decide +kernel
theorem dL_call_109 : decode cL_call 109 = .ok (.iload_n 2, 1) := by decide +kernel
theorem dL_call_110 : decode cL_call 110 = .ok (.invokevirtual 38, 3) := by decide +kernel
theorem dL_call_113 : decode cL_call 113 = .ok (.goto 45, 3) := by decide +kernel
theorem dL_call_116 : decode cL_call 116 = .ok (.iload_n 1, 1) := by decide +kernel
theorem dL_call_117 : decode cL_call 117 = .ok (.bipush 9, 2) := by decide +kernel
theorem dL_call_119 : decode cL_call 119 = .ok (.if_icmp .ne 11, 3) := by decide +kernel
theorem dL_call_122 : decode cL_call 122 = .ok (.aload_n 0, 1) := by decide +kernel
theorem dL_call_123 : decode cL_call 123 = .ok (.iload_n 2, 1) := by decide +kernel
theorem dL_call_124 : decode cL_call 124 = .ok (.invokevirtual 41, 3) := by decide +kernel
theorem dL_call_127 : decode cL_call 127 = .ok (.goto 31, 3) := by decide +kernel
theorem dL_call_130 : decode cL_call 130 = .ok (.iload_n 1, 1) := by decide +kernel
theorem dL_call_131 : decode cL_call 131 = .ok (.bipush 10, 2) := by decide +kernel
theorem dL_call_133 : decode cL_call 133 = .ok (.if_icmp .ne 19, 3) := by decide +kernel
theorem dL_call_136 : decode cL_call 136 = .ok (.aload_n 0, 1) := by decide +kernel
theorem dL_call_137 : decode cL_call 137 = .ok (.iload_n 2, 1) := by decide +kernel
theorem dL_call_138 : decode cL_call 138 = .ok (.invokevirtual 44, 3) := by decide +kernel
theorem dL_call_141 : decode cL_call 141 = .ok (.ifCond .eq 7, 3) := by decide +kernel
theorem dL_call_144 : decode cL_call 144 = .ok (.iconst 1, 1) := by decide +kernel
theorem dL_call_145 : decode cL_call 145 = .ok (.goto 13, 3) := by decide +kernel
theorem dL_call_148 : decode cL_call 148 = .ok (.iconst 0, 1) := by decide +kernel
theorem dL_call_149 : decode cL_call 149 = .ok (.goto 9, 3) := by decide +kernel
theorem dL_call_152 : decode cL_call 152 = .ok (.aload_n 0, 1) := by decide +kernel
theorem dL_call_153 : decode cL_call 153 = .ok (.iload_n 2, 1) := by decide +kernel
theorem dL_call_154 : decode cL_call 154 = .ok (.iload_n 3, 1) := by decide +kernel
theorem dL_call_155 : decode cL_call 155 = .ok (.invokevirtual 48, 3) := by decide +kernel
theorem dL_call_158 : decode cL_call 158 = .ok (.ireturn, 1) := by decide +kernel
theorem dL_call_159 : decode cL_call 159 = .ok (.astore 4, 2) := by decide +kernel
theorem dL_call_161 : decode cL_call 161 = .ok (.bipush (-10), 2) := by decide +kernel
theorem dL_call_163 : decode cL_call 163 = .ok (.ireturn, 1) := by decide +kernel
theorem dL_call_164 : decode cL_call 164 = .ok (.astore 4, 2) := by decide +kernel
theorem dL_call_166 : decode cL_call 166 = .ok (.bipush (-11), 2) := by decide +kernel
theorem dL_call_168 : decode cL_call 168 = .ok (.ireturn, 1) := by decide +kernel
theorem dL_call_169 : decode cL_call 169 = .ok (.astore 4, 2) := by decide +kernel
theorem dL_call_171 : decode cL_call 171 = .ok (.bipush (-12), 2) := by decide +kernel
theorem dL_call_173 : decode cL_call 173 = .ok (.ireturn, 1) := by decide +kernel
theorem dL_keyOf_0 : decode cL_keyOf 0 = .ok (.iconst 4, 1) := by decide +kernel
theorem dL_keyOf_1 : decode cL_keyOf 1 = .ok (.iload_n 0, 1) := by decide +kernel
theorem dL_keyOf_2 : decode cL_keyOf 2 = .ok (.imul, 1) := by decide +kernel
theorem dL_keyOf_3 : decode cL_keyOf 3 = .ok (.iconst 1, 1) := by decide +kernel
theorem dL_keyOf_4 : decode cL_keyOf 4 = .ok (.iadd, 1) := by decide +kernel
theorem dL_keyOf_5 : decode cL_keyOf 5 = .ok (.ireturn, 1) := by decide +kernel
