set_option maxRecDepth 20000 in
theorem ggL_ask_X4_rank : GoodIn wsL_ask wsX4_rank := goodIn_ca (goodIn_r _ [7, 8, 9, 10, 11, 6, 12, 13, 14, 15, 16, 17, 18, 19, 20, 21, 22, 218, 219, 220, 221, 222, 223, 224, 225, 226, 227, 228, 229, 230, 231, 232, 233, 234] (by decide +kernel) (by decide +kernel)) (goodIn_sub (fun _ h => List.mem_cons_of_mem _ (List.mem_append_left _ (List.mem_append_right _ h))) (by decide +kernel))
set_option maxRecDepth 20000 in
theorem gL_ask_X4_rank : GoodIn wsL_ask (wsV RL 57 RX4 yX4_rank wsX4_rank) := goodIn_app (goodIn_of _ (by decide +kernel)) ggL_ask_X4_rank
set_option maxRecDepth 20000 in
theorem ggL_ask_X4_keyAt : GoodIn wsL_ask wsX4_keyAt := goodIn_ca (goodIn_r _ [26, 13, 14, 8, 9, 27, 28, 29, 30, 18, 31, 20, 22, 21, 218, 219, 220, 221, 222, 223, 224, 225, 226, 227, 228, 229, 230, 231, 232, 233, 234] (by decide +kernel) (by decide +kernel)) (goodIn_sub (fun _ h => List.mem_cons_of_mem _ (List.mem_append_left _ (List.mem_append_right _ h))) (by decide +kernel))
set_option maxRecDepth 20000 in
theorem gL_ask_X4_keyAt : GoodIn wsL_ask (wsV RL 60 RX4 yX4_keyAt wsX4_keyAt) := goodIn_app (goodIn_of _ (by decide +kernel)) ggL_ask_X4_keyAt
set_option maxRecDepth 20000 in
theorem ggL_ask_X4_node : GoodIn wsL_ask wsX4_node := goodIn_ca (goodIn_r _ [35, 13, 14, 36, 37, 38, 6, 39, 40, 41, 42, 43, 8, 44, 45, 9, 46, 47, 48, 18, 49, 22, 21, 50, 51, 52, 53, 54, 20, 55, 56, 57, 58, 231, 232, 233, 234, 218, 219, 220, 221, 222, 223, 224, 225, 226, 227, 228, 229, 230, 235, 236, 237, 238, 239, 240, 241] (by decide +kernel) (by decide +kernel)) (goodIn_sub (fun _ h => List.mem_cons_of_mem _ (List.mem_append_left _ (List.mem_append_right _ h))) (by decide +kernel))
set_option maxRecDepth 20000 in
theorem gL_ask_X4_node : GoodIn wsL_ask (wsV RL 63 RX4 yX4_node wsX4_node) := goodIn_app (goodIn_of _ (by decide +kernel)) ggL_ask_X4_node
set_option maxRecDepth 20000 in
theorem ggL_ask_X4_path : GoodIn wsL_ask wsX4_path := goodIn_ca (goodIn_r _ [62, 13, 14, 8, 9, 10, 11, 6, 12, 63, 64, 65, 18, 66, 50, 22, 67, 68, 69, 70, 20, 218, 219, 220, 221, 222, 223, 224, 225, 226, 227, 228, 229, 230, 231, 232, 233, 234] (by decide +kernel) (by decide +kernel)) (goodIn_sub (fun _ h => List.mem_cons_of_mem _ (List.mem_append_left _ (List.mem_append_right _ h))) (by decide +kernel))
set_option maxRecDepth 20000 in
theorem gL_ask_X4_path : GoodIn wsL_ask (wsV RL 67 RX4 yX4_path wsX4_path) := goodIn_app (goodIn_of _ (by decide +kernel)) ggL_ask_X4_path
set_option maxRecDepth 20000 in
theorem ggL_ask_X4_tree : GoodIn wsL_ask wsX4_tree := goodIn_ca (goodIn_r _ [74, 36, 37, 38, 6, 39, 13, 14, 40, 41, 42, 43, 8, 44, 45, 9, 75, 76, 77, 18, 78, 20, 55, 56, 57, 58, 21, 79, 80, 81, 82, 83, 84, 85, 86, 87, 50, 88, 89, 90, 91, 92, 93, 94, 95, 96, 97, 98, 99, 51, 52, 53, 54, 100, 101, 102, 231, 232, 233, 234, 218, 219, 220, 221, 222, 223, 224, 225, 226, 227, 228, 229, 230, 235, 236, 237, 238, 239, 240, 241] (by decide +kernel) (by decide +kernel)) (goodIn_sub (fun _ h => List.mem_cons_of_mem _ (List.mem_append_left _ (List.mem_append_right _ h))) (by decide +kernel))
set_option maxRecDepth 20000 in
theorem gL_ask_X4_tree : GoodIn wsL_ask (wsV RL 70 RX4 yX4_tree wsX4_tree) := goodIn_app (goodIn_of _ (by decide +kernel)) ggL_ask_X4_tree
set_option maxRecDepth 20000 in
theorem ggL_ask_X4_rebuild : GoodIn wsL_ask wsX4_rebuild := goodIn_ca (goodIn_r _ [106, 8, 44, 107, 108, 109, 110, 37, 38, 6, 39, 13, 14, 111, 112, 113, 114, 115, 116, 117, 118, 119, 120, 121, 122, 123, 124, 125, 126, 127, 45, 9, 27, 28, 29, 30, 18, 31, 20, 22, 21, 128, 129, 130, 131, 75, 76, 77, 78, 55, 56, 57, 58, 218, 219, 220, 221, 222, 223, 224, 225, 226, 227, 228, 229, 230, 235, 236, 237, 238, 239, 240, 241, 231, 232, 233, 234] (by decide +kernel) (by decide +kernel)) (goodIn_sub (fun _ h => List.mem_cons_of_mem _ (List.mem_append_left _ (List.mem_append_right _ h))) (by decide +kernel))
set_option maxRecDepth 20000 in
theorem gL_ask_X4_rebuild : GoodIn wsL_ask (wsV RL 74 RX4 yX4_rebuild wsX4_rebuild) := goodIn_app (goodIn_of _ (by decide +kernel)) ggL_ask_X4_rebuild
set_option maxRecDepth 20000 in
theorem ggL_ask_X4_queued : GoodIn wsL_ask wsX4_queued := goodIn_ca (goodIn_r _ [135, 13, 14, 8, 44, 109, 136, 218, 219, 220, 221, 222, 223, 224, 225, 226, 227, 228, 229, 230, 235, 236, 237, 238, 239, 240, 241] (by decide +kernel) (by decide +kernel)) (goodIn_sub (fun _ h => List.mem_cons_of_mem _ (List.mem_append_left _ (List.mem_append_right _ h))) (by decide +kernel))
set_option maxRecDepth 20000 in
theorem gL_ask_X4_queued : GoodIn wsL_ask (wsV RL 77 RX4 yX4_queued wsX4_queued) := goodIn_app (goodIn_of _ (by decide +kernel)) ggL_ask_X4_queued
set_option maxRecDepth 20000 in
theorem ggL_ask_X4_count : GoodIn wsL_ask wsX4_count := goodIn_ca (goodIn_r _ [140, 8, 141, 142, 143, 144, 37, 38, 6, 39, 13, 14, 218, 219, 220, 221, 222, 223, 224, 225, 226, 227, 228, 229, 230, 242, 243] (by decide +kernel) (by decide +kernel)) (goodIn_sub (fun _ h => List.mem_cons_of_mem _ (List.mem_append_left _ (List.mem_append_right _ h))) (by decide +kernel))
set_option maxRecDepth 20000 in
theorem gL_ask_X4_count : GoodIn wsL_ask (wsV RL 80 RX4 yX4_count wsX4_count) := goodIn_app (goodIn_of _ (by decide +kernel)) ggL_ask_X4_count
set_option maxRecDepth 20000 in
theorem ggL_ask_X4_setting : GoodIn wsL_ask wsX4_setting := goodIn_ca (goodIn_r _ [148, 8, 149, 150, 151, 6, 152, 153, 154, 218, 219, 220, 221, 222, 223, 224, 225, 226, 227, 228, 229, 230] (by decide +kernel) (by decide +kernel)) (goodIn_sub (fun _ h => List.mem_cons_of_mem _ (List.mem_append_right _ h)) (by decide +kernel))
set_option maxRecDepth 20000 in
theorem gL_ask_X4_setting : GoodIn wsL_ask (wsV RL 83 RX4 yX4_setting wsX4_setting) := goodIn_app (goodIn_of _ (by decide +kernel)) ggL_ask_X4_setting
set_option maxRecDepth 20000 in
theorem ggL_ask_X4_untilExchange : GoodIn wsL_ask wsX4_untilExchange := goodIn_ca (goodIn_r _ [158, 8, 44, 110, 159, 160, 6, 161, 13, 14, 162, 163, 164, 114, 165, 166, 167, 168, 169, 118, 117, 170, 171, 89, 90, 91, 218, 219, 220, 221, 222, 223, 224, 225, 226, 227, 228, 229, 230, 235, 236, 237, 238, 239, 240, 241] (by decide +kernel) (by decide +kernel)) (goodIn_sub (fun _ h => List.mem_cons_of_mem _ (List.mem_append_left _ (List.mem_append_right _ h))) (by decide +kernel))
set_option maxRecDepth 20000 in
theorem gL_ask_X4_untilExchange : GoodIn wsL_ask (wsV RL 86 RX4 yX4_untilExchange wsX4_untilExchange) := goodIn_app (goodIn_of _ (by decide +kernel)) ggL_ask_X4_untilExchange
set_option maxRecDepth 20000 in
theorem ggL_ask_X4_longest : GoodIn wsL_ask wsX4_longest := goodIn_ca (goodIn_r _ [175, 8, 44, 110, 176, 177, 89, 90, 91, 159, 160, 6, 161, 13, 14, 178, 179, 180, 114, 181, 182, 118, 117, 170, 116, 123, 183, 184, 185, 186, 187, 188, 189, 190, 18, 191, 20, 22, 192, 50, 21, 193, 167, 168, 169, 171, 194, 195, 196, 197, 198, 199, 200, 201, 67, 68, 69, 70, 202, 203, 204, 205, 51, 52, 53, 54, 206, 207, 208, 209, 210, 211, 212, 213, 218, 219, 220, 221, 222, 223, 224, 225, 226, 227, 228, 229, 230, 235, 236, 237, 238, 239, 240, 241, 231, 232, 233, 234] (by decide +kernel) (by decide +kernel)) (goodIn_sub (fun _ h => List.mem_cons_of_mem _ (List.mem_append_left _ (List.mem_append_right _ h))) (by decide +kernel))
set_option maxRecDepth 20000 in
theorem gL_ask_X4_longest : GoodIn wsL_ask (wsV RL 89 RX4 yX4_longest wsX4_longest) := goodIn_app (goodIn_of _ (by decide +kernel)) ggL_ask_X4_longest
set_option maxRecDepth 20000 in
theorem ggL_ask_X4_leastSpeed : GoodIn wsL_ask wsX4_leastSpeed := goodIn_ca (goodIn_r _ [217, 13, 14, 8, 44, 110, 162, 163, 164, 114, 165, 166, 167, 168, 169, 118, 117, 170, 171, 89, 90, 91, 218, 219, 220, 221, 222, 223, 224, 225, 226, 227, 228, 229, 230, 235, 236, 237, 238, 239, 240, 241] (by decide +kernel) (by decide +kernel)) (goodIn_sub (fun _ h => List.mem_cons_of_mem _ (List.mem_append_left _ (List.mem_append_right _ h))) (by decide +kernel))
set_option maxRecDepth 20000 in
theorem gL_ask_X4_leastSpeed : GoodIn wsL_ask (wsV RL 92 RX4 yX4_leastSpeed wsX4_leastSpeed) := goodIn_app (goodIn_of _ (by decide +kernel)) ggL_ask_X4_leastSpeed
theorem dL_ask_0 : decode cL_ask 0 = .ok (.iload_n 1, 1) := by decide +kernel
theorem dL_ask_1 : decode cL_ask 1 = .ok (.ifCond .ne 11, 3) := by decide +kernel
theorem dL_ask_4 : decode cL_ask 4 = .ok (.aload_n 0, 1) := by decide +kernel
theorem dL_ask_5 : decode cL_ask 5 = .ok (.iload_n 2, 1) := by decide +kernel
theorem dL_ask_6 : decode cL_ask 6 = .ok (.invokevirtual 57, 3) := by decide +kernel
theorem dL_ask_9 : decode cL_ask 9 = .ok (.goto 169, 3) := by decide +kernel
theorem dL_ask_12 : decode cL_ask 12 = .ok (.iload_n 1, 1) := by decide +kernel
theorem dL_ask_13 : decode cL_ask 13 = .ok (.iconst 1, 1) := by decide +kernel
theorem dL_ask_14 : decode cL_ask 14 = .ok (.if_icmp .ne 11, 3) := by decide +kernel
theorem dL_ask_17 : decode cL_ask 17 = .ok (.aload_n 0, 1) := by decide +kernel
theorem dL_ask_18 : decode cL_ask 18 = .ok (.iload_n 2, 1) := by decide +kernel
theorem dL_ask_19 : decode cL_ask 19 = .ok (.invokevirtual 60, 3) := by decide +kernel
theorem dL_ask_22 : decode cL_ask 22 = .ok (.goto 156, 3) := by decide +kernel
theorem dL_ask_25 : decode cL_ask 25 = .ok (.iload_n 1, 1) := by decide +kernel
theorem dL_ask_26 : decode cL_ask 26 = .ok (.iconst 2, 1) := by decide +kernel
theorem dL_ask_27 : decode cL_ask 27 = .ok (.if_icmp .ne 26, 3) := by decide +kernel
theorem dL_ask_30 : decode cL_ask 30 = .ok (.aload_n 0, 1) := by decide +kernel
theorem dL_ask_31 : decode cL_ask 31 = .ok (.iload_n 3, 1) := by decide +kernel
theorem dL_ask_32 : decode cL_ask 32 = .ok (.bipush 99, 2) := by decide +kernel
theorem dL_ask_34 : decode cL_ask 34 = .ok (.if_icmp .le 7, 3) := by decide +kernel
theorem dL_ask_37 : decode cL_ask 37 = .ok (.iconst 1, 1) := by decide +kernel
theorem dL_ask_38 : decode cL_ask 38 = .ok (.goto 4, 3) := by decide +kernel
theorem dL_ask_41 : decode cL_ask 41 = .ok (.iconst 0, 1) := by decide +kernel
theorem dL_ask_42 : decode cL_ask 42 = .ok (.iload_n 2, 1) := by decide +kernel
theorem dL_ask_43 : decode cL_ask 43 = .ok (.iload_n 3, 1) := by decide +kernel
theorem dL_ask_44 : decode cL_ask 44 = .ok (.bipush 100, 2) := by decide +kernel
theorem dL_ask_46 : decode cL_ask 46 = .ok (.irem, 1) := by decide +kernel
theorem dL_ask_47 : decode cL_ask 47 = .ok (.invokevirtual 63, 3) := by decide +kernel
theorem dL_ask_50 : decode cL_ask 50 = .ok (.goto 128, 3) := by decide +kernel
theorem dL_ask_53 : decode cL_ask 53 = .ok (.iload_n 1, 1) := by decide +kernel
theorem dL_ask_54 : decode cL_ask 54 = .ok (.iconst 3, 1) := by decide +kernel
theorem dL_ask_55 : decode cL_ask 55 = .ok (.if_icmp .ne 12, 3) := by decide +kernel
theorem dL_ask_58 : decode cL_ask 58 = .ok (.aload_n 0, 1) := by decide +kernel
theorem dL_ask_59 : decode cL_ask 59 = .ok (.iload_n 2, 1) := by decide +kernel
theorem dL_ask_60 : decode cL_ask 60 = .ok (.iload_n 3, 1) := by decide +kernel
theorem dL_ask_61 : decode cL_ask 61 = .ok (.invokevirtual 67, 3) := by decide +kernel
theorem dL_ask_64 : decode cL_ask 64 = .ok (.goto 114, 3) := by decide +kernel
theorem dL_ask_67 : decode cL_ask 67 = .ok (.iload_n 1, 1) := by decide +kernel
theorem dL_ask_68 : decode cL_ask 68 = .ok (.iconst 4, 1) := by decide +kernel
theorem dL_ask_69 : decode cL_ask 69 = .ok (.if_icmp .ne 21, 3) := by decide +kernel
theorem dL_ask_72 : decode cL_ask 72 = .ok (.aload_n 0, 1) := by decide +kernel
theorem dL_ask_73 : decode cL_ask 73 = .ok (.iload_n 3, 1) := by decide +kernel
theorem dL_ask_74 : decode cL_ask 74 = .ok (.iconst 1, 1) := by decide +kernel
theorem dL_ask_75 : decode cL_ask 75 = .ok (.if_icmp .ne 7, 3) := by decide +kernel
theorem dL_ask_78 : decode cL_ask 78 = .ok (.iconst 1, 1) := by decide +kernel
theorem dL_ask_79 : decode cL_ask 79 = .ok (.goto 4, 3) := by decide +kernel
theorem dL_ask_82 : decode cL_ask 82 = .ok (.iconst 0, 1) := by decide +kernel
theorem dL_ask_83 : decode cL_ask 83 = .ok (.iload_n 2, 1) := by decide +kernel
theorem dL_ask_84 : decode cL_ask 84 = .ok (.invokevirtual 70, 3) := by decide +kernel
theorem dL_ask_87 : decode cL_ask 87 = .ok (.goto 91, 3) := by decide +kernel
theorem dL_ask_90 : decode cL_ask 90 = .ok (.iload_n 1, 1) := by decide +kernel
theorem dL_ask_91 : decode cL_ask 91 = .ok (.iconst 5, 1) := by decide +kernel
theorem dL_ask_92 : decode cL_ask 92 = .ok (.if_icmp .ne 11, 3) := by decide +kernel
theorem dL_ask_95 : decode cL_ask 95 = .ok (.aload_n 0, 1) := by decide +kernel
theorem dL_ask_96 : decode cL_ask 96 = .ok (.iload_n 2, 1) := by decide +kernel
theorem dL_ask_97 : decode cL_ask 97 = .ok (.invokevirtual 74, 3) := by decide +kernel
theorem dL_ask_100 : decode cL_ask 100 = .ok (.goto 78, 3) := by decide +kernel
theorem dL_ask_103 : decode cL_ask 103 = .ok (.iload_n 1, 1) := by decide +kernel
theorem dL_ask_104 : decode cL_ask 104 = .ok (.bipush 6, 2) := by decide +kernel
theorem dL_ask_106 : decode cL_ask 106 = .ok (.if_icmp .ne 11, 3) := by decide +kernel
theorem dL_ask_109 : decode cL_ask 109 = .ok (.aload_n 0, 1) := by decide +kernel
theorem dL_ask_110 : decode cL_ask 110 = .ok (.iload_n 2, 1) := by decide +kernel
theorem dL_ask_111 : decode cL_ask 111 = .ok (.invokevirtual 77, 3) := by decide +kernel
theorem dL_ask_114 : decode cL_ask 114 = .ok (.goto 64, 3) := by decide +kernel
theorem dL_ask_117 : decode cL_ask 117 = .ok (.iload_n 1, 1) := by decide +kernel
theorem dL_ask_118 : decode cL_ask 118 = .ok (.bipush 7, 2) := by decide +kernel
theorem dL_ask_120 : decode cL_ask 120 = .ok (.if_icmp .ne 11, 3) := by decide +kernel
theorem dL_ask_123 : decode cL_ask 123 = .ok (.aload_n 0, 1) := by decide +kernel
theorem dL_ask_124 : decode cL_ask 124 = .ok (.iload_n 2, 1) := by decide +kernel
theorem dL_ask_125 : decode cL_ask 125 = .ok (.invokevirtual 80, 3) := by decide +kernel
theorem dL_ask_128 : decode cL_ask 128 = .ok (.goto 50, 3) := by decide +kernel
theorem dL_ask_131 : decode cL_ask 131 = .ok (.iload_n 1, 1) := by decide +kernel
theorem dL_ask_132 : decode cL_ask 132 = .ok (.bipush 8, 2) := by decide +kernel
theorem dL_ask_134 : decode cL_ask 134 = .ok (.if_icmp .ne 11, 3) := by decide +kernel
theorem dL_ask_137 : decode cL_ask 137 = .ok (.aload_n 0, 1) := by decide +kernel
theorem dL_ask_138 : decode cL_ask 138 = .ok (.iload_n 2, 1) := by decide +kernel
theorem dL_ask_139 : decode cL_ask 139 = .ok (.invokevirtual 83, 3) := by decide +kernel
theorem dL_ask_142 : decode cL_ask 142 = .ok (.goto 36, 3) := by decide +kernel
theorem dL_ask_145 : decode cL_ask 145 = .ok (.iload_n 1, 1) := by decide +kernel
theorem dL_ask_146 : decode cL_ask 146 = .ok (.bipush 9, 2) := by decide +kernel
theorem dL_ask_148 : decode cL_ask 148 = .ok (.if_icmp .ne 11, 3) := by decide +kernel
theorem dL_ask_151 : decode cL_ask 151 = .ok (.aload_n 0, 1) := by decide +kernel
theorem dL_ask_152 : decode cL_ask 152 = .ok (.iload_n 2, 1) := by decide +kernel
theorem dL_ask_153 : decode cL_ask 153 = .ok (.invokevirtual 86, 3) := by decide +kernel
theorem dL_ask_156 : decode cL_ask 156 = .ok (.goto 22, 3) := by decide +kernel
theorem dL_ask_159 : decode cL_ask 159 = .ok (.iload_n 1, 1) := by decide +kernel
theorem dL_ask_160 : decode cL_ask 160 = .ok (.bipush 10, 2) := by decide +kernel
theorem dL_ask_162 : decode cL_ask 162 = .ok (.if_icmp .ne 11, 3) := by decide +kernel
theorem dL_ask_165 : decode cL_ask 165 = .ok (.aload_n 0, 1) := by decide +kernel
theorem dL_ask_166 : decode cL_ask 166 = .ok (.iload_n 2, 1) := by decide +kernel
theorem dL_ask_167 : decode cL_ask 167 = .ok (.invokevirtual 89, 3) := by decide +kernel
theorem dL_ask_170 : decode cL_ask 170 = .ok (.goto 8, 3) := by decide +kernel
theorem dL_ask_173 : decode cL_ask 173 = .ok (.aload_n 0, 1) := by decide +kernel
theorem dL_ask_174 : decode cL_ask 174 = .ok (.iload_n 2, 1) := by decide +kernel
theorem dL_ask_175 : decode cL_ask 175 = .ok (.invokevirtual 92, 3) := by decide +kernel
theorem dL_ask_178 : decode cL_ask 178 = .ok (.ireturn, 1) := by decide +kernel
theorem dL_ask_179 : decode cL_ask 179 = .ok (.astore 4, 2) := by decide +kernel
theorem dL_ask_181 : decode cL_ask 181 = .ok (.bipush (-10), 2) := by decide +kernel
theorem dL_ask_183 : decode cL_ask 183 = .ok (.ireturn, 1) := by decide +kernel
theorem dL_ask_184 : decode cL_ask 184 = .ok (.astore 4, 2) := by decide +kernel
theorem dL_ask_186 : decode cL_ask 186 = .ok (.bipush (-11), 2) := by decide +kernel
theorem dL_ask_188 : decode cL_ask 188 = .ok (.ireturn, 1) := by decide +kernel
set_option maxRecDepth 20000 in
theorem ggL_seen_X4_count : GoodIn wsL_seen wsX4_count := goodIn_ca (goodIn_r _ [7, 8, 9, 10, 11, 12, 13, 14, 6, 15, 16, 17, 128, 129, 130, 131, 132, 133, 134, 135, 136, 137, 138, 139, 140, 141, 142] (by decide +kernel) (by decide +kernel)) (goodIn_sub (fun _ h => List.mem_cons_of_mem _ (List.mem_append_left _ (List.mem_append_right _ h))) (by decide +kernel))
set_option maxRecDepth 20000 in
theorem gL_seen_X4_count : GoodIn wsL_seen (wsV RL 80 RX4 yX4_count wsX4_count) := goodIn_app (goodIn_of _ (by decide +kernel)) ggL_seen_X4_count
set_option maxRecDepth 20000 in
theorem ggL_seen_X4_tree : GoodIn wsL_seen wsX4_tree := goodIn_ca (goodIn_r _ [21, 22, 13, 14, 6, 15, 16, 17, 23, 24, 25, 26, 8, 27, 28, 29, 30, 31, 32, 33, 34, 35, 36, 37, 38, 39, 40, 41, 42, 43, 44, 45, 46, 47, 48, 49, 50, 51, 52, 53, 54, 55, 56, 57, 58, 59, 60, 61, 62, 63, 64, 65, 66, 67, 68, 69, 143, 144, 145, 146, 128, 129, 130, 131, 132, 133, 134, 135, 136, 137, 138, 139, 140, 147, 148, 149, 150, 151, 152, 153] (by decide +kernel) (by decide +kernel)) (goodIn_sub (fun _ h => List.mem_cons_of_mem _ (List.mem_append_left _ (List.mem_append_right _ h))) (by decide +kernel))
set_option maxRecDepth 20000 in
theorem gL_seen_X4_tree : GoodIn wsL_seen (wsV RL 70 RX4 yX4_tree wsX4_tree) := goodIn_app (goodIn_of _ (by decide +kernel)) ggL_seen_X4_tree
set_option maxRecDepth 20000 in
theorem ggL_seen_X4_rebuild : GoodIn wsL_seen wsX4_rebuild := goodIn_ca (goodIn_r _ [73, 8, 27, 74, 75, 76, 77, 13, 14, 6, 15, 16, 17, 78, 79, 80, 81, 82, 83, 84, 85, 86, 87, 88, 89, 90, 91, 92, 93, 94, 28, 29, 95, 96, 97, 98, 33, 99, 35, 100, 40, 101, 102, 103, 104, 30, 31, 32, 34, 36, 37, 38, 39, 128, 129, 130, 131, 132, 133, 134, 135, 136, 137, 138, 139, 140, 147, 148, 149, 150, 151, 152, 153, 143, 144, 145, 146] (by decide +kernel) (by decide +kernel)) (goodIn_sub (fun _ h => List.mem_cons_of_mem _ (List.mem_append_left _ (List.mem_append_right _ h))) (by decide +kernel))
set_option maxRecDepth 20000 in
theorem gL_seen_X4_rebuild : GoodIn wsL_seen (wsV RL 74 RX4 yX4_rebuild wsX4_rebuild) := goodIn_app (goodIn_of _ (by decide +kernel)) ggL_seen_X4_rebuild
set_option maxRecDepth 20000 in
theorem ggL_seen_X4_node : GoodIn wsL_seen wsX4_node := goodIn_ca (goodIn_r _ [108, 16, 17, 22, 13, 14, 6, 15, 23, 24, 25, 26, 8, 27, 28, 29, 109, 110, 111, 33, 112, 100, 40, 50, 63, 64, 65, 66, 35, 36, 37, 38, 39, 143, 144, 145, 146, 128, 129, 130, 131, 132, 133, 134, 135, 136, 137, 138, 139, 140, 147, 148, 149, 150, 151, 152, 153] (by decide +kernel) (by decide +kernel)) (goodIn_sub (fun _ h => List.mem_cons_of_mem _ (List.mem_append_left _ (List.mem_append_right _ h))) (by decide +kernel))
set_option maxRecDepth 20000 in
theorem gL_seen_X4_node : GoodIn wsL_seen (wsV RL 63 RX4 yX4_node wsX4_node) := goodIn_app (goodIn_of _ (by decide +kernel)) ggL_seen_X4_node
set_option maxRecDepth 20000 in
theorem ggL_seen_X4_queued : GoodIn wsL_seen wsX4_queued := goodIn_ca (goodIn_r _ [116, 16, 17, 8, 27, 76, 117, 128, 129, 130, 131, 132, 133, 134, 135, 136, 137, 138, 139, 140, 147, 148, 149, 150, 151, 152, 153] (by decide +kernel) (by decide +kernel)) (goodIn_sub (fun _ h => List.mem_cons_of_mem _ (List.mem_append_left _ (List.mem_append_right _ h))) (by decide +kernel))
set_option maxRecDepth 20000 in
theorem gL_seen_X4_queued : GoodIn wsL_seen (wsV RL 77 RX4 yX4_queued wsX4_queued) := goodIn_app (goodIn_of _ (by decide +kernel)) ggL_seen_X4_queued
set_option maxRecDepth 20000 in
theorem ggL_seen_X4_setting : GoodIn wsL_seen wsX4_setting := goodIn_ca (goodIn_r _ [121, 8, 122, 123, 124, 6, 125, 126, 127, 128, 129, 130, 131, 132, 133, 134, 135, 136, 137, 138, 139, 140] (by decide +kernel) (by decide +kernel)) (goodIn_sub (fun _ h => List.mem_cons_of_mem _ (List.mem_append_right _ h)) (by decide +kernel))
set_option maxRecDepth 20000 in
theorem gL_seen_X4_setting : GoodIn wsL_seen (wsV RL 83 RX4 yX4_setting wsX4_setting) := goodIn_app (goodIn_of _ (by decide +kernel)) ggL_seen_X4_setting
theorem dL_seen_0 : decode cL_seen 0 = .ok (.ldc2_w 95, 3) := by decide +kernel
theorem dL_seen_3 : decode cL_seen 3 = .ok (.lstore_n 1, 1) := by decide +kernel
theorem dL_seen_4 : decode cL_seen 4 = .ok (.iconst 0, 1) := by decide +kernel
theorem dL_seen_5 : decode cL_seen 5 = .ok (.istore_n 3, 1) := by decide +kernel
theorem dL_seen_6 : decode cL_seen 6 = .ok (.iload_n 3, 1) := by decide +kernel
theorem dL_seen_7 : decode cL_seen 7 = .ok (.bipush 7, 2) := by decide +kernel
theorem dL_seen_9 : decode cL_seen 9 = .ok (.if_icmp .ge 46, 3) := by decide +kernel
theorem dL_seen_12 : decode cL_seen 12 = .ok (.ldc2_w 97, 3) := by decide +kernel
theorem dL_seen_15 : decode cL_seen 15 = .ok (.ldc2_w 97, 3) := by decide +kernel
theorem dL_seen_18 : decode cL_seen 18 = .ok (.ldc2_w 97, 3) := by decide +kernel
theorem dL_seen_21 : decode cL_seen 21 = .ok (.lload_n 1, 1) := by decide +kernel
theorem dL_seen_22 : decode cL_seen 22 = .ok (.lmul, 1) := by decide +kernel
theorem dL_seen_23 : decode cL_seen 23 = .ok (.aload_n 0, 1) := by decide +kernel
theorem dL_seen_24 : decode cL_seen 24 = .ok (.iload_n 3, 1) := by decide +kernel
theorem dL_seen_25 : decode cL_seen 25 = .ok (.invokevirtual 80, 3) := by decide +kernel
theorem dL_seen_28 : decode cL_seen 28 = .ok (.i2l, 1) := by decide +kernel
theorem dL_seen_29 : decode cL_seen 29 = .ok (.ladd, 1) := by decide +kernel
theorem dL_seen_30 : decode cL_seen 30 = .ok (.lmul, 1) := by decide +kernel
theorem dL_seen_31 : decode cL_seen 31 = .ok (.aload_n 0, 1) := by decide +kernel
theorem dL_seen_32 : decode cL_seen 32 = .ok (.iconst 0, 1) := by decide +kernel
theorem dL_seen_33 : decode cL_seen 33 = .ok (.iload_n 3, 1) := by decide +kernel
theorem dL_seen_34 : decode cL_seen 34 = .ok (.invokevirtual 70, 3) := by decide +kernel
theorem dL_seen_37 : decode cL_seen 37 = .ok (.i2l, 1) := by decide +kernel
theorem dL_seen_38 : decode cL_seen 38 = .ok (.ladd, 1) := by decide +kernel
theorem dL_seen_39 : decode cL_seen 39 = .ok (.lmul, 1) := by decide +kernel
theorem dL_seen_40 : decode cL_seen 40 = .ok (.aload_n 0, 1) := by decide +kernel
theorem dL_seen_41 : decode cL_seen 41 = .ok (.iconst 1, 1) := by decide +kernel
theorem dL_seen_42 : decode cL_seen 42 = .ok (.iload_n 3, 1) := by decide +kernel
theorem dL_seen_43 : decode cL_seen 43 = .ok (.invokevirtual 70, 3) := by decide +kernel
theorem dL_seen_46 : decode cL_seen 46 = .ok (.i2l, 1) := by decide +kernel
theorem dL_seen_47 : decode cL_seen 47 = .ok (.ladd, 1) := by decide +kernel
theorem dL_seen_48 : decode cL_seen 48 = .ok (.lstore_n 1, 1) := by decide +kernel
theorem dL_seen_49 : decode cL_seen 49 = .ok (.iinc 3 1, 3) := by decide +kernel
theorem dL_seen_52 : decode cL_seen 52 = .ok (.goto (-46), 3) := by decide +kernel
theorem dL_seen_55 : decode cL_seen 55 = .ok (.iconst 0, 1) := by decide +kernel
theorem dL_seen_56 : decode cL_seen 56 = .ok (.istore_n 3, 1) := by decide +kernel
theorem dL_seen_57 : decode cL_seen 57 = .ok (.iload_n 3, 1) := by decide +kernel
theorem dL_seen_58 : decode cL_seen 58 = .ok (.bipush 6, 2) := by decide +kernel
theorem dL_seen_60 : decode cL_seen 60 = .ok (.if_icmp .ge 22, 3) := by decide +kernel
theorem dL_seen_63 : decode cL_seen 63 = .ok (.ldc2_w 97, 3) := by decide +kernel
theorem dL_seen_66 : decode cL_seen 66 = .ok (.lload_n 1, 1) := by decide +kernel
theorem dL_seen_67 : decode cL_seen 67 = .ok (.lmul, 1) := by decide +kernel
theorem dL_seen_68 : decode cL_seen 68 = .ok (.aload_n 0, 1) := by decide +kernel
theorem dL_seen_69 : decode cL_seen 69 = .ok (.iload_n 3, 1) := by decide +kernel
theorem dL_seen_70 : decode cL_seen 70 = .ok (.invokevirtual 74, 3) := by decide +kernel
theorem dL_seen_73 : decode cL_seen 73 = .ok (.i2l, 1) := by decide +kernel
theorem dL_seen_74 : decode cL_seen 74 = .ok (.ladd, 1) := by decide +kernel
theorem dL_seen_75 : decode cL_seen 75 = .ok (.lstore_n 1, 1) := by decide +kernel
theorem dL_seen_76 : decode cL_seen 76 = .ok (.iinc 3 1, 3) := by decide +kernel
theorem dL_seen_79 : decode cL_seen 79 = .ok (.goto (-22), 3) := by decide +kernel
theorem dL_seen_82 : decode cL_seen 82 = .ok (.iconst 0, 1) := by decide +kernel
theorem dL_seen_83 : decode cL_seen 83 = .ok (.istore_n 3, 1) := by decide +kernel
theorem dL_seen_84 : decode cL_seen 84 = .ok (.iload_n 3, 1) := by decide +kernel
theorem dL_seen_85 : decode cL_seen 85 = .ok (.bipush 12, 2) := by decide +kernel
theorem dL_seen_87 : decode cL_seen 87 = .ok (.if_icmp .ge 50, 3) := by decide +kernel
theorem dL_seen_90 : decode cL_seen 90 = .ok (.ldc2_w 97, 3) := by decide +kernel
theorem dL_seen_93 : decode cL_seen 93 = .ok (.ldc2_w 97, 3) := by decide +kernel
theorem dL_seen_96 : decode cL_seen 96 = .ok (.ldc2_w 97, 3) := by decide +kernel
theorem dL_seen_99 : decode cL_seen 99 = .ok (.lload_n 1, 1) := by decide +kernel
theorem dL_seen_100 : decode cL_seen 100 = .ok (.lmul, 1) := by decide +kernel
theorem dL_seen_101 : decode cL_seen 101 = .ok (.aload_n 0, 1) := by decide +kernel
theorem dL_seen_102 : decode cL_seen 102 = .ok (.iconst 0, 1) := by decide +kernel
theorem dL_seen_103 : decode cL_seen 103 = .ok (.iload_n 3, 1) := by decide +kernel
theorem dL_seen_104 : decode cL_seen 104 = .ok (.iconst 0, 1) := by decide +kernel
theorem dL_seen_105 : decode cL_seen 105 = .ok (.invokevirtual 63, 3) := by decide +kernel
theorem dL_seen_108 : decode cL_seen 108 = .ok (.i2l, 1) := by decide +kernel
theorem dL_seen_109 : decode cL_seen 109 = .ok (.ladd, 1) := by decide +kernel
theorem dL_seen_110 : decode cL_seen 110 = .ok (.lmul, 1) := by decide +kernel
theorem dL_seen_111 : decode cL_seen 111 = .ok (.aload_n 0, 1) := by decide +kernel
theorem dL_seen_112 : decode cL_seen 112 = .ok (.iconst 0, 1) := by decide +kernel
theorem dL_seen_113 : decode cL_seen 113 = .ok (.iload_n 3, 1) := by decide +kernel
theorem dL_seen_114 : decode cL_seen 114 = .ok (.iconst 1, 1) := by decide +kernel
theorem dL_seen_115 : decode cL_seen 115 = .ok (.invokevirtual 63, 3) := by decide +kernel
theorem dL_seen_118 : decode cL_seen 118 = .ok (.i2l, 1) := by decide +kernel
theorem dL_seen_119 : decode cL_seen 119 = .ok (.ladd, 1) := by decide +kernel
theorem dL_seen_120 : decode cL_seen 120 = .ok (.lmul, 1) := by decide +kernel
theorem dL_seen_121 : decode cL_seen 121 = .ok (.aload_n 0, 1) := by decide +kernel
theorem dL_seen_122 : decode cL_seen 122 = .ok (.iconst 1, 1) := by decide +kernel
theorem dL_seen_123 : decode cL_seen 123 = .ok (.iload_n 3, 1) := by decide +kernel
theorem dL_seen_124 : decode cL_seen 124 = .ok (.iconst 0, 1) := by decide +kernel
theorem dL_seen_125 : decode cL_seen 125 = .ok (.invokevirtual 63, 3) := by decide +kernel
theorem dL_seen_128 : decode cL_seen 128 = .ok (.i2l, 1) := by decide +kernel
theorem dL_seen_129 : decode cL_seen 129 = .ok (.ladd, 1) := by decide +kernel
theorem dL_seen_130 : decode cL_seen 130 = .ok (.lstore_n 1, 1) := by decide +kernel
theorem dL_seen_131 : decode cL_seen 131 = .ok (.iinc 3 1, 3) := by decide +kernel
theorem dL_seen_134 : decode cL_seen 134 = .ok (.goto (-50), 3) := by decide +kernel
theorem dL_seen_137 : decode cL_seen 137 = .ok (.iconst 0, 1) := by decide +kernel
theorem dL_seen_138 : decode cL_seen 138 = .ok (.istore_n 3, 1) := by decide +kernel
theorem dL_seen_139 : decode cL_seen 139 = .ok (.iload_n 3, 1) := by decide +kernel
theorem dL_seen_140 : decode cL_seen 140 = .ok (.bipush 31, 2) := by decide +kernel
theorem dL_seen_142 : decode cL_seen 142 = .ok (.if_icmp .ge 22, 3) := by decide +kernel
theorem dL_seen_145 : decode cL_seen 145 = .ok (.ldc2_w 97, 3) := by decide +kernel
theorem dL_seen_148 : decode cL_seen 148 = .ok (.lload_n 1, 1) := by decide +kernel
theorem dL_seen_149 : decode cL_seen 149 = .ok (.lmul, 1) := by decide +kernel
theorem dL_seen_150 : decode cL_seen 150 = .ok (.aload_n 0, 1) := by decide +kernel
theorem dL_seen_151 : decode cL_seen 151 = .ok (.iload_n 3, 1) := by decide +kernel
theorem dL_seen_152 : decode cL_seen 152 = .ok (.invokevirtual 77, 3) := by decide +kernel
theorem dL_seen_155 : decode cL_seen 155 = .ok (.i2l, 1) := by decide +kernel
theorem dL_seen_156 : decode cL_seen 156 = .ok (.ladd, 1) := by decide +kernel
theorem dL_seen_157 : decode cL_seen 157 = .ok (.lstore_n 1, 1) := by decide +kernel
theorem dL_seen_158 : decode cL_seen 158 = .ok (.iinc 3 1, 3) := by decide +kernel
theorem dL_seen_161 : decode cL_seen 161 = .ok (.goto (-22), 3) := by decide +kernel
theorem dL_seen_164 : decode cL_seen 164 = .ok (.ldc2_w 97, 3) := by decide +kernel
theorem dL_seen_167 : decode cL_seen 167 = .ok (.ldc2_w 97, 3) := by decide +kernel
theorem dL_seen_170 : decode cL_seen 170 = .ok (.ldc2_w 97, 3) := by decide +kernel
theorem dL_seen_173 : decode cL_seen 173 = .ok (.lload_n 1, 1) := by decide +kernel
theorem dL_seen_174 : decode cL_seen 174 = .ok (.lmul, 1) := by decide +kernel
theorem dL_seen_175 : decode cL_seen 175 = .ok (.aload_n 0, 1) := by decide +kernel
theorem dL_seen_176 : decode cL_seen 176 = .ok (.iconst 0, 1) := by decide +kernel
theorem dL_seen_177 : decode cL_seen 177 = .ok (.invokevirtual 83, 3) := by decide +kernel
theorem dL_seen_180 : decode cL_seen 180 = .ok (.i2l, 1) := by decide +kernel
theorem dL_seen_181 : decode cL_seen 181 = .ok (.ladd, 1) := by decide +kernel
theorem dL_seen_182 : decode cL_seen 182 = .ok (.lmul, 1) := by decide +kernel
theorem dL_seen_183 : decode cL_seen 183 = .ok (.aload_n 0, 1) := by decide +kernel
theorem dL_seen_184 : decode cL_seen 184 = .ok (.iconst 1, 1) := by decide +kernel
theorem dL_seen_185 : decode cL_seen 185 = .ok (.invokevirtual 83, 3) := by decide +kernel
theorem dL_seen_188 : decode cL_seen 188 = .ok (.i2l, 1) := by decide +kernel
theorem dL_seen_189 : decode cL_seen 189 = .ok (.ladd, 1) := by decide +kernel
theorem dL_seen_190 : decode cL_seen 190 = .ok (.lmul, 1) := by decide +kernel
theorem dL_seen_191 : decode cL_seen 191 = .ok (.aload_n 0, 1) := by decide +kernel
theorem dL_seen_192 : decode cL_seen 192 = .ok (.iconst 2, 1) := by decide +kernel
theorem dL_seen_193 : decode cL_seen 193 = .ok (.invokevirtual 83, 3) := by decide +kernel
theorem dL_seen_196 : decode cL_seen 196 = .ok (.i2l, 1) := by decide +kernel
theorem dL_seen_197 : decode cL_seen 197 = .ok (.ladd, 1) := by decide +kernel
theorem dL_seen_198 : decode cL_seen 198 = .ok (.lreturn, 1) := by decide +kernel
set_option maxRecDepth 20000 in
theorem ggL_isSorted_X4_tree : GoodIn wsL_isSorted wsX4_tree := goodIn_ca (goodIn_r _ [5, 6, 7, 8, 4, 9, 10, 11, 12, 13, 14, 15, 16, 17, 18, 19, 20, 21, 22, 23, 24, 25, 26, 27, 28, 29, 30, 31, 32, 33, 34, 35, 36, 37, 38, 39, 40, 41, 42, 43, 44, 45, 46, 47, 48, 49, 50, 51, 52, 53, 54, 55, 56, 57, 58, 59, 125, 126, 127, 128, 129, 130, 131, 132, 133, 134, 135, 136, 137, 138, 139, 140, 141, 142, 143, 144, 145, 146, 147, 148] (by decide +kernel) (by decide +kernel)) (goodIn_sub (fun _ h => List.mem_cons_of_mem _ (List.mem_append_right _ h)) (by decide +kernel))
set_option maxRecDepth 20000 in
theorem gL_isSorted_X4_tree : GoodIn wsL_isSorted (wsV RL 70 RX4 yX4_tree wsX4_tree) := goodIn_app (goodIn_of _ (by decide +kernel)) ggL_isSorted_X4_tree
set_option maxRecDepth 20000 in
theorem ggL_isSorted_X4_keyAt : GoodIn wsL_isSorted wsX4_keyAt := goodIn_ca (goodIn_r _ [63, 10, 11, 16, 19, 64, 65, 66, 67, 23, 68, 25, 69, 30, 129, 130, 131, 132, 133, 134, 135, 136, 137, 138, 139, 140, 141, 125, 126, 127, 128] (by decide +kernel) (by decide +kernel)) (goodIn_sub (fun _ h => List.mem_cons_of_mem _ (List.mem_append_right _ h)) (by decide +kernel))
set_option maxRecDepth 20000 in
theorem gL_isSorted_X4_keyAt : GoodIn wsL_isSorted (wsV RL 60 RX4 yX4_keyAt wsX4_keyAt) := goodIn_app (goodIn_of _ (by decide +kernel)) ggL_isSorted_X4_keyAt
set_option maxRecDepth 20000 in
theorem ggL_isSorted_X4_contains : GoodIn wsL_isSorted wsX4_contains := goodIn_ca (goodIn_r _ [73, 16, 19, 74, 75, 4, 76, 10, 11, 77, 78, 79, 23, 80, 30, 81, 82, 83, 84, 69, 85, 86, 87, 88, 25, 129, 130, 131, 132, 133, 134, 135, 136, 137, 138, 139, 140, 141, 125, 126, 127, 128] (by decide +kernel) (by decide +kernel)) (goodIn_sub (fun _ h => List.mem_cons_of_mem _ (List.mem_append_right _ h)) (by decide +kernel))
set_option maxRecDepth 20000 in
theorem gL_isSorted_X4_contains : GoodIn wsL_isSorted (wsV RL 44 RX4 yX4_contains wsX4_contains) := goodIn_app (goodIn_of _ (by decide +kernel)) ggL_isSorted_X4_contains
set_option maxRecDepth 20000 in
theorem ggL_isSorted_X4_rank : GoodIn wsL_isSorted wsX4_rank := goodIn_ca (goodIn_r _ [92, 16, 19, 74, 75, 4, 76, 10, 11, 93, 94, 95, 23, 96, 25, 30, 69, 129, 130, 131, 132, 133, 134, 135, 136, 137, 138, 139, 140, 141, 125, 126, 127, 128] (by decide +kernel) (by decide +kernel)) (goodIn_sub (fun _ h => List.mem_cons_of_mem _ (List.mem_append_right _ h)) (by decide +kernel))
set_option maxRecDepth 20000 in
theorem gL_isSorted_X4_rank : GoodIn wsL_isSorted (wsV RL 57 RX4 yX4_rank wsX4_rank) := goodIn_app (goodIn_of _ (by decide +kernel)) ggL_isSorted_X4_rank
set_option maxRecDepth 20000 in
theorem ggL_isSorted_X4_near : GoodIn wsL_isSorted wsX4_near := goodIn_ca (goodIn_r _ [100, 16, 19, 74, 75, 4, 76, 10, 11, 7, 8, 9, 101, 102, 103, 23, 104, 25, 30, 69, 105, 106, 107, 108, 129, 130, 131, 132, 133, 134, 135, 136, 137, 138, 139, 140, 141, 125, 126, 127, 128] (by decide +kernel) (by decide +kernel)) (goodIn_sub (fun _ h => List.mem_cons_of_mem _ (List.mem_append_right _ h)) (by decide +kernel))
set_option maxRecDepth 20000 in
theorem gL_isSorted_X4_near : GoodIn wsL_isSorted (wsV RL 48 RX4 yX4_near wsX4_near) := goodIn_app (goodIn_of _ (by decide +kernel)) ggL_isSorted_X4_near
set_option maxRecDepth 20000 in
theorem ggL_isSorted_X4_node : GoodIn wsL_isSorted wsX4_node := goodIn_ca (goodIn_r _ [112, 10, 11, 6, 7, 8, 4, 9, 12, 13, 14, 15, 16, 17, 18, 19, 113, 114, 115, 23, 116, 69, 30, 40, 53, 54, 55, 56, 25, 26, 27, 28, 29, 125, 126, 127, 128, 129, 130, 131, 132, 133, 134, 135, 136, 137, 138, 139, 140, 141, 142, 143, 144, 145, 146, 147, 148] (by decide +kernel) (by decide +kernel)) (goodIn_sub (fun _ h => List.mem_cons_of_mem _ (List.mem_append_right _ h)) (by decide +kernel))
set_option maxRecDepth 20000 in
theorem gL_isSorted_X4_node : GoodIn wsL_isSorted (wsV RL 63 RX4 yX4_node wsX4_node) := goodIn_app (goodIn_of _ (by decide +kernel)) ggL_isSorted_X4_node
set_option maxRecDepth 20000 in
theorem ggL_isSorted_X4_path : GoodIn wsL_isSorted wsX4_path := goodIn_ca (goodIn_r _ [120, 10, 11, 16, 19, 74, 75, 4, 76, 121, 122, 123, 23, 124, 40, 69, 85, 86, 87, 88, 25, 129, 130, 131, 132, 133, 134, 135, 136, 137, 138, 139, 140, 141, 125, 126, 127, 128] (by decide +kernel) (by decide +kernel)) (goodIn_sub (fun _ h => List.mem_cons_of_mem _ (List.mem_append_right _ h)) (by decide +kernel))
set_option maxRecDepth 20000 in
theorem gL_isSorted_X4_path : GoodIn wsL_isSorted (wsV RL 67 RX4 yX4_path wsX4_path) := goodIn_app (goodIn_of _ (by decide +kernel)) ggL_isSorted_X4_path
