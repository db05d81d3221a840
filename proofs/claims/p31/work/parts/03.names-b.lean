set_option maxRecDepth 20000 in
theorem ggX4_init_X2_init : GoodIn wsX4_init wsX2_init := goodIn_r _ [24, 25, 2, 3, 26, 27, 28, 29, 30, 20, 21, 31, 32, 33, 34, 35, 36, 37, 38, 16, 39, 40, 41, 42, 43, 44, 10, 45, 46, 47, 48, 49, 50, 51, 52, 80, 81, 82, 83, 58, 59, 60, 61, 73, 74, 75, 76, 77, 78, 79] (by decide +kernel) (by decide +kernel)
set_option maxRecDepth 20000 in
theorem gX4_init_X2_init_n9 : GoodIn wsX4_init (wsX2_init) := ggX4_init_X2_init
set_option maxRecDepth 20000 in
theorem ggX4_init_X0_init : GoodIn wsX4_init wsX0_init := goodIn_r _ [54, 55, 2, 3, 56, 57, 71, 72] (by decide +kernel) (by decide +kernel)
set_option maxRecDepth 20000 in
theorem gX4_init_X0_init_n29 : GoodIn wsX4_init (wsX0_init) := ggX4_init_X0_init
set_option maxRecDepth 20000 in
theorem ggX4_init_X1_init : GoodIn wsX4_init wsX1_init := goodIn_r _ [47, 48, 2, 3, 49, 27, 28, 50, 16, 51, 52, 40, 41, 42, 43, 44, 10, 45, 80, 81, 82, 83, 73, 74, 75, 76, 77, 78, 79] (by decide +kernel) (by decide +kernel)
set_option maxRecDepth 20000 in
theorem gX4_init_X1_init_n43 : GoodIn wsX4_init (wsX1_init) := ggX4_init_X1_init
theorem dX4_init_0 : decode cX4_init 0 = .ok (.aload_n 0, 1) := by decide +kernel
theorem dX4_init_1 : decode cX4_init 1 = .ok (.invokespecial 1, 3) := by decide +kernel
theorem dX4_init_4 : decode cX4_init 4 = .ok (.aload_n 0, 1) := by decide +kernel
theorem dX4_init_5 : decode cX4_init 5 = .ok (.new 7, 3) := by decide +kernel
theorem dX4_init_8 : decode cX4_init 8 = .ok (.dup, 1) := by decide +kernel
theorem dX4_init_9 : decode cX4_init 9 = .ok (.invokespecial 9, 3) := by decide +kernel
theorem dX4_init_12 : decode cX4_init 12 = .ok (.putfield 10, 3) := by decide +kernel
theorem dX4_init_15 : decode cX4_init 15 = .ok (.aload_n 0, 1) := by decide +kernel
theorem dX4_init_16 : decode cX4_init 16 = .ok (.bipush 6, 2) := by decide +kernel
theorem dX4_init_18 : decode cX4_init 18 = .ok (.anewarray 7, 3) := by decide +kernel
theorem dX4_init_21 : decode cX4_init 21 = .ok (.putfield 16, 3) := by decide +kernel
theorem dX4_init_24 : decode cX4_init 24 = .ok (.aload_n 0, 1) := by decide +kernel
theorem dX4_init_25 : decode cX4_init 25 = .ok (.iconst 2, 1) := by decide +kernel
theorem dX4_init_26 : decode cX4_init 26 = .ok (.anewarray 7, 3) := by decide +kernel
theorem dX4_init_29 : decode cX4_init 29 = .ok (.putfield 20, 3) := by decide +kernel
theorem dX4_init_32 : decode cX4_init 32 = .ok (.aload_n 0, 1) := by decide +kernel
theorem dX4_init_33 : decode cX4_init 33 = .ok (.iconst 2, 1) := by decide +kernel
theorem dX4_init_34 : decode cX4_init 34 = .ok (.newarray .boolean, 2) := by decide +kernel
theorem dX4_init_36 : decode cX4_init 36 = .ok (.putfield 23, 3) := by decide +kernel
theorem dX4_init_39 : decode cX4_init 39 = .ok (.aload_n 0, 1) := by decide +kernel
theorem dX4_init_40 : decode cX4_init 40 = .ok (.new 27, 3) := by decide +kernel
theorem dX4_init_43 : decode cX4_init 43 = .ok (.dup, 1) := by decide +kernel
theorem dX4_init_44 : decode cX4_init 44 = .ok (.invokespecial 29, 3) := by decide +kernel
theorem dX4_init_47 : decode cX4_init 47 = .ok (.putfield 30, 3) := by decide +kernel
theorem dX4_init_50 : decode cX4_init 50 = .ok (.aload_n 0, 1) := by decide +kernel
theorem dX4_init_51 : decode cX4_init 51 = .ok (.bipush 60, 2) := by decide +kernel
theorem dX4_init_53 : decode cX4_init 53 = .ok (.newarray .int, 2) := by decide +kernel
theorem dX4_init_55 : decode cX4_init 55 = .ok (.putfield 34, 3) := by decide +kernel
theorem dX4_init_58 : decode cX4_init 58 = .ok (.aload_n 0, 1) := by decide +kernel
theorem dX4_init_59 : decode cX4_init 59 = .ok (.sipush 500, 3) := by decide +kernel
theorem dX4_init_62 : decode cX4_init 62 = .ok (.newarray .boolean, 2) := by decide +kernel
theorem dX4_init_64 : decode cX4_init 64 = .ok (.putfield 38, 3) := by decide +kernel
theorem dX4_init_67 : decode cX4_init 67 = .ok (.aload_n 0, 1) := by decide +kernel
theorem dX4_init_68 : decode cX4_init 68 = .ok (.new 41, 3) := by decide +kernel
theorem dX4_init_71 : decode cX4_init 71 = .ok (.dup, 1) := by decide +kernel
theorem dX4_init_72 : decode cX4_init 72 = .ok (.invokespecial 43, 3) := by decide +kernel
theorem dX4_init_75 : decode cX4_init 75 = .ok (.putfield 44, 3) := by decide +kernel
theorem dX4_init_78 : decode cX4_init 78 = .ok (.iconst 0, 1) := by decide +kernel
theorem dX4_init_79 : decode cX4_init 79 = .ok (.istore_n 1, 1) := by decide +kernel
theorem dX4_init_80 : decode cX4_init 80 = .ok (.iload_n 1, 1) := by decide +kernel
theorem dX4_init_81 : decode cX4_init 81 = .ok (.bipush 6, 2) := by decide +kernel
theorem dX4_init_83 : decode cX4_init 83 = .ok (.if_icmp .ge 22, 3) := by decide +kernel
theorem dX4_init_86 : decode cX4_init 86 = .ok (.aload_n 0, 1) := by decide +kernel
theorem dX4_init_87 : decode cX4_init 87 = .ok (.getfield 16, 3) := by decide +kernel
theorem dX4_init_90 : decode cX4_init 90 = .ok (.iload_n 1, 1) := by decide +kernel
theorem dX4_init_91 : decode cX4_init 91 = .ok (.new 7, 3) := by decide +kernel
theorem dX4_init_94 : decode cX4_init 94 = .ok (.dup, 1) := by decide +kernel
theorem dX4_init_95 : decode cX4_init 95 = .ok (.invokespecial 9, 3) := by decide +kernel
theorem dX4_init_98 : decode cX4_init 98 = .ok (.aastore, 1) := by decide +kernel
theorem dX4_init_99 : decode cX4_init 99 = .ok (.iinc 1 1, 3) := by decide +kernel
theorem dX4_init_102 : decode cX4_init 102 = .ok (.goto (-22), 3) := by decide +kernel
theorem dX4_init_105 : decode cX4_init 105 = .ok (.iconst 0, 1) := by decide +kernel
theorem dX4_init_106 : decode cX4_init 106 = .ok (.istore_n 1, 1) := by decide +kernel
theorem dX4_init_107 : decode cX4_init 107 = .ok (.iload_n 1, 1) := by decide +kernel
theorem dX4_init_108 : decode cX4_init 108 = .ok (.iconst 2, 1) := by decide +kernel
theorem dX4_init_109 : decode cX4_init 109 = .ok (.if_icmp .ge 22, 3) := by decide +kernel
theorem dX4_init_112 : decode cX4_init 112 = .ok (.aload_n 0, 1) := by decide +kernel
theorem dX4_init_113 : decode cX4_init 113 = .ok (.getfield 20, 3) := by decide +kernel
theorem dX4_init_116 : decode cX4_init 116 = .ok (.iload_n 1, 1) := by decide +kernel
theorem dX4_init_117 : decode cX4_init 117 = .ok (.new 7, 3) := by decide +kernel
theorem dX4_init_120 : decode cX4_init 120 = .ok (.dup, 1) := by decide +kernel
theorem dX4_init_121 : decode cX4_init 121 = .ok (.invokespecial 9, 3) := by decide +kernel
theorem dX4_init_124 : decode cX4_init 124 = .ok (.aastore, 1) := by decide +kernel
theorem dX4_init_125 : decode cX4_init 125 = .ok (.iinc 1 1, 3) := by decide +kernel
theorem dX4_init_128 : decode cX4_init 128 = .ok (.goto (-21), 3) := by decide +kernel
theorem dX4_init_131 : decode cX4_init 131 = .ok (.return_, 1) := by decide +kernel
set_option maxRecDepth 20000 in
theorem ggX4_add_X4_checkKey : GoodIn wsX4_add wsX4_checkKey := goodIn_ca (goodIn_r _ [6, 7, 8] (by decide +kernel) (by decide +kernel)) (goodIn_sub (fun _ h => List.mem_cons_of_mem _ (List.mem_append_right _ h)) (by decide +kernel))
set_option maxRecDepth 20000 in
theorem gX4_add_X4_checkKey : GoodIn wsX4_add (va_wsS RX4 48 yX4_checkKey wsX4_checkKey) := goodIn_app (goodIn_of _ (by decide +kernel)) ggX4_add_X4_checkKey
set_option maxRecDepth 20000 in
theorem ggX4_add_X4_hasNoRoomFor : GoodIn wsX4_add wsX4_hasNoRoomFor := goodIn_r _ [12, 13, 14, 15, 16, 17, 18, 19, 20, 21, 22, 23, 24, 25, 26, 27, 28, 29, 30, 188, 189, 190, 191, 192, 193, 194, 195, 196, 197, 198, 199, 200, 201, 202, 203, 204] (by decide +kernel) (by decide +kernel)
set_option maxRecDepth 20000 in
theorem gX4_add_X4_hasNoRoomFor : GoodIn wsX4_add (wsV RX4 52 RX4 yX4_hasNoRoomFor wsX4_hasNoRoomFor) := goodIn_app (goodIn_of _ (by decide +kernel)) ggX4_add_X4_hasNoRoomFor
set_option maxRecDepth 20000 in
theorem ggX4_add_X4_saveState : GoodIn wsX4_add wsX4_saveState := goodIn_r _ [34, 35, 36, 13, 37, 38, 39, 5, 40, 41, 42, 43, 44, 45, 46, 47, 48, 49, 50, 51, 52, 53, 54, 55, 56, 19, 57, 30, 25, 58, 59, 60, 61, 62, 63, 64, 65, 66, 67, 68, 69, 70, 71, 72, 73, 74, 188, 189, 190, 191, 192, 193, 194, 195, 196, 197, 198, 199, 200, 201, 202, 203, 204, 205, 206, 207, 208, 209, 210, 211] (by decide +kernel) (by decide +kernel)
set_option maxRecDepth 20000 in
theorem gX4_add_X4_saveState : GoodIn wsX4_add (wsV RX4 63 RX4 yX4_saveState wsX4_saveState) := goodIn_app (goodIn_of _ (by decide +kernel)) ggX4_add_X4_saveState
set_option maxRecDepth 20000 in
theorem ggX4_add_X4_perform : GoodIn wsX4_add wsX4_perform := goodIn_r _ [78, 13, 14, 79, 80, 81, 82, 83, 19, 84, 59, 26, 27, 28, 29, 30, 25, 85, 86, 87, 88, 60, 89, 90, 91, 92, 58, 50, 51, 52, 93, 94, 95, 96, 97, 98, 99, 5, 100, 101, 102, 103, 104, 105, 106, 107, 108, 109, 64, 110, 66, 111, 67, 68, 69, 70, 112, 113, 114, 115, 73, 116, 117, 118, 119, 120, 121, 122, 123, 124, 71, 125, 126, 127, 128, 129, 72, 130, 131, 132, 133, 134, 135, 136, 137, 138, 139, 140, 55, 56, 57, 141, 142, 143, 144, 15, 145, 146, 147, 148, 149, 150, 151, 152, 153, 154, 155, 156, 157, 158, 159, 160, 161, 162, 163, 164, 165, 166, 167, 168, 169, 170, 171, 172, 173, 174, 175, 176, 177, 178, 179, 180, 181, 182, 183, 184, 185, 186, 187, 188, 189, 190, 191, 192, 193, 194, 195, 196, 197, 198, 199, 200, 205, 206, 207, 208, 209, 210, 211, 201, 202, 203, 204] (by decide +kernel) (by decide +kernel)
set_option maxRecDepth 20000 in
theorem gX4_add_X4_perform : GoodIn wsX4_add (wsV RX4 66 RX4 yX4_perform wsX4_perform) := goodIn_app (goodIn_of _ (by decide +kernel)) ggX4_add_X4_perform
theorem dX4_add_0 : decode cX4_add 0 = .ok (.iload_n 1, 1) := by decide +kernel
theorem dX4_add_1 : decode cX4_add 1 = .ok (.invokestatic 48, 3) := by decide +kernel
theorem dX4_add_4 : decode cX4_add 4 = .ok (.aload_n 0, 1) := by decide +kernel
theorem dX4_add_5 : decode cX4_add 5 = .ok (.iload_n 1, 1) := by decide +kernel
theorem dX4_add_6 : decode cX4_add 6 = .ok (.invokevirtual 52, 3) := by decide +kernel
theorem dX4_add_9 : decode cX4_add 9 = .ok (.ifCond .eq 13, 3) := by decide +kernel
theorem dX4_add_12 : decode cX4_add 12 = .ok (.new 56, 3) := by decide +kernel
theorem dX4_add_15 : decode cX4_add 15 = .ok (.dup, 1) := by decide +kernel
theorem dX4_add_16 : decode cX4_add 16 = .ok (.ldc 58, 2) := by decide +kernel
theorem dX4_add_18 : decode cX4_add 18 = .ok (.invokespecial 60, 3) := by decide +kernel
theorem dX4_add_21 : decode cX4_add 21 = .ok (.athrow, 1) := by decide +kernel
theorem dX4_add_22 : decode cX4_add 22 = .ok (.aload_n 0, 1) := by decide +kernel
theorem dX4_add_23 : decode cX4_add 23 = .ok (.invokevirtual 63, 3) := by decide +kernel
theorem dX4_add_26 : decode cX4_add 26 = .ok (.aload_n 0, 1) := by decide +kernel
theorem dX4_add_27 : decode cX4_add 27 = .ok (.iload_n 1, 1) := by decide +kernel
theorem dX4_add_28 : decode cX4_add 28 = .ok (.invokevirtual 66, 3) := by decide +kernel
theorem dX4_add_31 : decode cX4_add 31 = .ok (.ifCond .eq 7, 3) := by decide +kernel
theorem dX4_add_34 : decode cX4_add 34 = .ok (.iconst 1, 1) := by decide +kernel
theorem dX4_add_35 : decode cX4_add 35 = .ok (.goto 4, 3) := by decide +kernel
theorem dX4_add_38 : decode cX4_add 38 = .ok (.iconst 0, 1) := by decide +kernel
theorem dX4_add_39 : decode cX4_add 39 = .ok (.ireturn, 1) := by decide +kernel
set_option maxRecDepth 20000 in
theorem ggX4_remove_X4_checkKey : GoodIn wsX4_remove wsX4_checkKey := goodIn_ca (goodIn_r _ [4, 5, 6] (by decide +kernel) (by decide +kernel)) (goodIn_sub (fun _ h => List.mem_cons_of_mem _ (List.mem_append_right _ h)) (by decide +kernel))
set_option maxRecDepth 20000 in
theorem gX4_remove_X4_checkKey : GoodIn wsX4_remove (va_wsS RX4 48 yX4_checkKey wsX4_checkKey) := goodIn_app (goodIn_of _ (by decide +kernel)) ggX4_remove_X4_checkKey
set_option maxRecDepth 20000 in
theorem ggX4_remove_X4_saveState : GoodIn wsX4_remove wsX4_saveState := goodIn_r _ [10, 11, 12, 13, 14, 15, 16, 3, 17, 18, 19, 20, 21, 22, 23, 24, 25, 26, 27, 28, 29, 30, 31, 32, 33, 34, 35, 36, 37, 38, 39, 40, 41, 42, 43, 44, 45, 46, 47, 48, 49, 50, 51, 52, 53, 54, 174, 175, 176, 177, 178, 179, 180, 181, 182, 183, 184, 185, 186, 187, 188, 189, 190, 191, 192, 193, 194, 195, 196, 197] (by decide +kernel) (by decide +kernel)
set_option maxRecDepth 20000 in
theorem gX4_remove_X4_saveState : GoodIn wsX4_remove (wsV RX4 63 RX4 yX4_saveState wsX4_saveState) := goodIn_app (goodIn_of _ (by decide +kernel)) ggX4_remove_X4_saveState
set_option maxRecDepth 20000 in
theorem ggX4_remove_X4_perform : GoodIn wsX4_remove wsX4_perform := goodIn_r _ [58, 13, 59, 60, 61, 62, 63, 64, 34, 65, 39, 66, 67, 68, 69, 36, 37, 70, 71, 72, 73, 40, 74, 75, 76, 77, 38, 27, 28, 29, 78, 79, 80, 81, 82, 83, 84, 3, 85, 86, 87, 88, 89, 90, 91, 92, 93, 94, 44, 95, 46, 96, 47, 48, 49, 50, 97, 98, 99, 100, 53, 101, 102, 103, 104, 105, 106, 107, 108, 109, 51, 110, 111, 112, 113, 114, 52, 115, 116, 117, 118, 119, 120, 121, 122, 123, 124, 125, 32, 33, 35, 126, 127, 128, 129, 130, 131, 132, 133, 134, 135, 136, 137, 138, 139, 140, 141, 142, 143, 144, 145, 146, 147, 148, 149, 150, 151, 152, 153, 154, 155, 156, 157, 158, 159, 160, 161, 162, 163, 164, 165, 166, 167, 168, 169, 170, 171, 172, 173, 174, 175, 176, 177, 178, 179, 180, 181, 182, 183, 184, 185, 186, 191, 192, 193, 194, 195, 196, 197, 187, 188, 189, 190] (by decide +kernel) (by decide +kernel)
set_option maxRecDepth 20000 in
theorem gX4_remove_X4_perform : GoodIn wsX4_remove (wsV RX4 66 RX4 yX4_perform wsX4_perform) := goodIn_app (goodIn_of _ (by decide +kernel)) ggX4_remove_X4_perform
theorem dX4_remove_0 : decode cX4_remove 0 = .ok (.iload_n 1, 1) := by decide +kernel
theorem dX4_remove_1 : decode cX4_remove 1 = .ok (.invokestatic 48, 3) := by decide +kernel
theorem dX4_remove_4 : decode cX4_remove 4 = .ok (.aload_n 0, 1) := by decide +kernel
theorem dX4_remove_5 : decode cX4_remove 5 = .ok (.invokevirtual 63, 3) := by decide +kernel
theorem dX4_remove_8 : decode cX4_remove 8 = .ok (.aload_n 0, 1) := by decide +kernel
theorem dX4_remove_9 : decode cX4_remove 9 = .ok (.iload_n 1, 1) := by decide +kernel
theorem dX4_remove_10 : decode cX4_remove 10 = .ok (.sipush 500, 3) := by decide +kernel
theorem dX4_remove_13 : decode cX4_remove 13 = .ok (.iadd, 1) := by decide +kernel
theorem dX4_remove_14 : decode cX4_remove 14 = .ok (.invokevirtual 66, 3) := by decide +kernel
theorem dX4_remove_17 : decode cX4_remove 17 = .ok (.ifCond .eq 7, 3) := by decide +kernel
theorem dX4_remove_20 : decode cX4_remove 20 = .ok (.iconst 1, 1) := by decide +kernel
theorem dX4_remove_21 : decode cX4_remove 21 = .ok (.goto 4, 3) := by decide +kernel
theorem dX4_remove_24 : decode cX4_remove 24 = .ok (.iconst 0, 1) := by decide +kernel
theorem dX4_remove_25 : decode cX4_remove 25 = .ok (.ireturn, 1) := by decide +kernel
set_option maxRecDepth 20000 in
theorem ggX4_idle_X4_saveState : GoodIn wsX4_idle wsX4_saveState := goodIn_r _ [7, 8, 9, 1, 10, 11, 12, 6, 13, 14, 15, 16, 17, 18, 19, 20, 21, 22, 23, 24, 25, 26, 27, 28, 29, 30, 31, 32, 33, 34, 35, 36, 37, 38, 39, 40, 41, 42, 43, 44, 45, 46, 47, 48, 49, 50, 169, 170, 171, 172, 173, 174, 175, 176, 177, 178, 179, 180, 181, 182, 183, 184, 185, 186, 187, 188, 189, 190, 191, 192] (by decide +kernel) (by decide +kernel)
set_option maxRecDepth 20000 in
theorem gX4_idle_X4_saveState : GoodIn wsX4_idle (wsV RX4 63 RX4 yX4_saveState wsX4_saveState) := goodIn_app (goodIn_of _ (by decide +kernel)) ggX4_idle_X4_saveState
set_option maxRecDepth 20000 in
theorem ggX4_idle_X4_perform : GoodIn wsX4_idle wsX4_perform := goodIn_r _ [54, 1, 55, 56, 57, 58, 59, 60, 30, 61, 35, 62, 63, 64, 65, 32, 33, 66, 67, 68, 69, 36, 70, 71, 72, 73, 34, 23, 24, 25, 74, 75, 76, 77, 78, 79, 80, 6, 81, 82, 83, 84, 85, 86, 2, 87, 88, 89, 40, 90, 42, 91, 43, 44, 45, 46, 92, 93, 94, 95, 49, 96, 97, 98, 99, 100, 101, 102, 103, 104, 47, 105, 106, 107, 108, 109, 48, 110, 111, 112, 113, 114, 115, 116, 117, 118, 119, 120, 28, 29, 31, 121, 122, 123, 124, 125, 126, 127, 128, 129, 130, 131, 132, 133, 134, 135, 136, 137, 138, 139, 140, 141, 142, 143, 144, 145, 146, 147, 148, 149, 150, 151, 152, 153, 154, 155, 156, 157, 158, 159, 160, 161, 162, 163, 164, 165, 166, 167, 168, 169, 170, 171, 172, 173, 174, 175, 176, 177, 178, 179, 180, 181, 186, 187, 188, 189, 190, 191, 192, 182, 183, 184, 185] (by decide +kernel) (by decide +kernel)
set_option maxRecDepth 20000 in
theorem gX4_idle_X4_perform : GoodIn wsX4_idle (wsV RX4 66 RX4 yX4_perform wsX4_perform) := goodIn_app (goodIn_of _ (by decide +kernel)) ggX4_idle_X4_perform
theorem dX4_idle_0 : decode cX4_idle 0 = .ok (.aload_n 0, 1) := by decide +kernel
theorem dX4_idle_1 : decode cX4_idle 1 = .ok (.invokevirtual 63, 3) := by decide +kernel
theorem dX4_idle_4 : decode cX4_idle 4 = .ok (.aload_n 0, 1) := by decide +kernel
theorem dX4_idle_5 : decode cX4_idle 5 = .ok (.iconst (-1), 1) := by decide +kernel
theorem dX4_idle_6 : decode cX4_idle 6 = .ok (.invokevirtual 66, 3) := by decide +kernel
theorem dX4_idle_9 : decode cX4_idle 9 = .ok (.pop, 1) := by decide +kernel
theorem dX4_idle_10 : decode cX4_idle 10 = .ok (.aload_n 0, 1) := by decide +kernel
theorem dX4_idle_11 : decode cX4_idle 11 = .ok (.getfield 10, 3) := by decide +kernel
theorem dX4_idle_14 : decode cX4_idle 14 = .ok (.getfield 69, 3) := by decide +kernel
theorem dX4_idle_17 : decode cX4_idle 17 = .ok (.iconst 0, 1) := by decide +kernel
theorem dX4_idle_18 : decode cX4_idle 18 = .ok (.iaload, 1) := by decide +kernel
theorem dX4_idle_19 : decode cX4_idle 19 = .ok (.ireturn, 1) := by decide +kernel
set_option maxRecDepth 20000 in
theorem ggX4_begin_X4_saveState : GoodIn wsX4_begin wsX4_saveState := goodIn_r _ [11, 12, 13, 3, 14, 15, 16, 10, 17, 18, 19, 20, 21, 22, 23, 24, 25, 26, 27, 28, 29, 30, 31, 32, 33, 34, 35, 36, 37, 38, 39, 40, 41, 42, 43, 44, 45, 46, 47, 48, 49, 50, 51, 52, 53, 54, 86, 87, 88, 89, 90, 91, 92, 93, 94, 95, 96, 97, 98, 106, 107, 108, 109, 99, 100, 101, 102, 103, 104, 105] (by decide +kernel) (by decide +kernel)
set_option maxRecDepth 20000 in
theorem gX4_begin_X4_saveState : GoodIn wsX4_begin (wsV RX4 63 RX4 yX4_saveState wsX4_saveState) := goodIn_app (goodIn_of _ (by decide +kernel)) ggX4_begin_X4_saveState
set_option maxRecDepth 20000 in
theorem ggX4_begin_X4_beginJob : GoodIn wsX4_begin wsX4_beginJob := goodIn_r _ [58, 3, 59, 60, 4, 61, 62, 63, 64, 34, 65, 36, 37, 40, 66, 67, 68, 69, 70, 71, 72, 73, 74, 75, 76, 44, 77, 50, 47, 51, 78, 79, 80, 81, 46, 82, 48, 49, 83, 84, 85, 86, 87, 88, 89, 90, 91, 92, 93, 94, 95, 96, 97, 98, 106, 107, 108, 109, 99, 100, 101, 102, 103, 104, 105] (by decide +kernel) (by decide +kernel)
set_option maxRecDepth 20000 in
theorem gX4_begin_X4_beginJob : GoodIn wsX4_begin (wsV RX4 81 RX4 yX4_beginJob wsX4_beginJob) := goodIn_app (goodIn_of _ (by decide +kernel)) ggX4_begin_X4_beginJob
theorem dX4_begin_0 : decode cX4_begin 0 = .ok (.aload_n 0, 1) := by decide +kernel
theorem dX4_begin_1 : decode cX4_begin 1 = .ok (.getfield 10, 3) := by decide +kernel
theorem dX4_begin_4 : decode cX4_begin 4 = .ok (.getfield 72, 3) := by decide +kernel
theorem dX4_begin_7 : decode cX4_begin 7 = .ok (.getfield 75, 3) := by decide +kernel
theorem dX4_begin_10 : decode cX4_begin 10 = .ok (.ifCond .eq 13, 3) := by decide +kernel
theorem dX4_begin_13 : decode cX4_begin 13 = .ok (.new 56, 3) := by decide +kernel
theorem dX4_begin_16 : decode cX4_begin 16 = .ok (.dup, 1) := by decide +kernel
theorem dX4_begin_17 : decode cX4_begin 17 = .ok (.ldc 79, 2) := by decide +kernel
theorem dX4_begin_19 : decode cX4_begin 19 = .ok (.invokespecial 60, 3) := by decide +kernel
theorem dX4_begin_22 : decode cX4_begin 22 = .ok (.athrow, 1) := by decide +kernel
theorem dX4_begin_23 : decode cX4_begin 23 = .ok (.aload_n 0, 1) := by decide +kernel
theorem dX4_begin_24 : decode cX4_begin 24 = .ok (.invokevirtual 63, 3) := by decide +kernel
theorem dX4_begin_27 : decode cX4_begin 27 = .ok (.aload_n 0, 1) := by decide +kernel
theorem dX4_begin_28 : decode cX4_begin 28 = .ok (.invokevirtual 81, 3) := by decide +kernel
theorem dX4_begin_31 : decode cX4_begin 31 = .ok (.aload_n 0, 1) := by decide +kernel
theorem dX4_begin_32 : decode cX4_begin 32 = .ok (.getfield 10, 3) := by decide +kernel
theorem dX4_begin_35 : decode cX4_begin 35 = .ok (.getfield 72, 3) := by decide +kernel
theorem dX4_begin_38 : decode cX4_begin 38 = .ok (.getfield 84, 3) := by decide +kernel
theorem dX4_begin_41 : decode cX4_begin 41 = .ok (.ireturn, 1) := by decide +kernel
set_option maxRecDepth 20000 in
theorem ggX4_abandon_X4_saveState : GoodIn wsX4_abandon wsX4_saveState := goodIn_r _ [11, 12, 13, 3, 14, 15, 16, 10, 17, 18, 19, 20, 21, 22, 23, 24, 25, 26, 27, 28, 29, 30, 31, 32, 33, 34, 35, 36, 37, 38, 39, 40, 41, 42, 43, 44, 45, 46, 47, 48, 49, 50, 51, 52, 53, 54, 65, 66, 67, 68, 69, 70, 71, 72, 73, 74, 75, 76, 77, 85, 86, 87, 88, 78, 79, 80, 81, 82, 83, 84] (by decide +kernel) (by decide +kernel)
set_option maxRecDepth 20000 in
theorem gX4_abandon_X4_saveState : GoodIn wsX4_abandon (wsV RX4 63 RX4 yX4_saveState wsX4_saveState) := goodIn_app (goodIn_of _ (by decide +kernel)) ggX4_abandon_X4_saveState
set_option maxRecDepth 20000 in
theorem ggX4_abandon_X4_abandonJob : GoodIn wsX4_abandon wsX4_abandonJob := goodIn_r _ [58, 3, 4, 59, 60, 61, 62, 44, 63, 46, 64, 47, 48, 49, 50, 65, 66, 67, 68, 69, 70, 71, 72, 73, 74, 75, 76, 77, 78, 79, 80, 81, 82, 83, 84, 85, 86, 87, 88] (by decide +kernel) (by decide +kernel)
set_option maxRecDepth 20000 in
theorem gX4_abandon_X4_abandonJob : GoodIn wsX4_abandon (wsV RX4 93 RX4 yX4_abandonJob wsX4_abandonJob) := goodIn_app (goodIn_of _ (by decide +kernel)) ggX4_abandon_X4_abandonJob
theorem dX4_abandon_0 : decode cX4_abandon 0 = .ok (.aload_n 0, 1) := by decide +kernel
theorem dX4_abandon_1 : decode cX4_abandon 1 = .ok (.getfield 10, 3) := by decide +kernel
theorem dX4_abandon_4 : decode cX4_abandon 4 = .ok (.getfield 72, 3) := by decide +kernel
theorem dX4_abandon_7 : decode cX4_abandon 7 = .ok (.getfield 75, 3) := by decide +kernel
theorem dX4_abandon_10 : decode cX4_abandon 10 = .ok (.ifCond .ne 13, 3) := by decide +kernel
theorem dX4_abandon_13 : decode cX4_abandon 13 = .ok (.new 56, 3) := by decide +kernel
theorem dX4_abandon_16 : decode cX4_abandon 16 = .ok (.dup, 1) := by decide +kernel
theorem dX4_abandon_17 : decode cX4_abandon 17 = .ok (.ldc 88, 2) := by decide +kernel
theorem dX4_abandon_19 : decode cX4_abandon 19 = .ok (.invokespecial 60, 3) := by decide +kernel
theorem dX4_abandon_22 : decode cX4_abandon 22 = .ok (.athrow, 1) := by decide +kernel
theorem dX4_abandon_23 : decode cX4_abandon 23 = .ok (.aload_n 0, 1) := by decide +kernel
theorem dX4_abandon_24 : decode cX4_abandon 24 = .ok (.invokevirtual 63, 3) := by decide +kernel
theorem dX4_abandon_27 : decode cX4_abandon 27 = .ok (.aload_n 0, 1) := by decide +kernel
theorem dX4_abandon_28 : decode cX4_abandon 28 = .ok (.getfield 10, 3) := by decide +kernel
theorem dX4_abandon_31 : decode cX4_abandon 31 = .ok (.getfield 72, 3) := by decide +kernel
theorem dX4_abandon_34 : decode cX4_abandon 34 = .ok (.getfield 90, 3) := by decide +kernel
theorem dX4_abandon_37 : decode cX4_abandon 37 = .ok (.istore_n 1, 1) := by decide +kernel
theorem dX4_abandon_38 : decode cX4_abandon 38 = .ok (.aload_n 0, 1) := by decide +kernel
theorem dX4_abandon_39 : decode cX4_abandon 39 = .ok (.invokevirtual 93, 3) := by decide +kernel
theorem dX4_abandon_42 : decode cX4_abandon 42 = .ok (.iload_n 1, 1) := by decide +kernel
theorem dX4_abandon_43 : decode cX4_abandon 43 = .ok (.ireturn, 1) := by decide +kernel
set_option maxRecDepth 20000 in
theorem ggX4_set_X4_checkSetting : GoodIn wsX4_set wsX4_checkSetting := goodIn_ca (goodIn_r _ [10, 11, 12] (by decide +kernel) (by decide +kernel)) (goodIn_sub (fun _ h => List.mem_cons_of_mem _ (List.mem_append_right _ h)) (by decide +kernel))
set_option maxRecDepth 20000 in
theorem gX4_set_X4_checkSetting : GoodIn wsX4_set (va_wsS RX4 96 yX4_checkSetting wsX4_checkSetting) := goodIn_app (goodIn_of _ (by decide +kernel)) ggX4_set_X4_checkSetting
set_option maxRecDepth 20000 in
theorem ggX4_set_X4_saveState : GoodIn wsX4_set wsX4_saveState := goodIn_r _ [16, 17, 18, 5, 19, 20, 21, 9, 22, 23, 24, 25, 26, 27, 28, 29, 30, 31, 32, 33, 34, 35, 36, 37, 38, 39, 40, 41, 42, 43, 44, 45, 46, 47, 48, 49, 50, 51, 52, 53, 54, 55, 56, 57, 58, 59, 60, 61, 62, 63, 64, 65, 66, 67, 68, 69, 70, 71, 72, 73, 74, 75, 76, 77, 78, 79, 80, 81, 82, 83] (by decide +kernel) (by decide +kernel)
set_option maxRecDepth 20000 in
theorem gX4_set_X4_saveState : GoodIn wsX4_set (wsV RX4 63 RX4 yX4_saveState wsX4_saveState) := goodIn_app (goodIn_of _ (by decide +kernel)) ggX4_set_X4_saveState
theorem dX4_set_0 : decode cX4_set 0 = .ok (.iload_n 1, 1) := by decide +kernel
theorem dX4_set_1 : decode cX4_set 1 = .ok (.invokestatic 96, 3) := by decide +kernel
theorem dX4_set_4 : decode cX4_set 4 = .ok (.iload_n 2, 1) := by decide +kernel
theorem dX4_set_5 : decode cX4_set 5 = .ok (.getstatic 99, 3) := by decide +kernel
theorem dX4_set_8 : decode cX4_set 8 = .ok (.iload_n 1, 1) := by decide +kernel
theorem dX4_set_9 : decode cX4_set 9 = .ok (.iaload, 1) := by decide +kernel
theorem dX4_set_10 : decode cX4_set 10 = .ok (.if_icmp .lt 12, 3) := by decide +kernel
theorem dX4_set_13 : decode cX4_set 13 = .ok (.iload_n 2, 1) := by decide +kernel
theorem dX4_set_14 : decode cX4_set 14 = .ok (.getstatic 102, 3) := by decide +kernel
theorem dX4_set_17 : decode cX4_set 17 = .ok (.iload_n 1, 1) := by decide +kernel
theorem dX4_set_18 : decode cX4_set 18 = .ok (.iaload, 1) := by decide +kernel
theorem dX4_set_19 : decode cX4_set 19 = .ok (.if_icmp .le 13, 3) := by decide +kernel
theorem dX4_set_22 : decode cX4_set 22 = .ok (.new 105, 3) := by decide +kernel
theorem dX4_set_25 : decode cX4_set 25 = .ok (.dup, 1) := by decide +kernel
theorem dX4_set_26 : decode cX4_set 26 = .ok (.ldc 107, 2) := by decide +kernel
theorem dX4_set_28 : decode cX4_set 28 = .ok (.invokespecial 109, 3) := by decide +kernel
theorem dX4_set_31 : decode cX4_set 31 = .ok (.athrow, 1) := by decide +kernel
theorem dX4_set_32 : decode cX4_set 32 = .ok (.aload_n 0, 1) := by decide +kernel
theorem dX4_set_33 : decode cX4_set 33 = .ok (.invokevirtual 63, 3) := by decide +kernel
theorem dX4_set_36 : decode cX4_set 36 = .ok (.aload_n 0, 1) := by decide +kernel
theorem dX4_set_37 : decode cX4_set 37 = .ok (.getfield 10, 3) := by decide +kernel
theorem dX4_set_40 : decode cX4_set 40 = .ok (.getfield 110, 3) := by decide +kernel
theorem dX4_set_43 : decode cX4_set 43 = .ok (.iload_n 1, 1) := by decide +kernel
theorem dX4_set_44 : decode cX4_set 44 = .ok (.iaload, 1) := by decide +kernel
theorem dX4_set_45 : decode cX4_set 45 = .ok (.istore_n 3, 1) := by decide +kernel
theorem dX4_set_46 : decode cX4_set 46 = .ok (.aload_n 0, 1) := by decide +kernel
theorem dX4_set_47 : decode cX4_set 47 = .ok (.getfield 10, 3) := by decide +kernel
theorem dX4_set_50 : decode cX4_set 50 = .ok (.getfield 110, 3) := by decide +kernel
theorem dX4_set_53 : decode cX4_set 53 = .ok (.iload_n 1, 1) := by decide +kernel
theorem dX4_set_54 : decode cX4_set 54 = .ok (.iload_n 2, 1) := by decide +kernel
theorem dX4_set_55 : decode cX4_set 55 = .ok (.iastore, 1) := by decide +kernel
theorem dX4_set_56 : decode cX4_set 56 = .ok (.iload_n 3, 1) := by decide +kernel
theorem dX4_set_57 : decode cX4_set 57 = .ok (.ireturn, 1) := by decide +kernel
set_option maxRecDepth 20000 in
theorem ggX4_append_X0_put : GoodIn wsX4_append wsX0_put := goodIn_r _ [11, 12, 13, 23, 24] (by decide +kernel) (by decide +kernel)
set_option maxRecDepth 20000 in
theorem gX4_append_X0_put : GoodIn wsX4_append (wsV RX4 120 RX0 yX0_put wsX0_put) := goodIn_app (goodIn_of _ (by decide +kernel)) ggX4_append_X0_put
theorem dX4_append_0 : decode cX4_append 0 = .ok (.iload_n 1, 1) := by decide +kernel
theorem dX4_append_1 : decode cX4_append 1 = .ok (.bipush 33, 2) := by decide +kernel
theorem dX4_append_3 : decode cX4_append 3 = .ok (.if_icmp .lt 9, 3) := by decide +kernel
theorem dX4_append_6 : decode cX4_append 6 = .ok (.iload_n 1, 1) := by decide +kernel
theorem dX4_append_7 : decode cX4_append 7 = .ok (.bipush 126, 2) := by decide +kernel
theorem dX4_append_9 : decode cX4_append 9 = .ok (.if_icmp .le 13, 3) := by decide +kernel
theorem dX4_append_12 : decode cX4_append 12 = .ok (.new 105, 3) := by decide +kernel
theorem dX4_append_15 : decode cX4_append 15 = .ok (.dup, 1) := by decide +kernel
theorem dX4_append_16 : decode cX4_append 16 = .ok (.ldc 113, 2) := by decide +kernel
theorem dX4_append_18 : decode cX4_append 18 = .ok (.invokespecial 109, 3) := by decide +kernel
theorem dX4_append_21 : decode cX4_append 21 = .ok (.athrow, 1) := by decide +kernel
theorem dX4_append_22 : decode cX4_append 22 = .ok (.aload_n 0, 1) := by decide +kernel
theorem dX4_append_23 : decode cX4_append 23 = .ok (.getfield 30, 3) := by decide +kernel
theorem dX4_append_26 : decode cX4_append 26 = .ok (.getfield 115, 3) := by decide +kernel
theorem dX4_append_29 : decode cX4_append 29 = .ok (.bipush 60, 2) := by decide +kernel
theorem dX4_append_31 : decode cX4_append 31 = .ok (.if_icmp .lt 13, 3) := by decide +kernel
theorem dX4_append_34 : decode cX4_append 34 = .ok (.new 56, 3) := by decide +kernel
theorem dX4_append_37 : decode cX4_append 37 = .ok (.dup, 1) := by decide +kernel
theorem dX4_append_38 : decode cX4_append 38 = .ok (.ldc 118, 2) := by decide +kernel
theorem dX4_append_40 : decode cX4_append 40 = .ok (.invokespecial 60, 3) := by decide +kernel
theorem dX4_append_43 : decode cX4_append 43 = .ok (.athrow, 1) := by decide +kernel
theorem dX4_append_44 : decode cX4_append 44 = .ok (.aload_n 0, 1) := by decide +kernel
theorem dX4_append_45 : decode cX4_append 45 = .ok (.getfield 30, 3) := by decide +kernel
theorem dX4_append_48 : decode cX4_append 48 = .ok (.iload_n 1, 1) := by decide +kernel
theorem dX4_append_49 : decode cX4_append 49 = .ok (.invokevirtual 120, 3) := by decide +kernel
theorem dX4_append_52 : decode cX4_append 52 = .ok (.aload_n 0, 1) := by decide +kernel
theorem dX4_append_53 : decode cX4_append 53 = .ok (.getfield 30, 3) := by decide +kernel
theorem dX4_append_56 : decode cX4_append 56 = .ok (.getfield 115, 3) := by decide +kernel
theorem dX4_append_59 : decode cX4_append 59 = .ok (.ireturn, 1) := by decide +kernel
set_option maxRecDepth 20000 in
theorem ggX4_firstError_X0_errorIndex : GoodIn wsX4_firstError wsX0_errorIndex := goodIn_r _ [6, 7, 8, 9, 10, 5, 11, 21, 22] (by decide +kernel) (by decide +kernel)
set_option maxRecDepth 20000 in
theorem gX4_firstError_X0_errorIndex : GoodIn wsX4_firstError (wsV RX4 123 RX0 yX0_errorIndex wsX0_errorIndex) := goodIn_app (goodIn_of _ (by decide +kernel)) ggX4_firstError_X0_errorIndex
theorem dX4_firstError_0 : decode cX4_firstError 0 = .ok (.aload_n 0, 1) := by decide +kernel
theorem dX4_firstError_1 : decode cX4_firstError 1 = .ok (.getfield 30, 3) := by decide +kernel
theorem dX4_firstError_4 : decode cX4_firstError 4 = .ok (.invokevirtual 123, 3) := by decide +kernel
theorem dX4_firstError_7 : decode cX4_firstError 7 = .ok (.ireturn, 1) := by decide +kernel
set_option maxRecDepth 20000 in
theorem ggX4_execute_X0_readInto : GoodIn wsX4_execute wsX0_readInto := goodIn_r _ [10, 11, 12, 13, 14, 9, 15, 16, 17, 18, 19, 20, 21, 215, 216] (by decide +kernel) (by decide +kernel)
set_option maxRecDepth 20000 in
theorem gX4_execute_X0_readInto : GoodIn wsX4_execute (wsV RX4 127 RX0 yX0_readInto wsX0_readInto) := goodIn_app (goodIn_of _ (by decide +kernel)) ggX4_execute_X0_readInto
set_option maxRecDepth 20000 in
theorem ggX4_execute_X4_saveState : GoodIn wsX4_execute wsX4_saveState := goodIn_r _ [26, 27, 28, 29, 30, 31, 32, 25, 33, 34, 35, 36, 37, 38, 39, 40, 41, 42, 43, 44, 45, 46, 47, 48, 49, 50, 51, 52, 53, 54, 55, 56, 57, 58, 59, 60, 61, 62, 63, 64, 65, 66, 67, 68, 69, 70, 206, 207, 208, 209, 210, 211, 212, 213, 214, 217, 218, 219, 220, 221, 222, 223, 224, 225, 226, 227, 228, 229, 230, 231] (by decide +kernel) (by decide +kernel)
set_option maxRecDepth 20000 in
theorem gX4_execute_X4_saveState : GoodIn wsX4_execute (wsV RX4 63 RX4 yX4_saveState wsX4_saveState) := goodIn_app (goodIn_of _ (by decide +kernel)) ggX4_execute_X4_saveState
set_option maxRecDepth 20000 in
theorem ggX4_execute_X4_wouldThrow : GoodIn wsX4_execute wsX4_wouldThrow := goodIn_r _ [74, 75, 76, 77, 25, 78, 29, 79, 80, 81, 82, 83, 50, 84, 85, 86, 87, 88, 53, 89, 90, 91, 92, 52, 206, 207, 208, 209, 210, 211, 212, 213, 214, 217, 218, 219, 220, 221, 222, 223, 224] (by decide +kernel) (by decide +kernel)
set_option maxRecDepth 20000 in
theorem gX4_execute_X4_wouldThrow : GoodIn wsX4_execute (wsV RX4 133 RX4 yX4_wouldThrow wsX4_wouldThrow) := goodIn_app (goodIn_of _ (by decide +kernel)) ggX4_execute_X4_wouldThrow
set_option maxRecDepth 20000 in
theorem ggX4_execute_X4_perform : GoodIn wsX4_execute wsX4_perform := goodIn_r _ [96, 29, 79, 97, 98, 99, 100, 101, 50, 102, 55, 89, 90, 91, 92, 52, 53, 103, 104, 105, 106, 56, 107, 108, 109, 110, 54, 43, 44, 45, 111, 112, 113, 114, 115, 116, 117, 25, 118, 119, 120, 121, 122, 123, 124, 125, 126, 127, 60, 128, 62, 129, 63, 64, 65, 66, 130, 131, 132, 133, 69, 134, 135, 136, 137, 138, 139, 140, 141, 142, 67, 143, 144, 145, 146, 147, 68, 148, 149, 150, 151, 152, 153, 154, 155, 156, 157, 158, 48, 49, 51, 159, 160, 161, 162, 80, 163, 164, 165, 166, 167, 168, 169, 170, 171, 172, 173, 174, 175, 176, 177, 178, 179, 180, 181, 182, 183, 184, 185, 186, 187, 188, 189, 190, 191, 192, 193, 194, 195, 196, 197, 198, 199, 200, 201, 202, 203, 204, 205, 206, 207, 208, 209, 210, 211, 212, 213, 214, 217, 218, 219, 220, 225, 226, 227, 228, 229, 230, 231, 221, 222, 223, 224] (by decide +kernel) (by decide +kernel)
set_option maxRecDepth 20000 in
theorem gX4_execute_X4_perform : GoodIn wsX4_execute (wsV RX4 66 RX4 yX4_perform wsX4_perform) := goodIn_app (goodIn_of _ (by decide +kernel)) ggX4_execute_X4_perform
theorem dX4_execute_0 : decode cX4_execute 0 = .ok (.aload_n 0, 1) := by decide +kernel
theorem dX4_execute_1 : decode cX4_execute 1 = .ok (.getfield 30, 3) := by decide +kernel
theorem dX4_execute_4 : decode cX4_execute 4 = .ok (.aload_n 0, 1) := by decide +kernel
theorem dX4_execute_5 : decode cX4_execute 5 = .ok (.getfield 34, 3) := by decide +kernel
theorem dX4_execute_8 : decode cX4_execute 8 = .ok (.invokevirtual 127, 3) := by decide +kernel
theorem dX4_execute_11 : decode cX4_execute 11 = .ok (.istore_n 1, 1) := by decide +kernel
theorem dX4_execute_12 : decode cX4_execute 12 = .ok (.iload_n 1, 1) := by decide +kernel
theorem dX4_execute_13 : decode cX4_execute 13 = .ok (.iconst (-1), 1) := by decide +kernel
theorem dX4_execute_14 : decode cX4_execute 14 = .ok (.if_icmp .ne 13, 3) := by decide +kernel
theorem dX4_execute_17 : decode cX4_execute 17 = .ok (.new 105, 3) := by decide +kernel
theorem dX4_execute_20 : decode cX4_execute 20 = .ok (.dup, 1) := by decide +kernel
theorem dX4_execute_21 : decode cX4_execute 21 = .ok (.ldc 131, 2) := by decide +kernel
theorem dX4_execute_23 : decode cX4_execute 23 = .ok (.invokespecial 109, 3) := by decide +kernel
theorem dX4_execute_26 : decode cX4_execute 26 = .ok (.athrow, 1) := by decide +kernel
theorem dX4_execute_27 : decode cX4_execute 27 = .ok (.aload_n 0, 1) := by decide +kernel
theorem dX4_execute_28 : decode cX4_execute 28 = .ok (.invokevirtual 63, 3) := by decide +kernel
theorem dX4_execute_31 : decode cX4_execute 31 = .ok (.aload_n 0, 1) := by decide +kernel
theorem dX4_execute_32 : decode cX4_execute 32 = .ok (.getfield 30, 3) := by decide +kernel
theorem dX4_execute_35 : decode cX4_execute 35 = .ok (.iconst 0, 1) := by decide +kernel
theorem dX4_execute_36 : decode cX4_execute 36 = .ok (.putfield 115, 3) := by decide +kernel
theorem dX4_execute_39 : decode cX4_execute 39 = .ok (.iconst 0, 1) := by decide +kernel
theorem dX4_execute_40 : decode cX4_execute 40 = .ok (.istore_n 2, 1) := by decide +kernel
theorem dX4_execute_41 : decode cX4_execute 41 = .ok (.iload_n 2, 1) := by decide +kernel
theorem dX4_execute_42 : decode cX4_execute 42 = .ok (.iload_n 1, 1) := by decide +kernel
theorem dX4_execute_43 : decode cX4_execute 43 = .ok (.if_icmp .ge 35, 3) := by decide +kernel
theorem dX4_execute_46 : decode cX4_execute 46 = .ok (.aload_n 0, 1) := by decide +kernel
theorem dX4_execute_47 : decode cX4_execute 47 = .ok (.aload_n 0, 1) := by decide +kernel
theorem dX4_execute_48 : decode cX4_execute 48 = .ok (.getfield 34, 3) := by decide +kernel
theorem dX4_execute_51 : decode cX4_execute 51 = .ok (.iload_n 2, 1) := by decide +kernel
theorem dX4_execute_52 : decode cX4_execute 52 = .ok (.iaload, 1) := by decide +kernel
theorem dX4_execute_53 : decode cX4_execute 53 = .ok (.invokevirtual 133, 3) := by decide +kernel
theorem dX4_execute_56 : decode cX4_execute 56 = .ok (.ifCond .eq 5, 3) := by decide +kernel
theorem dX4_execute_59 : decode cX4_execute 59 = .ok (.iload_n 2, 1) := by decide +kernel
theorem dX4_execute_60 : decode cX4_execute 60 = .ok (.ireturn, 1) := by decide +kernel
theorem dX4_execute_61 : decode cX4_execute 61 = .ok (.aload_n 0, 1) := by decide +kernel
theorem dX4_execute_62 : decode cX4_execute 62 = .ok (.aload_n 0, 1) := by decide +kernel
theorem dX4_execute_63 : decode cX4_execute 63 = .ok (.getfield 34, 3) := by decide +kernel
theorem dX4_execute_66 : decode cX4_execute 66 = .ok (.iload_n 2, 1) := by decide +kernel
theorem dX4_execute_67 : decode cX4_execute 67 = .ok (.iaload, 1) := by decide +kernel
theorem dX4_execute_68 : decode cX4_execute 68 = .ok (.invokevirtual 66, 3) := by decide +kernel
theorem dX4_execute_71 : decode cX4_execute 71 = .ok (.pop, 1) := by decide +kernel
theorem dX4_execute_72 : decode cX4_execute 72 = .ok (.iinc 2 1, 3) := by decide +kernel
theorem dX4_execute_75 : decode cX4_execute 75 = .ok (.goto (-34), 3) := by decide +kernel
theorem dX4_execute_78 : decode cX4_execute 78 = .ok (.iload_n 1, 1) := by decide +kernel
theorem dX4_execute_79 : decode cX4_execute 79 = .ok (.ireturn, 1) := by decide +kernel
set_option maxRecDepth 20000 in
theorem ggX4_undo_X2_becomeCopyOf : GoodIn wsX4_undo wsX2_becomeCopyOf := goodIn_r _ [10, 11, 12, 13, 14, 15, 16, 17, 18, 19, 20, 21, 22, 23, 24, 25, 26, 27, 28, 29, 30, 31, 32, 33, 34, 35, 36, 37, 38, 39, 40, 41, 42, 52, 53, 54, 55, 56, 57, 58, 59, 60, 61, 62, 63, 64, 65, 66] (by decide +kernel) (by decide +kernel)
set_option maxRecDepth 20000 in
theorem gX4_undo_X2_becomeCopyOf : GoodIn wsX4_undo (wsV RX4 141 RX2 yX2_becomeCopyOf wsX2_becomeCopyOf) := goodIn_app (goodIn_of _ (by decide +kernel)) ggX4_undo_X2_becomeCopyOf
theorem dX4_undo_0 : decode cX4_undo 0 = .ok (.aload_n 0, 1) := by decide +kernel
theorem dX4_undo_1 : decode cX4_undo 1 = .ok (.getfield 136, 3) := by decide +kernel
theorem dX4_undo_4 : decode cX4_undo 4 = .ok (.ifCond .ne 13, 3) := by decide +kernel
theorem dX4_undo_7 : decode cX4_undo 7 = .ok (.new 56, 3) := by decide +kernel
theorem dX4_undo_10 : decode cX4_undo 10 = .ok (.dup, 1) := by decide +kernel
theorem dX4_undo_11 : decode cX4_undo 11 = .ok (.ldc 139, 2) := by decide +kernel
theorem dX4_undo_13 : decode cX4_undo 13 = .ok (.invokespecial 60, 3) := by decide +kernel
theorem dX4_undo_16 : decode cX4_undo 16 = .ok (.athrow, 1) := by decide +kernel
theorem dX4_undo_17 : decode cX4_undo 17 = .ok (.aload_n 0, 1) := by decide +kernel
theorem dX4_undo_18 : decode cX4_undo 18 = .ok (.dup, 1) := by decide +kernel
theorem dX4_undo_19 : decode cX4_undo 19 = .ok (.getfield 136, 3) := by decide +kernel
theorem dX4_undo_22 : decode cX4_undo 22 = .ok (.iconst 1, 1) := by decide +kernel
theorem dX4_undo_23 : decode cX4_undo 23 = .ok (.isub, 1) := by decide +kernel
theorem dX4_undo_24 : decode cX4_undo 24 = .ok (.putfield 136, 3) := by decide +kernel
theorem dX4_undo_27 : decode cX4_undo 27 = .ok (.aload_n 0, 1) := by decide +kernel
theorem dX4_undo_28 : decode cX4_undo 28 = .ok (.getfield 10, 3) := by decide +kernel
theorem dX4_undo_31 : decode cX4_undo 31 = .ok (.aload_n 0, 1) := by decide +kernel
theorem dX4_undo_32 : decode cX4_undo 32 = .ok (.getfield 16, 3) := by decide +kernel
theorem dX4_undo_35 : decode cX4_undo 35 = .ok (.aload_n 0, 1) := by decide +kernel
theorem dX4_undo_36 : decode cX4_undo 36 = .ok (.getfield 136, 3) := by decide +kernel
theorem dX4_undo_39 : decode cX4_undo 39 = .ok (.aaload, 1) := by decide +kernel
theorem dX4_undo_40 : decode cX4_undo 40 = .ok (.invokevirtual 141, 3) := by decide +kernel
theorem dX4_undo_43 : decode cX4_undo 43 = .ok (.aload_n 0, 1) := by decide +kernel
theorem dX4_undo_44 : decode cX4_undo 44 = .ok (.getfield 136, 3) := by decide +kernel
theorem dX4_undo_47 : decode cX4_undo 47 = .ok (.ireturn, 1) := by decide +kernel
set_option maxRecDepth 20000 in
theorem ggX4_keep_X4_checkSlot : GoodIn wsX4_keep wsX4_checkSlot := goodIn_ca (goodIn_r _ [8, 9, 10] (by decide +kernel) (by decide +kernel)) (goodIn_sub (fun _ h => List.mem_cons_of_mem _ (List.mem_append_right _ h)) (by decide +kernel))
set_option maxRecDepth 20000 in
theorem gX4_keep_X4_checkSlot : GoodIn wsX4_keep (va_wsS RX4 145 yX4_checkSlot wsX4_checkSlot) := goodIn_app (goodIn_of _ (by decide +kernel)) ggX4_keep_X4_checkSlot
set_option maxRecDepth 20000 in
theorem ggX4_keep_X2_becomeCopyOf : GoodIn wsX4_keep wsX2_becomeCopyOf := goodIn_r _ [15, 16, 17, 18, 19, 20, 21, 22, 23, 24, 25, 26, 27, 28, 29, 30, 31, 32, 33, 34, 35, 36, 37, 38, 39, 40, 41, 42, 43, 44, 45, 46, 47, 65, 66, 67, 68, 69, 70, 71, 72, 73, 74, 75, 76, 77, 78, 79] (by decide +kernel) (by decide +kernel)
set_option maxRecDepth 20000 in
theorem gX4_keep_X2_becomeCopyOf : GoodIn wsX4_keep (wsV RX4 141 RX2 yX2_becomeCopyOf wsX2_becomeCopyOf) := goodIn_app (goodIn_of _ (by decide +kernel)) ggX4_keep_X2_becomeCopyOf
set_option maxRecDepth 20000 in
theorem ggX4_keep_X3_presentKeys : GoodIn wsX4_keep wsX3_presentKeys := goodIn_r _ [51, 29, 52, 53, 54, 27, 55, 33, 69, 70, 71, 72] (by decide +kernel) (by decide +kernel)
set_option maxRecDepth 20000 in
theorem gX4_keep_X3_presentKeys : GoodIn wsX4_keep (wsV RX4 152 RX3 yX3_presentKeys wsX3_presentKeys) := goodIn_app (goodIn_of _ (by decide +kernel)) ggX4_keep_X3_presentKeys
theorem dX4_keep_0 : decode cX4_keep 0 = .ok (.iload_n 1, 1) := by decide +kernel
theorem dX4_keep_1 : decode cX4_keep 1 = .ok (.invokestatic 145, 3) := by decide +kernel
theorem dX4_keep_4 : decode cX4_keep 4 = .ok (.aload_n 0, 1) := by decide +kernel
theorem dX4_keep_5 : decode cX4_keep 5 = .ok (.getfield 20, 3) := by decide +kernel
theorem dX4_keep_8 : decode cX4_keep 8 = .ok (.iload_n 1, 1) := by decide +kernel
theorem dX4_keep_9 : decode cX4_keep 9 = .ok (.aaload, 1) := by decide +kernel
theorem dX4_keep_10 : decode cX4_keep 10 = .ok (.aload_n 0, 1) := by decide +kernel
theorem dX4_keep_11 : decode cX4_keep 11 = .ok (.getfield 10, 3) := by decide +kernel
theorem dX4_keep_14 : decode cX4_keep 14 = .ok (.invokevirtual 141, 3) := by decide +kernel
theorem dX4_keep_17 : decode cX4_keep 17 = .ok (.aload_n 0, 1) := by decide +kernel
theorem dX4_keep_18 : decode cX4_keep 18 = .ok (.getfield 23, 3) := by decide +kernel
theorem dX4_keep_21 : decode cX4_keep 21 = .ok (.iload_n 1, 1) := by decide +kernel
theorem dX4_keep_22 : decode cX4_keep 22 = .ok (.iconst 1, 1) := by decide +kernel
theorem dX4_keep_23 : decode cX4_keep 23 = .ok (.bastore, 1) := by decide +kernel
theorem dX4_keep_24 : decode cX4_keep 24 = .ok (.aload_n 0, 1) := by decide +kernel
theorem dX4_keep_25 : decode cX4_keep 25 = .ok (.getfield 10, 3) := by decide +kernel
theorem dX4_keep_28 : decode cX4_keep 28 = .ok (.getfield 148, 3) := by decide +kernel
theorem dX4_keep_31 : decode cX4_keep 31 = .ok (.invokevirtual 152, 3) := by decide +kernel
theorem dX4_keep_34 : decode cX4_keep 34 = .ok (.ireturn, 1) := by decide +kernel
set_option maxRecDepth 20000 in
theorem ggX4_goBack_X4_checkSlot : GoodIn wsX4_goBack wsX4_checkSlot := goodIn_ca (goodIn_r _ [10, 11, 12] (by decide +kernel) (by decide +kernel)) (goodIn_sub (fun _ h => List.mem_cons_of_mem _ (List.mem_append_right _ h)) (by decide +kernel))
set_option maxRecDepth 20000 in
theorem gX4_goBack_X4_checkSlot : GoodIn wsX4_goBack (va_wsS RX4 145 yX4_checkSlot wsX4_checkSlot) := goodIn_app (goodIn_of _ (by decide +kernel)) ggX4_goBack_X4_checkSlot
set_option maxRecDepth 20000 in
theorem ggX4_goBack_X4_saveState : GoodIn wsX4_goBack wsX4_saveState := goodIn_r _ [16, 17, 18, 4, 19, 20, 21, 9, 22, 23, 24, 25, 26, 27, 28, 29, 30, 31, 32, 33, 34, 35, 36, 37, 38, 39, 40, 41, 42, 43, 44, 45, 46, 47, 48, 49, 50, 51, 52, 53, 54, 55, 56, 57, 58, 59, 68, 69, 70, 71, 72, 73, 74, 75, 76, 77, 78, 79, 80, 81, 82, 83, 84, 85, 86, 87, 88, 89, 90, 91] (by decide +kernel) (by decide +kernel)
set_option maxRecDepth 20000 in
theorem gX4_goBack_X4_saveState : GoodIn wsX4_goBack (wsV RX4 63 RX4 yX4_saveState wsX4_saveState) := goodIn_app (goodIn_of _ (by decide +kernel)) ggX4_goBack_X4_saveState
set_option maxRecDepth 20000 in
theorem ggX4_goBack_X2_becomeCopyOf : GoodIn wsX4_goBack wsX2_becomeCopyOf := goodIn_r _ [27, 28, 29, 30, 31, 32, 33, 34, 35, 36, 37, 38, 39, 40, 41, 42, 43, 44, 45, 46, 47, 48, 49, 50, 51, 52, 53, 54, 55, 56, 57, 58, 59, 77, 78, 79, 80, 81, 82, 83, 84, 85, 86, 87, 88, 89, 90, 91] (by decide +kernel) (by decide +kernel)
set_option maxRecDepth 20000 in
theorem gX4_goBack_X2_becomeCopyOf : GoodIn wsX4_goBack (wsV RX4 141 RX2 yX2_becomeCopyOf wsX2_becomeCopyOf) := goodIn_app (goodIn_of _ (by decide +kernel)) ggX4_goBack_X2_becomeCopyOf
set_option maxRecDepth 20000 in
theorem ggX4_goBack_X3_presentKeys : GoodIn wsX4_goBack wsX3_presentKeys := goodIn_r _ [63, 41, 64, 65, 66, 39, 67, 45, 81, 82, 83, 84] (by decide +kernel) (by decide +kernel)
set_option maxRecDepth 20000 in
theorem gX4_goBack_X3_presentKeys : GoodIn wsX4_goBack (wsV RX4 152 RX3 yX3_presentKeys wsX3_presentKeys) := goodIn_app (goodIn_of _ (by decide +kernel)) ggX4_goBack_X3_presentKeys
theorem dX4_goBack_0 : decode cX4_goBack 0 = .ok (.iload_n 1, 1) := by decide +kernel
theorem dX4_goBack_1 : decode cX4_goBack 1 = .ok (.invokestatic 145, 3) := by decide +kernel
theorem dX4_goBack_4 : decode cX4_goBack 4 = .ok (.aload_n 0, 1) := by decide +kernel
theorem dX4_goBack_5 : decode cX4_goBack 5 = .ok (.getfield 23, 3) := by decide +kernel
theorem dX4_goBack_8 : decode cX4_goBack 8 = .ok (.iload_n 1, 1) := by decide +kernel
theorem dX4_goBack_9 : decode cX4_goBack 9 = .ok (.baload, 1) := by decide +kernel
theorem dX4_goBack_10 : decode cX4_goBack 10 = .ok (.ifCond .ne 13, 3) := by decide +kernel
theorem dX4_goBack_13 : decode cX4_goBack 13 = .ok (.new 56, 3) := by decide +kernel
theorem dX4_goBack_16 : decode cX4_goBack 16 = .ok (.dup, 1) := by decide +kernel
theorem dX4_goBack_17 : decode cX4_goBack 17 = .ok (.ldc 157, 2) := by decide +kernel
theorem dX4_goBack_19 : decode cX4_goBack 19 = .ok (.invokespecial 60, 3) := by decide +kernel
theorem dX4_goBack_22 : decode cX4_goBack 22 = .ok (.athrow, 1) := by decide +kernel
theorem dX4_goBack_23 : decode cX4_goBack 23 = .ok (.aload_n 0, 1) := by decide +kernel
theorem dX4_goBack_24 : decode cX4_goBack 24 = .ok (.invokevirtual 63, 3) := by decide +kernel
theorem dX4_goBack_27 : decode cX4_goBack 27 = .ok (.aload_n 0, 1) := by decide +kernel
theorem dX4_goBack_28 : decode cX4_goBack 28 = .ok (.getfield 10, 3) := by decide +kernel
theorem dX4_goBack_31 : decode cX4_goBack 31 = .ok (.aload_n 0, 1) := by decide +kernel
theorem dX4_goBack_32 : decode cX4_goBack 32 = .ok (.getfield 20, 3) := by decide +kernel
theorem dX4_goBack_35 : decode cX4_goBack 35 = .ok (.iload_n 1, 1) := by decide +kernel
theorem dX4_goBack_36 : decode cX4_goBack 36 = .ok (.aaload, 1) := by decide +kernel
theorem dX4_goBack_37 : decode cX4_goBack 37 = .ok (.invokevirtual 141, 3) := by decide +kernel
theorem dX4_goBack_40 : decode cX4_goBack 40 = .ok (.aload_n 0, 1) := by decide +kernel
theorem dX4_goBack_41 : decode cX4_goBack 41 = .ok (.getfield 10, 3) := by decide +kernel
theorem dX4_goBack_44 : decode cX4_goBack 44 = .ok (.getfield 148, 3) := by decide +kernel
theorem dX4_goBack_47 : decode cX4_goBack 47 = .ok (.invokevirtual 152, 3) := by decide +kernel
theorem dX4_goBack_50 : decode cX4_goBack 50 = .ok (.ireturn, 1) := by decide +kernel
set_option maxRecDepth 20000 in
theorem ggX4_contains_X4_checkKey : GoodIn wsX4_contains wsX4_checkKey := goodIn_ca (goodIn_r _ [6, 7, 8] (by decide +kernel) (by decide +kernel)) (goodIn_sub (fun _ h => List.mem_cons_of_mem _ (List.mem_append_right _ h)) (by decide +kernel))
set_option maxRecDepth 20000 in
theorem gX4_contains_X4_checkKey : GoodIn wsX4_contains (va_wsS RX4 48 yX4_checkKey wsX4_checkKey) := goodIn_app (goodIn_of _ (by decide +kernel)) ggX4_contains_X4_checkKey
set_option maxRecDepth 20000 in
theorem ggX4_contains_X3_hasPresent : GoodIn wsX4_contains wsX3_hasPresent := goodIn_r _ [13, 14, 15, 16, 17, 12, 18, 19, 20, 21, 22, 23, 24, 38, 39, 40, 41] (by decide +kernel) (by decide +kernel)
set_option maxRecDepth 20000 in
theorem gX4_contains_X3_hasPresent : GoodIn wsX4_contains (wsV RX4 159 RX3 yX3_hasPresent wsX3_hasPresent) := goodIn_app (goodIn_of _ (by decide +kernel)) ggX4_contains_X3_hasPresent
theorem dX4_contains_0 : decode cX4_contains 0 = .ok (.iload_n 1, 1) := by decide +kernel
theorem dX4_contains_1 : decode cX4_contains 1 = .ok (.invokestatic 48, 3) := by decide +kernel
theorem dX4_contains_4 : decode cX4_contains 4 = .ok (.aload_n 0, 1) := by decide +kernel
theorem dX4_contains_5 : decode cX4_contains 5 = .ok (.getfield 10, 3) := by decide +kernel
theorem dX4_contains_8 : decode cX4_contains 8 = .ok (.getfield 148, 3) := by decide +kernel
theorem dX4_contains_11 : decode cX4_contains 11 = .ok (.iload_n 1, 1) := by decide +kernel
theorem dX4_contains_12 : decode cX4_contains 12 = .ok (.invokevirtual 159, 3) := by decide +kernel
theorem dX4_contains_15 : decode cX4_contains 15 = .ok (.ireturn, 1) := by decide +kernel
set_option maxRecDepth 20000 in
theorem ggX4_near_X4_checkKey : GoodIn wsX4_near wsX4_checkKey := goodIn_ca (goodIn_r _ [6, 7, 8] (by decide +kernel) (by decide +kernel)) (goodIn_sub (fun _ h => List.mem_cons_of_mem _ (List.mem_append_right _ h)) (by decide +kernel))
set_option maxRecDepth 20000 in
theorem gX4_near_X4_checkKey : GoodIn wsX4_near (va_wsS RX4 48 yX4_checkKey wsX4_checkKey) := goodIn_app (goodIn_of _ (by decide +kernel)) ggX4_near_X4_checkKey
set_option maxRecDepth 20000 in
theorem ggX4_near_X4_checkWhat : GoodIn wsX4_near wsX4_checkWhat := goodIn_ca (goodIn_r _ [11, 7, 8] (by decide +kernel) (by decide +kernel)) (goodIn_sub (fun _ h => List.mem_cons_of_mem _ (List.mem_append_right _ h)) (by decide +kernel))
set_option maxRecDepth 20000 in
theorem gX4_near_X4_checkWhat : GoodIn wsX4_near (va_wsS RX4 162 yX4_checkWhat wsX4_checkWhat) := goodIn_app (goodIn_of _ (by decide +kernel)) ggX4_near_X4_checkWhat
set_option maxRecDepth 20000 in
theorem ggX4_near_X3_greatestUpTo : GoodIn wsX4_near wsX3_greatestUpTo := goodIn_r _ [16, 17, 18, 19, 37, 38, 39, 40] (by decide +kernel) (by decide +kernel)
set_option maxRecDepth 20000 in
theorem gX4_near_X3_greatestUpTo : GoodIn wsX4_near (wsV RX4 166 RX3 yX3_greatestUpTo wsX3_greatestUpTo) := goodIn_app (goodIn_of _ (by decide +kernel)) ggX4_near_X3_greatestUpTo
set_option maxRecDepth 20000 in
theorem ggX4_near_X3_leastFrom : GoodIn wsX4_near wsX3_leastFrom := goodIn_r _ [23, 17, 18, 19, 37, 38, 39, 40] (by decide +kernel) (by decide +kernel)
set_option maxRecDepth 20000 in
theorem gX4_near_X3_leastFrom : GoodIn wsX4_near (wsV RX4 170 RX3 yX3_leastFrom wsX3_leastFrom) := goodIn_app (goodIn_of _ (by decide +kernel)) ggX4_near_X3_leastFrom
theorem dX4_near_0 : decode cX4_near 0 = .ok (.iload_n 1, 1) := by decide +kernel
theorem dX4_near_1 : decode cX4_near 1 = .ok (.invokestatic 48, 3) := by decide +kernel
theorem dX4_near_4 : decode cX4_near 4 = .ok (.iload_n 2, 1) := by decide +kernel
theorem dX4_near_5 : decode cX4_near 5 = .ok (.iconst 3, 1) := by decide +kernel
theorem dX4_near_6 : decode cX4_near 6 = .ok (.invokestatic 162, 3) := by decide +kernel
theorem dX4_near_9 : decode cX4_near 9 = .ok (.iload_n 2, 1) := by decide +kernel
theorem dX4_near_10 : decode cX4_near 10 = .ok (.tableswitch 64 0 2 #[26, 38, 50], 26) := by decide +kernel
theorem dX4_near_36 : decode cX4_near 36 = .ok (.aload_n 0, 1) := by decide +kernel
theorem dX4_near_37 : decode cX4_near 37 = .ok (.getfield 10, 3) := by decide +kernel
theorem dX4_near_40 : decode cX4_near 40 = .ok (.getfield 148, 3) := by decide +kernel
theorem dX4_near_43 : decode cX4_near 43 = .ok (.iload_n 1, 1) := by decide +kernel
theorem dX4_near_44 : decode cX4_near 44 = .ok (.invokevirtual 166, 3) := by decide +kernel
theorem dX4_near_47 : decode cX4_near 47 = .ok (.ireturn, 1) := by decide +kernel
theorem dX4_near_48 : decode cX4_near 48 = .ok (.aload_n 0, 1) := by decide +kernel
theorem dX4_near_49 : decode cX4_near 49 = .ok (.getfield 10, 3) := by decide +kernel
theorem dX4_near_52 : decode cX4_near 52 = .ok (.getfield 148, 3) := by decide +kernel
theorem dX4_near_55 : decode cX4_near 55 = .ok (.iload_n 1, 1) := by decide +kernel
theorem dX4_near_56 : decode cX4_near 56 = .ok (.invokevirtual 170, 3) := by decide +kernel
theorem dX4_near_59 : decode cX4_near 59 = .ok (.ireturn, 1) := by decide +kernel
theorem dX4_near_60 : decode cX4_near 60 = .ok (.aload_n 0, 1) := by decide +kernel
theorem dX4_near_61 : decode cX4_near 61 = .ok (.getfield 10, 3) := by decide +kernel
theorem dX4_near_64 : decode cX4_near 64 = .ok (.getfield 148, 3) := by decide +kernel
theorem dX4_near_67 : decode cX4_near 67 = .ok (.iload_n 1, 1) := by decide +kernel
theorem dX4_near_68 : decode cX4_near 68 = .ok (.iconst 1, 1) := by decide +kernel
theorem dX4_near_69 : decode cX4_near 69 = .ok (.isub, 1) := by decide +kernel
theorem dX4_near_70 : decode cX4_near 70 = .ok (.invokevirtual 166, 3) := by decide +kernel
theorem dX4_near_73 : decode cX4_near 73 = .ok (.ireturn, 1) := by decide +kernel
theorem dX4_near_74 : decode cX4_near 74 = .ok (.aload_n 0, 1) := by decide +kernel
theorem dX4_near_75 : decode cX4_near 75 = .ok (.getfield 10, 3) := by decide +kernel
theorem dX4_near_78 : decode cX4_near 78 = .ok (.getfield 148, 3) := by decide +kernel
theorem dX4_near_81 : decode cX4_near 81 = .ok (.iload_n 1, 1) := by decide +kernel
theorem dX4_near_82 : decode cX4_near 82 = .ok (.iconst 1, 1) := by decide +kernel
theorem dX4_near_83 : decode cX4_near 83 = .ok (.iadd, 1) := by decide +kernel
theorem dX4_near_84 : decode cX4_near 84 = .ok (.invokevirtual 170, 3) := by decide +kernel
theorem dX4_near_87 : decode cX4_near 87 = .ok (.ireturn, 1) := by decide +kernel
set_option maxRecDepth 20000 in
theorem ggX4_rank_X4_checkKey : GoodIn wsX4_rank wsX4_checkKey := goodIn_ca (goodIn_r _ [6, 7, 8] (by decide +kernel) (by decide +kernel)) (goodIn_sub (fun _ h => List.mem_cons_of_mem _ (List.mem_append_right _ h)) (by decide +kernel))
set_option maxRecDepth 20000 in
theorem gX4_rank_X4_checkKey : GoodIn wsX4_rank (va_wsS RX4 48 yX4_checkKey wsX4_checkKey) := goodIn_app (goodIn_of _ (by decide +kernel)) ggX4_rank_X4_checkKey
set_option maxRecDepth 20000 in
theorem ggX4_rank_X3_presentBelow : GoodIn wsX4_rank wsX3_presentBelow := goodIn_r _ [13, 14, 15, 16, 30, 31, 32, 33] (by decide +kernel) (by decide +kernel)
set_option maxRecDepth 20000 in
theorem gX4_rank_X3_presentBelow : GoodIn wsX4_rank (wsV RX4 173 RX3 yX3_presentBelow wsX3_presentBelow) := goodIn_app (goodIn_of _ (by decide +kernel)) ggX4_rank_X3_presentBelow
theorem dX4_rank_0 : decode cX4_rank 0 = .ok (.iload_n 1, 1) := by decide +kernel
theorem dX4_rank_1 : decode cX4_rank 1 = .ok (.invokestatic 48, 3) := by decide +kernel
theorem dX4_rank_4 : decode cX4_rank 4 = .ok (.aload_n 0, 1) := by decide +kernel
theorem dX4_rank_5 : decode cX4_rank 5 = .ok (.getfield 10, 3) := by decide +kernel
theorem dX4_rank_8 : decode cX4_rank 8 = .ok (.getfield 148, 3) := by decide +kernel
theorem dX4_rank_11 : decode cX4_rank 11 = .ok (.iload_n 1, 1) := by decide +kernel
theorem dX4_rank_12 : decode cX4_rank 12 = .ok (.invokevirtual 173, 3) := by decide +kernel
theorem dX4_rank_15 : decode cX4_rank 15 = .ok (.ireturn, 1) := by decide +kernel
set_option maxRecDepth 20000 in
theorem ggX4_keyAt_X3_tellPresence : GoodIn wsX4_keyAt wsX3_tellPresence := goodIn_r _ [10, 11, 12, 13, 27, 28, 29, 30] (by decide +kernel) (by decide +kernel)
set_option maxRecDepth 20000 in
theorem gX4_keyAt_X3_tellPresence : GoodIn wsX4_keyAt (wsV RX4 178 RX3 yX3_tellPresence wsX3_tellPresence) := goodIn_app (goodIn_of _ (by decide +kernel)) ggX4_keyAt_X3_tellPresence
theorem dX4_keyAt_0 : decode cX4_keyAt 0 = .ok (.iload_n 1, 1) := by decide +kernel
theorem dX4_keyAt_1 : decode cX4_keyAt 1 = .ok (.ifCond .ge 13, 3) := by decide +kernel
theorem dX4_keyAt_4 : decode cX4_keyAt 4 = .ok (.new 105, 3) := by decide +kernel
theorem dX4_keyAt_7 : decode cX4_keyAt 7 = .ok (.dup, 1) := by decide +kernel
theorem dX4_keyAt_8 : decode cX4_keyAt 8 = .ok (.ldc 176, 2) := by decide +kernel
theorem dX4_keyAt_10 : decode cX4_keyAt 10 = .ok (.invokespecial 109, 3) := by decide +kernel
theorem dX4_keyAt_13 : decode cX4_keyAt 13 = .ok (.athrow, 1) := by decide +kernel
theorem dX4_keyAt_14 : decode cX4_keyAt 14 = .ok (.aload_n 0, 1) := by decide +kernel
theorem dX4_keyAt_15 : decode cX4_keyAt 15 = .ok (.getfield 10, 3) := by decide +kernel
theorem dX4_keyAt_18 : decode cX4_keyAt 18 = .ok (.getfield 148, 3) := by decide +kernel
theorem dX4_keyAt_21 : decode cX4_keyAt 21 = .ok (.aload_n 0, 1) := by decide +kernel
theorem dX4_keyAt_22 : decode cX4_keyAt 22 = .ok (.getfield 38, 3) := by decide +kernel
theorem dX4_keyAt_25 : decode cX4_keyAt 25 = .ok (.invokevirtual 178, 3) := by decide +kernel
theorem dX4_keyAt_28 : decode cX4_keyAt 28 = .ok (.iconst 0, 1) := by decide +kernel
theorem dX4_keyAt_29 : decode cX4_keyAt 29 = .ok (.istore_n 2, 1) := by decide +kernel
theorem dX4_keyAt_30 : decode cX4_keyAt 30 = .ok (.iconst 0, 1) := by decide +kernel
theorem dX4_keyAt_31 : decode cX4_keyAt 31 = .ok (.istore_n 3, 1) := by decide +kernel
theorem dX4_keyAt_32 : decode cX4_keyAt 32 = .ok (.iload_n 3, 1) := by decide +kernel
theorem dX4_keyAt_33 : decode cX4_keyAt 33 = .ok (.sipush 500, 3) := by decide +kernel
theorem dX4_keyAt_36 : decode cX4_keyAt 36 = .ok (.if_icmp .ge 28, 3) := by decide +kernel
theorem dX4_keyAt_39 : decode cX4_keyAt 39 = .ok (.aload_n 0, 1) := by decide +kernel
theorem dX4_keyAt_40 : decode cX4_keyAt 40 = .ok (.getfield 38, 3) := by decide +kernel
theorem dX4_keyAt_43 : decode cX4_keyAt 43 = .ok (.iload_n 3, 1) := by decide +kernel
theorem dX4_keyAt_44 : decode cX4_keyAt 44 = .ok (.baload, 1) := by decide +kernel
theorem dX4_keyAt_45 : decode cX4_keyAt 45 = .ok (.ifCond .eq 13, 3) := by decide +kernel
theorem dX4_keyAt_48 : decode cX4_keyAt 48 = .ok (.iload_n 2, 1) := by decide +kernel
theorem dX4_keyAt_49 : decode cX4_keyAt 49 = .ok (.iload_n 1, 1) := by decide +kernel
theorem dX4_keyAt_50 : decode cX4_keyAt 50 = .ok (.if_icmp .ne 5, 3) := by decide +kernel
theorem dX4_keyAt_53 : decode cX4_keyAt 53 = .ok (.iload_n 3, 1) := by decide +kernel
theorem dX4_keyAt_54 : decode cX4_keyAt 54 = .ok (.ireturn, 1) := by decide +kernel
theorem dX4_keyAt_55 : decode cX4_keyAt 55 = .ok (.iinc 2 1, 3) := by decide +kernel
theorem dX4_keyAt_58 : decode cX4_keyAt 58 = .ok (.iinc 3 1, 3) := by decide +kernel
theorem dX4_keyAt_61 : decode cX4_keyAt 61 = .ok (.goto (-29), 3) := by decide +kernel
theorem dX4_keyAt_64 : decode cX4_keyAt 64 = .ok (.iconst (-1), 1) := by decide +kernel
theorem dX4_keyAt_65 : decode cX4_keyAt 65 = .ok (.ireturn, 1) := by decide +kernel
set_option maxRecDepth 20000 in
theorem ggX4_node_X4_checkWhat : GoodIn wsX4_node wsX4_checkWhat := goodIn_ca (goodIn_r _ [7, 1, 2] (by decide +kernel) (by decide +kernel)) (goodIn_sub (fun _ h => List.mem_cons_of_mem _ (List.mem_append_right _ h)) (by decide +kernel))
set_option maxRecDepth 20000 in
theorem gX4_node_X4_checkWhat : GoodIn wsX4_node (va_wsS RX4 162 yX4_checkWhat wsX4_checkWhat) := goodIn_app (goodIn_of _ (by decide +kernel)) ggX4_node_X4_checkWhat
set_option maxRecDepth 20000 in
theorem ggX4_node_X4_treeFor : GoodIn wsX4_node wsX4_treeFor := goodIn_r _ [11, 12, 13, 14, 15, 37, 38, 39, 40, 41, 42, 43, 44, 45, 46, 47, 48, 49, 50, 51, 52, 53, 54, 55, 56] (by decide +kernel) (by decide +kernel)
set_option maxRecDepth 20000 in
theorem gX4_node_X4_treeFor : GoodIn wsX4_node (wsV RX4 184 RX4 yX4_treeFor wsX4_treeFor) := goodIn_app (goodIn_of _ (by decide +kernel)) ggX4_node_X4_treeFor
set_option maxRecDepth 20000 in
theorem ggX4_node_X3_numberOfNode : GoodIn wsX4_node wsX3_numberOfNode := goodIn_r _ [20, 21, 22, 23, 24, 25, 26, 19, 27, 28, 29, 30, 31, 32, 33, 34, 35, 36] (by decide +kernel) (by decide +kernel)
set_option maxRecDepth 20000 in
theorem gX4_node_X3_numberOfNode : GoodIn wsX4_node (wsV RX4 191 RX3 yX3_numberOfNode wsX3_numberOfNode) := goodIn_app (goodIn_of _ (by decide +kernel)) ggX4_node_X3_numberOfNode
theorem dX4_node_0 : decode cX4_node 0 = .ok (.iload_n 2, 1) := by decide +kernel
theorem dX4_node_1 : decode cX4_node 1 = .ok (.ifCond .ge 13, 3) := by decide +kernel
theorem dX4_node_4 : decode cX4_node 4 = .ok (.new 105, 3) := by decide +kernel
theorem dX4_node_7 : decode cX4_node 7 = .ok (.dup, 1) := by decide +kernel
theorem dX4_node_8 : decode cX4_node 8 = .ok (.ldc 182, 2) := by decide +kernel
theorem dX4_node_10 : decode cX4_node 10 = .ok (.invokespecial 109, 3) := by decide +kernel
theorem dX4_node_13 : decode cX4_node 13 = .ok (.athrow, 1) := by decide +kernel
theorem dX4_node_14 : decode cX4_node 14 = .ok (.iload_n 3, 1) := by decide +kernel
theorem dX4_node_15 : decode cX4_node 15 = .ok (.iconst 4, 1) := by decide +kernel
theorem dX4_node_16 : decode cX4_node 16 = .ok (.invokestatic 162, 3) := by decide +kernel
theorem dX4_node_19 : decode cX4_node 19 = .ok (.aload_n 0, 1) := by decide +kernel
theorem dX4_node_20 : decode cX4_node 20 = .ok (.iload_n 1, 1) := by decide +kernel
theorem dX4_node_21 : decode cX4_node 21 = .ok (.invokevirtual 184, 3) := by decide +kernel
theorem dX4_node_24 : decode cX4_node 24 = .ok (.astore 4, 2) := by decide +kernel
theorem dX4_node_26 : decode cX4_node 26 = .ok (.iload_n 2, 1) := by decide +kernel
theorem dX4_node_27 : decode cX4_node 27 = .ok (.aload 4, 2) := by decide +kernel
theorem dX4_node_29 : decode cX4_node 29 = .ok (.getfield 188, 3) := by decide +kernel
theorem dX4_node_32 : decode cX4_node 32 = .ok (.if_icmp .ge 13, 3) := by decide +kernel
theorem dX4_node_35 : decode cX4_node 35 = .ok (.aload 4, 2) := by decide +kernel
theorem dX4_node_37 : decode cX4_node 37 = .ok (.iload_n 2, 1) := by decide +kernel
theorem dX4_node_38 : decode cX4_node 38 = .ok (.iload_n 3, 1) := by decide +kernel
theorem dX4_node_39 : decode cX4_node 39 = .ok (.invokevirtual 191, 3) := by decide +kernel
theorem dX4_node_42 : decode cX4_node 42 = .ok (.goto 4, 3) := by decide +kernel
theorem dX4_node_45 : decode cX4_node 45 = .ok (.iconst (-1), 1) := by decide +kernel
theorem dX4_node_46 : decode cX4_node 46 = .ok (.ireturn, 1) := by decide +kernel
set_option maxRecDepth 20000 in
theorem ggX4_path_X4_checkKey : GoodIn wsX4_path wsX4_checkKey := goodIn_ca (goodIn_r _ [8, 1, 2] (by decide +kernel) (by decide +kernel)) (goodIn_sub (fun _ h => List.mem_cons_of_mem _ (List.mem_append_right _ h)) (by decide +kernel))
set_option maxRecDepth 20000 in
theorem gX4_path_X4_checkKey : GoodIn wsX4_path (va_wsS RX4 48 yX4_checkKey wsX4_checkKey) := goodIn_app (goodIn_of _ (by decide +kernel)) ggX4_path_X4_checkKey
set_option maxRecDepth 20000 in
theorem ggX4_path_X3_visitedKey : GoodIn wsX4_path wsX3_visitedKey := goodIn_r _ [13, 14, 15, 16, 17, 18, 12, 19, 20, 34, 35, 36, 37] (by decide +kernel) (by decide +kernel)
set_option maxRecDepth 20000 in
theorem gX4_path_X3_visitedKey : GoodIn wsX4_path (wsV RX4 197 RX3 yX3_visitedKey wsX3_visitedKey) := goodIn_app (goodIn_of _ (by decide +kernel)) ggX4_path_X3_visitedKey
theorem dX4_path_0 : decode cX4_path 0 = .ok (.iload_n 1, 1) := by decide +kernel
theorem dX4_path_1 : decode cX4_path 1 = .ok (.invokestatic 48, 3) := by decide +kernel
theorem dX4_path_4 : decode cX4_path 4 = .ok (.iload_n 2, 1) := by decide +kernel
theorem dX4_path_5 : decode cX4_path 5 = .ok (.ifCond .ge 13, 3) := by decide +kernel
theorem dX4_path_8 : decode cX4_path 8 = .ok (.new 105, 3) := by decide +kernel
theorem dX4_path_11 : decode cX4_path 11 = .ok (.dup, 1) := by decide +kernel
theorem dX4_path_12 : decode cX4_path 12 = .ok (.ldc 195, 2) := by decide +kernel
theorem dX4_path_14 : decode cX4_path 14 = .ok (.invokespecial 109, 3) := by decide +kernel
theorem dX4_path_17 : decode cX4_path 17 = .ok (.athrow, 1) := by decide +kernel
theorem dX4_path_18 : decode cX4_path 18 = .ok (.aload_n 0, 1) := by decide +kernel
theorem dX4_path_19 : decode cX4_path 19 = .ok (.getfield 10, 3) := by decide +kernel
theorem dX4_path_22 : decode cX4_path 22 = .ok (.getfield 148, 3) := by decide +kernel
theorem dX4_path_25 : decode cX4_path 25 = .ok (.iload_n 1, 1) := by decide +kernel
theorem dX4_path_26 : decode cX4_path 26 = .ok (.iload_n 2, 1) := by decide +kernel
theorem dX4_path_27 : decode cX4_path 27 = .ok (.invokevirtual 197, 3) := by decide +kernel
theorem dX4_path_30 : decode cX4_path 30 = .ok (.ireturn, 1) := by decide +kernel
set_option maxRecDepth 20000 in
theorem ggX4_tree_X4_checkWhat : GoodIn wsX4_tree wsX4_checkWhat := goodIn_ca (goodIn_r _ [5, 6, 7] (by decide +kernel) (by decide +kernel)) (goodIn_sub (fun _ h => List.mem_cons_of_mem _ (List.mem_append_right _ h)) (by decide +kernel))
set_option maxRecDepth 20000 in
theorem gX4_tree_X4_checkWhat : GoodIn wsX4_tree (va_wsS RX4 162 yX4_checkWhat wsX4_checkWhat) := goodIn_app (goodIn_of _ (by decide +kernel)) ggX4_tree_X4_checkWhat
set_option maxRecDepth 20000 in
theorem ggX4_tree_X4_treeFor : GoodIn wsX4_tree wsX4_treeFor := goodIn_r _ [11, 12, 13, 14, 15, 60, 61, 62, 63, 64, 65, 66, 67, 68, 69, 70, 71, 72, 73, 74, 75, 76, 77, 78, 79] (by decide +kernel) (by decide +kernel)
set_option maxRecDepth 20000 in
theorem gX4_tree_X4_treeFor : GoodIn wsX4_tree (wsV RX4 184 RX4 yX4_treeFor wsX4_treeFor) := goodIn_app (goodIn_of _ (by decide +kernel)) ggX4_tree_X4_treeFor
set_option maxRecDepth 20000 in
theorem ggX4_tree_X3_presentKeys : GoodIn wsX4_tree wsX3_presentKeys := goodIn_r _ [20, 21, 22, 23, 24, 19, 25, 26, 56, 57, 58, 59] (by decide +kernel) (by decide +kernel)
set_option maxRecDepth 20000 in
theorem gX4_tree_X3_presentKeys : GoodIn wsX4_tree (wsV RX4 152 RX3 yX3_presentKeys wsX3_presentKeys) := goodIn_app (goodIn_of _ (by decide +kernel)) ggX4_tree_X3_presentKeys
set_option maxRecDepth 20000 in
theorem ggX4_tree_X3_markedNodes : GoodIn wsX4_tree wsX3_markedNodes := goodIn_r _ [30, 21, 31, 17, 18, 19, 20, 22, 23, 24, 25, 26, 56, 57, 58, 59] (by decide +kernel) (by decide +kernel)
set_option maxRecDepth 20000 in
theorem gX4_tree_X3_markedNodes : GoodIn wsX4_tree (wsV RX4 200 RX3 yX3_markedNodes wsX3_markedNodes) := goodIn_app (goodIn_of _ (by decide +kernel)) ggX4_tree_X3_markedNodes
set_option maxRecDepth 20000 in
theorem ggX4_tree_X3_greatestDepth : GoodIn wsX4_tree wsX3_greatestDepth := goodIn_r _ [35, 21, 36, 37, 38, 39, 40, 56, 57, 58, 59] (by decide +kernel) (by decide +kernel)
set_option maxRecDepth 20000 in
theorem gX4_tree_X3_greatestDepth : GoodIn wsX4_tree (wsV RX4 203 RX3 yX3_greatestDepth wsX3_greatestDepth) := goodIn_app (goodIn_of _ (by decide +kernel)) ggX4_tree_X3_greatestDepth
set_option maxRecDepth 20000 in
theorem ggX4_tree_X3_sumOfDepths : GoodIn wsX4_tree wsX3_sumOfDepths := goodIn_r _ [44, 21, 26, 36, 56, 57, 58, 59] (by decide +kernel) (by decide +kernel)
set_option maxRecDepth 20000 in
theorem gX4_tree_X3_sumOfDepths : GoodIn wsX4_tree (wsV RX4 206 RX3 yX3_sumOfDepths wsX3_sumOfDepths) := goodIn_app (goodIn_of _ (by decide +kernel)) ggX4_tree_X3_sumOfDepths
set_option maxRecDepth 20000 in
theorem ggX4_tree_X3_leaves : GoodIn wsX4_tree wsX3_leaves := goodIn_r _ [48, 21, 49, 50, 51, 19, 52, 36, 56, 57, 58, 59] (by decide +kernel) (by decide +kernel)
set_option maxRecDepth 20000 in
theorem gX4_tree_X3_leaves : GoodIn wsX4_tree (wsV RX4 210 RX3 yX3_leaves wsX3_leaves) := goodIn_app (goodIn_of _ (by decide +kernel)) ggX4_tree_X3_leaves
set_option maxRecDepth 20000 in
theorem ggX4_tree_X4_leastDepthFor : GoodIn wsX4_tree wsX4_leastDepthFor := goodIn_r _ [55] (by decide +kernel) (by decide +kernel)
set_option maxRecDepth 20000 in
theorem gX4_tree_X4_leastDepthFor : GoodIn wsX4_tree (va_wsS RX4 213 yX4_leastDepthFor wsX4_leastDepthFor) := goodIn_app (goodIn_of _ (by decide +kernel)) ggX4_tree_X4_leastDepthFor
theorem dX4_tree_0 : decode cX4_tree 0 = .ok (.iload_n 2, 1) := by decide +kernel
theorem dX4_tree_1 : decode cX4_tree 1 = .ok (.bipush 6, 2) := by decide +kernel
theorem dX4_tree_3 : decode cX4_tree 3 = .ok (.invokestatic 162, 3) := by decide +kernel
theorem dX4_tree_6 : decode cX4_tree 6 = .ok (.aload_n 0, 1) := by decide +kernel
theorem dX4_tree_7 : decode cX4_tree 7 = .ok (.iload_n 1, 1) := by decide +kernel
theorem dX4_tree_8 : decode cX4_tree 8 = .ok (.invokevirtual 184, 3) := by decide +kernel
theorem dX4_tree_11 : decode cX4_tree 11 = .ok (.astore_n 3, 1) := by decide +kernel
theorem dX4_tree_12 : decode cX4_tree 12 = .ok (.iload_n 2, 1) := by decide +kernel
theorem dX4_tree_13 : decode cX4_tree 13 = .ok (.tableswitch 70 0 5 #[39, 44, 49, 54, 59, 65], 39) := by decide +kernel
theorem dX4_tree_52 : decode cX4_tree 52 = .ok (.aload_n 3, 1) := by decide +kernel
theorem dX4_tree_53 : decode cX4_tree 53 = .ok (.getfield 188, 3) := by decide +kernel
theorem dX4_tree_56 : decode cX4_tree 56 = .ok (.ireturn, 1) := by decide +kernel
theorem dX4_tree_57 : decode cX4_tree 57 = .ok (.aload_n 3, 1) := by decide +kernel
theorem dX4_tree_58 : decode cX4_tree 58 = .ok (.invokevirtual 152, 3) := by decide +kernel
theorem dX4_tree_61 : decode cX4_tree 61 = .ok (.ireturn, 1) := by decide +kernel
theorem dX4_tree_62 : decode cX4_tree 62 = .ok (.aload_n 3, 1) := by decide +kernel
theorem dX4_tree_63 : decode cX4_tree 63 = .ok (.invokevirtual 200, 3) := by decide +kernel
theorem dX4_tree_66 : decode cX4_tree 66 = .ok (.ireturn, 1) := by decide +kernel
theorem dX4_tree_67 : decode cX4_tree 67 = .ok (.aload_n 3, 1) := by decide +kernel
theorem dX4_tree_68 : decode cX4_tree 68 = .ok (.invokevirtual 203, 3) := by decide +kernel
theorem dX4_tree_71 : decode cX4_tree 71 = .ok (.ireturn, 1) := by decide +kernel
theorem dX4_tree_72 : decode cX4_tree 72 = .ok (.aload_n 3, 1) := by decide +kernel
theorem dX4_tree_73 : decode cX4_tree 73 = .ok (.iconst 1, 1) := by decide +kernel
theorem dX4_tree_74 : decode cX4_tree 74 = .ok (.invokevirtual 206, 3) := by decide +kernel
theorem dX4_tree_77 : decode cX4_tree 77 = .ok (.ireturn, 1) := by decide +kernel
theorem dX4_tree_78 : decode cX4_tree 78 = .ok (.aload_n 3, 1) := by decide +kernel
theorem dX4_tree_79 : decode cX4_tree 79 = .ok (.invokevirtual 210, 3) := by decide +kernel
theorem dX4_tree_82 : decode cX4_tree 82 = .ok (.ireturn, 1) := by decide +kernel
theorem dX4_tree_83 : decode cX4_tree 83 = .ok (.aload_n 3, 1) := by decide +kernel
theorem dX4_tree_84 : decode cX4_tree 84 = .ok (.invokevirtual 152, 3) := by decide +kernel
theorem dX4_tree_87 : decode cX4_tree 87 = .ok (.invokestatic 213, 3) := by decide +kernel
theorem dX4_tree_90 : decode cX4_tree 90 = .ok (.ireturn, 1) := by decide +kernel
set_option maxRecDepth 20000 in
theorem ggX4_rebuild_X4_checkWhat : GoodIn wsX4_rebuild wsX4_checkWhat := goodIn_ca (goodIn_r _ [10, 11, 12] (by decide +kernel) (by decide +kernel)) (goodIn_sub (fun _ h => List.mem_cons_of_mem _ (List.mem_append_right _ h)) (by decide +kernel))
set_option maxRecDepth 20000 in
theorem gX4_rebuild_X4_checkWhat : GoodIn wsX4_rebuild (va_wsS RX4 162 yX4_checkWhat wsX4_checkWhat) := goodIn_app (goodIn_of _ (by decide +kernel)) ggX4_rebuild_X4_checkWhat
set_option maxRecDepth 20000 in
theorem ggX4_rebuild_X1_condition : GoodIn wsX4_rebuild wsX1_condition := goodIn_r _ [17, 18, 19, 20, 66, 67, 68, 69, 70, 71, 72] (by decide +kernel) (by decide +kernel)
set_option maxRecDepth 20000 in
theorem gX4_rebuild_X1_condition : GoodIn wsX4_rebuild (wsV RX4 216 RX1 yX1_condition wsX1_condition) := goodIn_app (goodIn_of _ (by decide +kernel)) ggX4_rebuild_X1_condition
set_option maxRecDepth 20000 in
theorem ggX4_rebuild_X1_nextKey : GoodIn wsX4_rebuild wsX1_nextKey := goodIn_r _ [24, 19, 20, 25, 66, 67, 68, 69, 70, 71, 72] (by decide +kernel) (by decide +kernel)
set_option maxRecDepth 20000 in
theorem gX4_rebuild_X1_nextKey : GoodIn wsX4_rebuild (wsV RX4 222 RX1 yX1_nextKey wsX1_nextKey) := goodIn_app (goodIn_of _ (by decide +kernel)) ggX4_rebuild_X1_nextKey
set_option maxRecDepth 20000 in
theorem ggX4_rebuild_X4_keysInJustOneTree : GoodIn wsX4_rebuild wsX4_keysInJustOneTree := goodIn_r _ [29, 1, 2, 30, 31, 32, 33, 34, 35, 36, 37, 38, 39, 40, 41, 42, 43, 44, 45, 46, 47, 48, 49, 50, 51, 52, 53, 54, 55, 56, 57, 58, 59, 60, 61, 62, 63, 64, 65, 66, 67, 68, 69, 70, 71, 72, 73, 74, 75, 76] (by decide +kernel) (by decide +kernel)
set_option maxRecDepth 20000 in
theorem gX4_rebuild_X4_keysInJustOneTree : GoodIn wsX4_rebuild (wsV RX4 225 RX4 yX4_keysInJustOneTree wsX4_keysInJustOneTree) := goodIn_app (goodIn_of _ (by decide +kernel)) ggX4_rebuild_X4_keysInJustOneTree
theorem dX4_rebuild_0 : decode cX4_rebuild 0 = .ok (.iload_n 1, 1) := by decide +kernel
theorem dX4_rebuild_1 : decode cX4_rebuild 1 = .ok (.iconst 5, 1) := by decide +kernel
theorem dX4_rebuild_2 : decode cX4_rebuild 2 = .ok (.invokestatic 162, 3) := by decide +kernel
theorem dX4_rebuild_5 : decode cX4_rebuild 5 = .ok (.aload_n 0, 1) := by decide +kernel
theorem dX4_rebuild_6 : decode cX4_rebuild 6 = .ok (.getfield 10, 3) := by decide +kernel
theorem dX4_rebuild_9 : decode cX4_rebuild 9 = .ok (.getfield 72, 3) := by decide +kernel
theorem dX4_rebuild_12 : decode cX4_rebuild 12 = .ok (.astore_n 2, 1) := by decide +kernel
theorem dX4_rebuild_13 : decode cX4_rebuild 13 = .ok (.iload_n 1, 1) := by decide +kernel
theorem dX4_rebuild_14 : decode cX4_rebuild 14 = .ok (.tableswitch 59 0 4 #[34, 39, 44, 49, 54], 34) := by decide +kernel
theorem dX4_rebuild_48 : decode cX4_rebuild 48 = .ok (.aload_n 2, 1) := by decide +kernel
theorem dX4_rebuild_49 : decode cX4_rebuild 49 = .ok (.invokevirtual 216, 3) := by decide +kernel
theorem dX4_rebuild_52 : decode cX4_rebuild 52 = .ok (.ireturn, 1) := by decide +kernel
theorem dX4_rebuild_53 : decode cX4_rebuild 53 = .ok (.aload_n 2, 1) := by decide +kernel
theorem dX4_rebuild_54 : decode cX4_rebuild 54 = .ok (.getfield 84, 3) := by decide +kernel
theorem dX4_rebuild_57 : decode cX4_rebuild 57 = .ok (.ireturn, 1) := by decide +kernel
theorem dX4_rebuild_58 : decode cX4_rebuild 58 = .ok (.aload_n 2, 1) := by decide +kernel
theorem dX4_rebuild_59 : decode cX4_rebuild 59 = .ok (.getfield 90, 3) := by decide +kernel
theorem dX4_rebuild_62 : decode cX4_rebuild 62 = .ok (.ireturn, 1) := by decide +kernel
theorem dX4_rebuild_63 : decode cX4_rebuild 63 = .ok (.aload_n 2, 1) := by decide +kernel
theorem dX4_rebuild_64 : decode cX4_rebuild 64 = .ok (.getfield 219, 3) := by decide +kernel
theorem dX4_rebuild_67 : decode cX4_rebuild 67 = .ok (.ireturn, 1) := by decide +kernel
theorem dX4_rebuild_68 : decode cX4_rebuild 68 = .ok (.aload_n 2, 1) := by decide +kernel
theorem dX4_rebuild_69 : decode cX4_rebuild 69 = .ok (.invokevirtual 222, 3) := by decide +kernel
theorem dX4_rebuild_72 : decode cX4_rebuild 72 = .ok (.ireturn, 1) := by decide +kernel
theorem dX4_rebuild_73 : decode cX4_rebuild 73 = .ok (.aload_n 2, 1) := by decide +kernel
theorem dX4_rebuild_74 : decode cX4_rebuild 74 = .ok (.getfield 75, 3) := by decide +kernel
theorem dX4_rebuild_77 : decode cX4_rebuild 77 = .ok (.ifCond .eq 10, 3) := by decide +kernel
theorem dX4_rebuild_80 : decode cX4_rebuild 80 = .ok (.aload_n 0, 1) := by decide +kernel
theorem dX4_rebuild_81 : decode cX4_rebuild 81 = .ok (.invokevirtual 225, 3) := by decide +kernel
theorem dX4_rebuild_84 : decode cX4_rebuild 84 = .ok (.goto 4, 3) := by decide +kernel
theorem dX4_rebuild_87 : decode cX4_rebuild 87 = .ok (.iconst 0, 1) := by decide +kernel
theorem dX4_rebuild_88 : decode cX4_rebuild 88 = .ok (.ireturn, 1) := by decide +kernel
theorem dX4_queued_0 : decode cX4_queued 0 = .ok (.iload_n 1, 1) := by decide +kernel
theorem dX4_queued_1 : decode cX4_queued 1 = .ok (.ifCond .ge 13, 3) := by decide +kernel
theorem dX4_queued_4 : decode cX4_queued 4 = .ok (.new 105, 3) := by decide +kernel
theorem dX4_queued_7 : decode cX4_queued 7 = .ok (.dup, 1) := by decide +kernel
theorem dX4_queued_8 : decode cX4_queued 8 = .ok (.ldc 195, 2) := by decide +kernel
theorem dX4_queued_10 : decode cX4_queued 10 = .ok (.invokespecial 109, 3) := by decide +kernel
theorem dX4_queued_13 : decode cX4_queued 13 = .ok (.athrow, 1) := by decide +kernel
theorem dX4_queued_14 : decode cX4_queued 14 = .ok (.iload_n 1, 1) := by decide +kernel
theorem dX4_queued_15 : decode cX4_queued 15 = .ok (.aload_n 0, 1) := by decide +kernel
theorem dX4_queued_16 : decode cX4_queued 16 = .ok (.getfield 10, 3) := by decide +kernel
theorem dX4_queued_19 : decode cX4_queued 19 = .ok (.getfield 72, 3) := by decide +kernel
theorem dX4_queued_22 : decode cX4_queued 22 = .ok (.getfield 219, 3) := by decide +kernel
theorem dX4_queued_25 : decode cX4_queued 25 = .ok (.if_icmp .ge 18, 3) := by decide +kernel
theorem dX4_queued_28 : decode cX4_queued 28 = .ok (.aload_n 0, 1) := by decide +kernel
theorem dX4_queued_29 : decode cX4_queued 29 = .ok (.getfield 10, 3) := by decide +kernel
theorem dX4_queued_32 : decode cX4_queued 32 = .ok (.getfield 72, 3) := by decide +kernel
theorem dX4_queued_35 : decode cX4_queued 35 = .ok (.getfield 228, 3) := by decide +kernel
theorem dX4_queued_38 : decode cX4_queued 38 = .ok (.iload_n 1, 1) := by decide +kernel
theorem dX4_queued_39 : decode cX4_queued 39 = .ok (.iaload, 1) := by decide +kernel
theorem dX4_queued_40 : decode cX4_queued 40 = .ok (.goto 4, 3) := by decide +kernel
theorem dX4_queued_43 : decode cX4_queued 43 = .ok (.iconst (-1), 1) := by decide +kernel
theorem dX4_queued_44 : decode cX4_queued 44 = .ok (.ireturn, 1) := by decide +kernel
set_option maxRecDepth 20000 in
theorem ggX4_count_X4_checkWhat : GoodIn wsX4_count wsX4_checkWhat := goodIn_ca (goodIn_r _ [9, 10, 11] (by decide +kernel) (by decide +kernel)) (goodIn_sub (fun _ h => List.mem_cons_of_mem _ (List.mem_append_right _ h)) (by decide +kernel))
set_option maxRecDepth 20000 in
theorem gX4_count_X4_checkWhat : GoodIn wsX4_count (va_wsS RX4 162 yX4_checkWhat wsX4_checkWhat) := goodIn_app (goodIn_of _ (by decide +kernel)) ggX4_count_X4_checkWhat
theorem dX4_count_0 : decode cX4_count 0 = .ok (.iload_n 1, 1) := by decide +kernel
theorem dX4_count_1 : decode cX4_count 1 = .ok (.bipush 8, 2) := by decide +kernel
theorem dX4_count_3 : decode cX4_count 3 = .ok (.invokestatic 162, 3) := by decide +kernel
theorem dX4_count_6 : decode cX4_count 6 = .ok (.iload_n 1, 1) := by decide +kernel
theorem dX4_count_7 : decode cX4_count 7 = .ok (.bipush 7, 2) := by decide +kernel
theorem dX4_count_9 : decode cX4_count 9 = .ok (.if_icmp .ge 13, 3) := by decide +kernel
theorem dX4_count_12 : decode cX4_count 12 = .ok (.aload_n 0, 1) := by decide +kernel
theorem dX4_count_13 : decode cX4_count 13 = .ok (.getfield 10, 3) := by decide +kernel
theorem dX4_count_16 : decode cX4_count 16 = .ok (.getfield 69, 3) := by decide +kernel
theorem dX4_count_19 : decode cX4_count 19 = .ok (.iload_n 1, 1) := by decide +kernel
theorem dX4_count_20 : decode cX4_count 20 = .ok (.iaload, 1) := by decide +kernel
theorem dX4_count_21 : decode cX4_count 21 = .ok (.ireturn, 1) := by decide +kernel
theorem dX4_count_22 : decode cX4_count 22 = .ok (.iload_n 1, 1) := by decide +kernel
theorem dX4_count_23 : decode cX4_count 23 = .ok (.bipush 7, 2) := by decide +kernel
theorem dX4_count_25 : decode cX4_count 25 = .ok (.if_icmp .ne 10, 3) := by decide +kernel
theorem dX4_count_28 : decode cX4_count 28 = .ok (.aload_n 0, 1) := by decide +kernel
theorem dX4_count_29 : decode cX4_count 29 = .ok (.getfield 136, 3) := by decide +kernel
theorem dX4_count_32 : decode cX4_count 32 = .ok (.goto 10, 3) := by decide +kernel
theorem dX4_count_35 : decode cX4_count 35 = .ok (.aload_n 0, 1) := by decide +kernel
theorem dX4_count_36 : decode cX4_count 36 = .ok (.getfield 30, 3) := by decide +kernel
theorem dX4_count_39 : decode cX4_count 39 = .ok (.getfield 115, 3) := by decide +kernel
theorem dX4_count_42 : decode cX4_count 42 = .ok (.ireturn, 1) := by decide +kernel
set_option maxRecDepth 20000 in
theorem ggX4_setting_X4_checkSetting : GoodIn wsX4_setting wsX4_checkSetting := goodIn_ca (goodIn_r _ [6, 7, 8] (by decide +kernel) (by decide +kernel)) (goodIn_sub (fun _ h => List.mem_cons_of_mem _ (List.mem_append_right _ h)) (by decide +kernel))
set_option maxRecDepth 20000 in
theorem gX4_setting_X4_checkSetting : GoodIn wsX4_setting (va_wsS RX4 96 yX4_checkSetting wsX4_checkSetting) := goodIn_app (goodIn_of _ (by decide +kernel)) ggX4_setting_X4_checkSetting
theorem dX4_setting_0 : decode cX4_setting 0 = .ok (.iload_n 1, 1) := by decide +kernel
theorem dX4_setting_1 : decode cX4_setting 1 = .ok (.invokestatic 96, 3) := by decide +kernel
theorem dX4_setting_4 : decode cX4_setting 4 = .ok (.aload_n 0, 1) := by decide +kernel
theorem dX4_setting_5 : decode cX4_setting 5 = .ok (.getfield 10, 3) := by decide +kernel
theorem dX4_setting_8 : decode cX4_setting 8 = .ok (.getfield 110, 3) := by decide +kernel
theorem dX4_setting_11 : decode cX4_setting 11 = .ok (.iload_n 1, 1) := by decide +kernel
theorem dX4_setting_12 : decode cX4_setting 12 = .ok (.iaload, 1) := by decide +kernel
theorem dX4_setting_13 : decode cX4_setting 13 = .ok (.ireturn, 1) := by decide +kernel
set_option maxRecDepth 20000 in
theorem ggX4_untilExchange_X4_checkSpeed : GoodIn wsX4_untilExchange wsX4_checkSpeed := goodIn_ca (goodIn_r _ [7, 8, 9] (by decide +kernel) (by decide +kernel)) (goodIn_sub (fun _ h => List.mem_cons_of_mem _ (List.mem_append_right _ h)) (by decide +kernel))
set_option maxRecDepth 20000 in
theorem gX4_untilExchange_X4_checkSpeed : GoodIn wsX4_untilExchange (va_wsS RX4 231 yX4_checkSpeed wsX4_checkSpeed) := goodIn_app (goodIn_of _ (by decide +kernel)) ggX4_untilExchange_X4_checkSpeed
set_option maxRecDepth 20000 in
theorem ggX4_untilExchange_X1_callsLeft : GoodIn wsX4_untilExchange wsX1_callsLeft := goodIn_r _ [14, 15, 16, 17, 13, 18, 19, 20, 21, 22, 23, 24, 25, 39, 40, 41, 42, 43, 44, 45] (by decide +kernel) (by decide +kernel)
set_option maxRecDepth 20000 in
theorem gX4_untilExchange_X1_callsLeft : GoodIn wsX4_untilExchange (wsV RX4 234 RX1 yX1_callsLeft wsX1_callsLeft) := goodIn_app (goodIn_of _ (by decide +kernel)) ggX4_untilExchange_X1_callsLeft
theorem dX4_untilExchange_0 : decode cX4_untilExchange 0 = .ok (.iload_n 1, 1) := by decide +kernel
theorem dX4_untilExchange_1 : decode cX4_untilExchange 1 = .ok (.invokestatic 231, 3) := by decide +kernel
theorem dX4_untilExchange_4 : decode cX4_untilExchange 4 = .ok (.aload_n 0, 1) := by decide +kernel
theorem dX4_untilExchange_5 : decode cX4_untilExchange 5 = .ok (.getfield 10, 3) := by decide +kernel
theorem dX4_untilExchange_8 : decode cX4_untilExchange 8 = .ok (.getfield 72, 3) := by decide +kernel
theorem dX4_untilExchange_11 : decode cX4_untilExchange 11 = .ok (.getfield 75, 3) := by decide +kernel
theorem dX4_untilExchange_14 : decode cX4_untilExchange 14 = .ok (.ifCond .eq 17, 3) := by decide +kernel
theorem dX4_untilExchange_17 : decode cX4_untilExchange 17 = .ok (.aload_n 0, 1) := by decide +kernel
theorem dX4_untilExchange_18 : decode cX4_untilExchange 18 = .ok (.getfield 10, 3) := by decide +kernel
theorem dX4_untilExchange_21 : decode cX4_untilExchange 21 = .ok (.getfield 72, 3) := by decide +kernel
theorem dX4_untilExchange_24 : decode cX4_untilExchange 24 = .ok (.iload_n 1, 1) := by decide +kernel
theorem dX4_untilExchange_25 : decode cX4_untilExchange 25 = .ok (.invokevirtual 234, 3) := by decide +kernel
theorem dX4_untilExchange_28 : decode cX4_untilExchange 28 = .ok (.goto 4, 3) := by decide +kernel
theorem dX4_untilExchange_31 : decode cX4_untilExchange 31 = .ok (.iconst (-1), 1) := by decide +kernel
theorem dX4_untilExchange_32 : decode cX4_untilExchange 32 = .ok (.ireturn, 1) := by decide +kernel
set_option maxRecDepth 20000 in
theorem ggX4_longest_X4_checkSpeed : GoodIn wsX4_longest wsX4_checkSpeed := goodIn_ca (goodIn_r _ [12, 13, 14] (by decide +kernel) (by decide +kernel)) (goodIn_sub (fun _ h => List.mem_cons_of_mem _ (List.mem_append_right _ h)) (by decide +kernel))
set_option maxRecDepth 20000 in
theorem gX4_longest_X4_checkSpeed : GoodIn wsX4_longest (va_wsS RX4 231 yX4_checkSpeed wsX4_checkSpeed) := goodIn_app (goodIn_of _ (by decide +kernel)) ggX4_longest_X4_checkSpeed
set_option maxRecDepth 20000 in
theorem ggX4_longest_X1_becomeCopyOf : GoodIn wsX4_longest wsX1_becomeCopyOf := goodIn_r _ [19, 20, 21, 22, 23, 24, 25, 26, 27, 28, 29, 30, 31, 32, 33, 34, 35, 36, 37, 38, 39, 40, 87, 88, 89, 90, 91, 92, 93, 94, 95, 96, 97] (by decide +kernel) (by decide +kernel)
set_option maxRecDepth 20000 in
theorem gX4_longest_X1_becomeCopyOf : GoodIn wsX4_longest (wsV RX4 237 RX1 yX1_becomeCopyOf wsX1_becomeCopyOf) := goodIn_app (goodIn_of _ (by decide +kernel)) ggX4_longest_X1_becomeCopyOf
set_option maxRecDepth 20000 in
theorem ggX4_longest_X1_stepsLeft : GoodIn wsX4_longest wsX1_stepsLeft := goodIn_r _ [44, 21, 22, 23, 45, 6, 7, 8, 87, 88, 89, 90, 91, 92, 93] (by decide +kernel) (by decide +kernel)
set_option maxRecDepth 20000 in
theorem gX4_longest_X1_stepsLeft : GoodIn wsX4_longest (wsV RX4 240 RX1 yX1_stepsLeft wsX1_stepsLeft) := goodIn_app (goodIn_of _ (by decide +kernel)) ggX4_longest_X1_stepsLeft
set_option maxRecDepth 20000 in
theorem ggX4_longest_X1_takeStep : GoodIn wsX4_longest wsX1_takeStep := goodIn_r _ [49, 22, 21, 20, 25, 23, 50, 51, 52, 34, 53, 37, 40, 54, 55, 56, 57, 36, 58, 59, 60, 61, 39, 38, 27, 28, 29, 62, 63, 64, 65, 66, 67, 68, 18, 69, 30, 26, 70, 71, 72, 73, 87, 88, 89, 90, 91, 92, 93, 94, 95, 96, 97] (by decide +kernel) (by decide +kernel)
set_option maxRecDepth 20000 in
theorem gX4_longest_X1_takeStep : GoodIn wsX4_longest (wsV RX4 243 RX1 yX1_takeStep wsX1_takeStep) := goodIn_app (goodIn_of _ (by decide +kernel)) ggX4_longest_X1_takeStep
theorem dX4_longest_0 : decode cX4_longest 0 = .ok (.iload_n 1, 1) := by decide +kernel
theorem dX4_longest_1 : decode cX4_longest 1 = .ok (.invokestatic 231, 3) := by decide +kernel
theorem dX4_longest_4 : decode cX4_longest 4 = .ok (.aload_n 0, 1) := by decide +kernel
theorem dX4_longest_5 : decode cX4_longest 5 = .ok (.getfield 10, 3) := by decide +kernel
theorem dX4_longest_8 : decode cX4_longest 8 = .ok (.getfield 72, 3) := by decide +kernel
theorem dX4_longest_11 : decode cX4_longest 11 = .ok (.getfield 75, 3) := by decide +kernel
theorem dX4_longest_14 : decode cX4_longest 14 = .ok (.ifCond .ne 5, 3) := by decide +kernel
theorem dX4_longest_17 : decode cX4_longest 17 = .ok (.iconst (-1), 1) := by decide +kernel
theorem dX4_longest_18 : decode cX4_longest 18 = .ok (.ireturn, 1) := by decide +kernel
theorem dX4_longest_19 : decode cX4_longest 19 = .ok (.aload_n 0, 1) := by decide +kernel
theorem dX4_longest_20 : decode cX4_longest 20 = .ok (.getfield 44, 3) := by decide +kernel
theorem dX4_longest_23 : decode cX4_longest 23 = .ok (.aload_n 0, 1) := by decide +kernel
theorem dX4_longest_24 : decode cX4_longest 24 = .ok (.getfield 10, 3) := by decide +kernel
theorem dX4_longest_27 : decode cX4_longest 27 = .ok (.getfield 72, 3) := by decide +kernel
theorem dX4_longest_30 : decode cX4_longest 30 = .ok (.invokevirtual 237, 3) := by decide +kernel
theorem dX4_longest_33 : decode cX4_longest 33 = .ok (.aload_n 0, 1) := by decide +kernel
theorem dX4_longest_34 : decode cX4_longest 34 = .ok (.getfield 44, 3) := by decide +kernel
theorem dX4_longest_37 : decode cX4_longest 37 = .ok (.invokevirtual 240, 3) := by decide +kernel
theorem dX4_longest_40 : decode cX4_longest 40 = .ok (.istore_n 2, 1) := by decide +kernel
theorem dX4_longest_41 : decode cX4_longest 41 = .ok (.iconst 0, 1) := by decide +kernel
theorem dX4_longest_42 : decode cX4_longest 42 = .ok (.istore_n 3, 1) := by decide +kernel
theorem dX4_longest_43 : decode cX4_longest 43 = .ok (.iconst 0, 1) := by decide +kernel
theorem dX4_longest_44 : decode cX4_longest 44 = .ok (.istore 4, 2) := by decide +kernel
theorem dX4_longest_46 : decode cX4_longest 46 = .ok (.iconst 0, 1) := by decide +kernel
theorem dX4_longest_47 : decode cX4_longest 47 = .ok (.istore 5, 2) := by decide +kernel
theorem dX4_longest_49 : decode cX4_longest 49 = .ok (.iload 5, 2) := by decide +kernel
theorem dX4_longest_51 : decode cX4_longest 51 = .ok (.iload_n 2, 1) := by decide +kernel
theorem dX4_longest_52 : decode cX4_longest 52 = .ok (.if_icmp .ge 36, 3) := by decide +kernel
theorem dX4_longest_55 : decode cX4_longest 55 = .ok (.iload 5, 2) := by decide +kernel
theorem dX4_longest_57 : decode cX4_longest 57 = .ok (.iload_n 1, 1) := by decide +kernel
theorem dX4_longest_58 : decode cX4_longest 58 = .ok (.irem, 1) := by decide +kernel
theorem dX4_longest_59 : decode cX4_longest 59 = .ok (.ifCond .ne 5, 3) := by decide +kernel
theorem dX4_longest_62 : decode cX4_longest 62 = .ok (.iconst 0, 1) := by decide +kernel
theorem dX4_longest_63 : decode cX4_longest 63 = .ok (.istore_n 3, 1) := by decide +kernel
theorem dX4_longest_64 : decode cX4_longest 64 = .ok (.iload_n 3, 1) := by decide +kernel
theorem dX4_longest_65 : decode cX4_longest 65 = .ok (.aload_n 0, 1) := by decide +kernel
theorem dX4_longest_66 : decode cX4_longest 66 = .ok (.getfield 44, 3) := by decide +kernel
theorem dX4_longest_69 : decode cX4_longest 69 = .ok (.invokevirtual 243, 3) := by decide +kernel
theorem dX4_longest_72 : decode cX4_longest 72 = .ok (.iadd, 1) := by decide +kernel
theorem dX4_longest_73 : decode cX4_longest 73 = .ok (.istore_n 3, 1) := by decide +kernel
theorem dX4_longest_74 : decode cX4_longest 74 = .ok (.iload 4, 2) := by decide +kernel
theorem dX4_longest_76 : decode cX4_longest 76 = .ok (.iload_n 3, 1) := by decide +kernel
theorem dX4_longest_77 : decode cX4_longest 77 = .ok (.invokestatic 246, 3) := by decide +kernel
theorem dX4_longest_80 : decode cX4_longest 80 = .ok (.istore 4, 2) := by decide +kernel
theorem dX4_longest_82 : decode cX4_longest 82 = .ok (.iinc 5 1, 3) := by decide +kernel
theorem dX4_longest_85 : decode cX4_longest 85 = .ok (.goto (-36), 3) := by decide +kernel
theorem dX4_longest_88 : decode cX4_longest 88 = .ok (.iload 4, 2) := by decide +kernel
theorem dX4_longest_90 : decode cX4_longest 90 = .ok (.ireturn, 1) := by decide +kernel
set_option maxRecDepth 20000 in
theorem ggX4_leastSpeed_X1_callsLeft : GoodIn wsX4_leastSpeed wsX1_callsLeft := goodIn_r _ [10, 11, 12, 13, 9, 14, 15, 16, 17, 18, 19, 20, 21, 35, 36, 37, 38, 39, 40, 41] (by decide +kernel) (by decide +kernel)
set_option maxRecDepth 20000 in
theorem gX4_leastSpeed_X1_callsLeft : GoodIn wsX4_leastSpeed (wsV RX4 234 RX1 yX1_callsLeft wsX1_callsLeft) := goodIn_app (goodIn_of _ (by decide +kernel)) ggX4_leastSpeed_X1_callsLeft
theorem dX4_leastSpeed_0 : decode cX4_leastSpeed 0 = .ok (.iload_n 1, 1) := by decide +kernel
theorem dX4_leastSpeed_1 : decode cX4_leastSpeed 1 = .ok (.iconst 1, 1) := by decide +kernel
theorem dX4_leastSpeed_2 : decode cX4_leastSpeed 2 = .ok (.if_icmp .ge 13, 3) := by decide +kernel
theorem dX4_leastSpeed_5 : decode cX4_leastSpeed 5 = .ok (.new 105, 3) := by decide +kernel
theorem dX4_leastSpeed_8 : decode cX4_leastSpeed 8 = .ok (.dup, 1) := by decide +kernel
theorem dX4_leastSpeed_9 : decode cX4_leastSpeed 9 = .ok (.ldc 251, 2) := by decide +kernel
theorem dX4_leastSpeed_11 : decode cX4_leastSpeed 11 = .ok (.invokespecial 109, 3) := by decide +kernel
theorem dX4_leastSpeed_14 : decode cX4_leastSpeed 14 = .ok (.athrow, 1) := by decide +kernel
theorem dX4_leastSpeed_15 : decode cX4_leastSpeed 15 = .ok (.aload_n 0, 1) := by decide +kernel
theorem dX4_leastSpeed_16 : decode cX4_leastSpeed 16 = .ok (.getfield 10, 3) := by decide +kernel
theorem dX4_leastSpeed_19 : decode cX4_leastSpeed 19 = .ok (.getfield 72, 3) := by decide +kernel
theorem dX4_leastSpeed_22 : decode cX4_leastSpeed 22 = .ok (.getfield 75, 3) := by decide +kernel
theorem dX4_leastSpeed_25 : decode cX4_leastSpeed 25 = .ok (.ifCond .ne 5, 3) := by decide +kernel
theorem dX4_leastSpeed_28 : decode cX4_leastSpeed 28 = .ok (.iconst (-1), 1) := by decide +kernel
theorem dX4_leastSpeed_29 : decode cX4_leastSpeed 29 = .ok (.ireturn, 1) := by decide +kernel
theorem dX4_leastSpeed_30 : decode cX4_leastSpeed 30 = .ok (.iconst 1, 1) := by decide +kernel
theorem dX4_leastSpeed_31 : decode cX4_leastSpeed 31 = .ok (.istore_n 2, 1) := by decide +kernel
theorem dX4_leastSpeed_32 : decode cX4_leastSpeed 32 = .ok (.iload_n 2, 1) := by decide +kernel
theorem dX4_leastSpeed_33 : decode cX4_leastSpeed 33 = .ok (.bipush 8, 2) := by decide +kernel
theorem dX4_leastSpeed_35 : decode cX4_leastSpeed 35 = .ok (.if_icmp .gt 26, 3) := by decide +kernel
theorem dX4_leastSpeed_38 : decode cX4_leastSpeed 38 = .ok (.aload_n 0, 1) := by decide +kernel
theorem dX4_leastSpeed_39 : decode cX4_leastSpeed 39 = .ok (.getfield 10, 3) := by decide +kernel
theorem dX4_leastSpeed_42 : decode cX4_leastSpeed 42 = .ok (.getfield 72, 3) := by decide +kernel
theorem dX4_leastSpeed_45 : decode cX4_leastSpeed 45 = .ok (.iload_n 2, 1) := by decide +kernel
theorem dX4_leastSpeed_46 : decode cX4_leastSpeed 46 = .ok (.invokevirtual 234, 3) := by decide +kernel
theorem dX4_leastSpeed_49 : decode cX4_leastSpeed 49 = .ok (.iload_n 1, 1) := by decide +kernel
theorem dX4_leastSpeed_50 : decode cX4_leastSpeed 50 = .ok (.if_icmp .gt 5, 3) := by decide +kernel
theorem dX4_leastSpeed_53 : decode cX4_leastSpeed 53 = .ok (.iload_n 2, 1) := by decide +kernel
theorem dX4_leastSpeed_54 : decode cX4_leastSpeed 54 = .ok (.ireturn, 1) := by decide +kernel
theorem dX4_leastSpeed_55 : decode cX4_leastSpeed 55 = .ok (.iinc 2 1, 3) := by decide +kernel
theorem dX4_leastSpeed_58 : decode cX4_leastSpeed 58 = .ok (.goto (-26), 3) := by decide +kernel
theorem dX4_leastSpeed_61 : decode cX4_leastSpeed 61 = .ok (.iconst (-1), 1) := by decide +kernel
theorem dX4_leastSpeed_62 : decode cX4_leastSpeed 62 = .ok (.ireturn, 1) := by decide +kernel
theorem dX4_checkKey_0 : decode cX4_checkKey 0 = .ok (.iload_n 0, 1) := by decide +kernel
theorem dX4_checkKey_1 : decode cX4_checkKey 1 = .ok (.ifCond .lt 10, 3) := by decide +kernel
theorem dX4_checkKey_4 : decode cX4_checkKey 4 = .ok (.iload_n 0, 1) := by decide +kernel
theorem dX4_checkKey_5 : decode cX4_checkKey 5 = .ok (.sipush 500, 3) := by decide +kernel
theorem dX4_checkKey_8 : decode cX4_checkKey 8 = .ok (.if_icmp .lt 13, 3) := by decide +kernel
theorem dX4_checkKey_11 : decode cX4_checkKey 11 = .ok (.new 105, 3) := by decide +kernel
theorem dX4_checkKey_14 : decode cX4_checkKey 14 = .ok (.dup, 1) := by decide +kernel
theorem dX4_checkKey_15 : decode cX4_checkKey 15 = .ok (.ldc 253, 2) := by decide +kernel
theorem dX4_checkKey_17 : decode cX4_checkKey 17 = .ok (.invokespecial 109, 3) := by decide +kernel
theorem dX4_checkKey_20 : decode cX4_checkKey 20 = .ok (.athrow, 1) := by decide +kernel
theorem dX4_checkKey_21 : decode cX4_checkKey 21 = .ok (.return_, 1) := by decide +kernel
theorem dX4_checkWhat_0 : decode cX4_checkWhat 0 = .ok (.iload_n 0, 1) := by decide +kernel
theorem dX4_checkWhat_1 : decode cX4_checkWhat 1 = .ok (.ifCond .lt 8, 3) := by decide +kernel
theorem dX4_checkWhat_4 : decode cX4_checkWhat 4 = .ok (.iload_n 0, 1) := by decide +kernel
theorem dX4_checkWhat_5 : decode cX4_checkWhat 5 = .ok (.iload_n 1, 1) := by decide +kernel
theorem dX4_checkWhat_6 : decode cX4_checkWhat 6 = .ok (.if_icmp .le 13, 3) := by decide +kernel
theorem dX4_checkWhat_9 : decode cX4_checkWhat 9 = .ok (.new 105, 3) := by decide +kernel
theorem dX4_checkWhat_12 : decode cX4_checkWhat 12 = .ok (.dup, 1) := by decide +kernel
theorem dX4_checkWhat_13 : decode cX4_checkWhat 13 = .ok (.ldc 255, 2) := by decide +kernel
theorem dX4_checkWhat_15 : decode cX4_checkWhat 15 = .ok (.invokespecial 109, 3) := by decide +kernel
theorem dX4_checkWhat_18 : decode cX4_checkWhat 18 = .ok (.athrow, 1) := by decide +kernel
theorem dX4_checkWhat_19 : decode cX4_checkWhat 19 = .ok (.return_, 1) := by decide +kernel
theorem dX4_checkSlot_0 : decode cX4_checkSlot 0 = .ok (.iload_n 0, 1) := by decide +kernel
theorem dX4_checkSlot_1 : decode cX4_checkSlot 1 = .ok (.ifCond .lt 8, 3) := by decide +kernel
theorem dX4_checkSlot_4 : decode cX4_checkSlot 4 = .ok (.iload_n 0, 1) := by decide +kernel
theorem dX4_checkSlot_5 : decode cX4_checkSlot 5 = .ok (.iconst 2, 1) := by decide +kernel
theorem dX4_checkSlot_6 : decode cX4_checkSlot 6 = .ok (.if_icmp .lt 14, 3) := by decide +kernel
theorem dX4_checkSlot_9 : decode cX4_checkSlot 9 = .ok (.new 105, 3) := by decide +kernel
theorem dX4_checkSlot_12 : decode cX4_checkSlot 12 = .ok (.dup, 1) := by decide +kernel
theorem dX4_checkSlot_13 : decode cX4_checkSlot 13 = .ok (.ldc_w 257, 3) := by decide +kernel
theorem dX4_checkSlot_16 : decode cX4_checkSlot 16 = .ok (.invokespecial 109, 3) := by decide +kernel
theorem dX4_checkSlot_19 : decode cX4_checkSlot 19 = .ok (.athrow, 1) := by decide +kernel
theorem dX4_checkSlot_20 : decode cX4_checkSlot 20 = .ok (.return_, 1) := by decide +kernel
theorem dX4_checkSpeed_0 : decode cX4_checkSpeed 0 = .ok (.iload_n 0, 1) := by decide +kernel
theorem dX4_checkSpeed_1 : decode cX4_checkSpeed 1 = .ok (.iconst 1, 1) := by decide +kernel
theorem dX4_checkSpeed_2 : decode cX4_checkSpeed 2 = .ok (.if_icmp .lt 9, 3) := by decide +kernel
theorem dX4_checkSpeed_5 : decode cX4_checkSpeed 5 = .ok (.iload_n 0, 1) := by decide +kernel
theorem dX4_checkSpeed_6 : decode cX4_checkSpeed 6 = .ok (.bipush 8, 2) := by decide +kernel
theorem dX4_checkSpeed_8 : decode cX4_checkSpeed 8 = .ok (.if_icmp .le 14, 3) := by decide +kernel
theorem dX4_checkSpeed_11 : decode cX4_checkSpeed 11 = .ok (.new 105, 3) := by decide +kernel
theorem dX4_checkSpeed_14 : decode cX4_checkSpeed 14 = .ok (.dup, 1) := by decide +kernel
theorem dX4_checkSpeed_15 : decode cX4_checkSpeed 15 = .ok (.ldc_w 259, 3) := by decide +kernel
theorem dX4_checkSpeed_18 : decode cX4_checkSpeed 18 = .ok (.invokespecial 109, 3) := by decide +kernel
theorem dX4_checkSpeed_21 : decode cX4_checkSpeed 21 = .ok (.athrow, 1) := by decide +kernel
theorem dX4_checkSpeed_22 : decode cX4_checkSpeed 22 = .ok (.return_, 1) := by decide +kernel
theorem dX4_checkSetting_0 : decode cX4_checkSetting 0 = .ok (.iload_n 0, 1) := by decide +kernel
theorem dX4_checkSetting_1 : decode cX4_checkSetting 1 = .ok (.ifCond .lt 8, 3) := by decide +kernel
theorem dX4_checkSetting_4 : decode cX4_checkSetting 4 = .ok (.iload_n 0, 1) := by decide +kernel
theorem dX4_checkSetting_5 : decode cX4_checkSetting 5 = .ok (.iconst 3, 1) := by decide +kernel
theorem dX4_checkSetting_6 : decode cX4_checkSetting 6 = .ok (.if_icmp .lt 14, 3) := by decide +kernel
theorem dX4_checkSetting_9 : decode cX4_checkSetting 9 = .ok (.new 261, 3) := by decide +kernel
theorem dX4_checkSetting_12 : decode cX4_checkSetting 12 = .ok (.dup, 1) := by decide +kernel
theorem dX4_checkSetting_13 : decode cX4_checkSetting 13 = .ok (.ldc_w 263, 3) := by decide +kernel
theorem dX4_checkSetting_16 : decode cX4_checkSetting 16 = .ok (.invokespecial 265, 3) := by decide +kernel
theorem dX4_checkSetting_19 : decode cX4_checkSetting 19 = .ok (.athrow, 1) := by decide +kernel
theorem dX4_checkSetting_20 : decode cX4_checkSetting 20 = .ok (.return_, 1) := by decide +kernel
set_option maxRecDepth 20000 in
theorem ggX4_hasNoRoomFor_X3_hasNode : GoodIn wsX4_hasNoRoomFor wsX3_hasNode := goodIn_r _ [8, 9, 10, 11, 7, 12, 13, 14, 15, 16, 17, 18, 32, 33, 34, 35] (by decide +kernel) (by decide +kernel)
set_option maxRecDepth 20000 in
theorem gX4_hasNoRoomFor_X3_hasNode : GoodIn wsX4_hasNoRoomFor (wsV RX4 266 RX3 yX3_hasNode wsX3_hasNode) := goodIn_app (goodIn_of _ (by decide +kernel)) ggX4_hasNoRoomFor_X3_hasNode
theorem dX4_hasNoRoomFor_0 : decode cX4_hasNoRoomFor 0 = .ok (.aload_n 0, 1) := by decide +kernel
theorem dX4_hasNoRoomFor_1 : decode cX4_hasNoRoomFor 1 = .ok (.getfield 10, 3) := by decide +kernel
theorem dX4_hasNoRoomFor_4 : decode cX4_hasNoRoomFor 4 = .ok (.getfield 148, 3) := by decide +kernel
theorem dX4_hasNoRoomFor_7 : decode cX4_hasNoRoomFor 7 = .ok (.getfield 188, 3) := by decide +kernel
theorem dX4_hasNoRoomFor_10 : decode cX4_hasNoRoomFor 10 = .ok (.bipush 120, 2) := by decide +kernel
theorem dX4_hasNoRoomFor_12 : decode cX4_hasNoRoomFor 12 = .ok (.if_icmp .lt 21, 3) := by decide +kernel
theorem dX4_hasNoRoomFor_15 : decode cX4_hasNoRoomFor 15 = .ok (.aload_n 0, 1) := by decide +kernel
theorem dX4_hasNoRoomFor_16 : decode cX4_hasNoRoomFor 16 = .ok (.getfield 10, 3) := by decide +kernel
theorem dX4_hasNoRoomFor_19 : decode cX4_hasNoRoomFor 19 = .ok (.getfield 148, 3) := by decide +kernel
theorem dX4_hasNoRoomFor_22 : decode cX4_hasNoRoomFor 22 = .ok (.iload_n 1, 1) := by decide +kernel
theorem dX4_hasNoRoomFor_23 : decode cX4_hasNoRoomFor 23 = .ok (.invokevirtual 266, 3) := by decide +kernel
theorem dX4_hasNoRoomFor_26 : decode cX4_hasNoRoomFor 26 = .ok (.ifCond .ne 7, 3) := by decide +kernel
theorem dX4_hasNoRoomFor_29 : decode cX4_hasNoRoomFor 29 = .ok (.iconst 1, 1) := by decide +kernel
theorem dX4_hasNoRoomFor_30 : decode cX4_hasNoRoomFor 30 = .ok (.goto 4, 3) := by decide +kernel
theorem dX4_hasNoRoomFor_33 : decode cX4_hasNoRoomFor 33 = .ok (.iconst 0, 1) := by decide +kernel
theorem dX4_hasNoRoomFor_34 : decode cX4_hasNoRoomFor 34 = .ok (.ireturn, 1) := by decide +kernel
set_option maxRecDepth 20000 in
theorem ggX4_wouldThrow_X4_hasNoRoomFor : GoodIn wsX4_wouldThrow wsX4_hasNoRoomFor := goodIn_r _ [5, 6, 7, 8, 9, 10, 11, 12, 13, 14, 15, 16, 17, 18, 19, 20, 21, 22, 23, 24, 25, 26, 27, 28, 29, 30, 31, 32, 33, 34, 35, 36, 37, 38, 39, 40] (by decide +kernel) (by decide +kernel)
set_option maxRecDepth 20000 in
theorem gX4_wouldThrow_X4_hasNoRoomFor : GoodIn wsX4_wouldThrow (wsV RX4 52 RX4 yX4_hasNoRoomFor wsX4_hasNoRoomFor) := goodIn_app (goodIn_of _ (by decide +kernel)) ggX4_wouldThrow_X4_hasNoRoomFor
theorem dX4_wouldThrow_0 : decode cX4_wouldThrow 0 = .ok (.iload_n 1, 1) := by decide +kernel
theorem dX4_wouldThrow_1 : decode cX4_wouldThrow 1 = .ok (.iconst (-1), 1) := by decide +kernel
theorem dX4_wouldThrow_2 : decode cX4_wouldThrow 2 = .ok (.if_icmp .eq 22, 3) := by decide +kernel
theorem dX4_wouldThrow_5 : decode cX4_wouldThrow 5 = .ok (.iload_n 1, 1) := by decide +kernel
theorem dX4_wouldThrow_6 : decode cX4_wouldThrow 6 = .ok (.sipush 500, 3) := by decide +kernel
theorem dX4_wouldThrow_9 : decode cX4_wouldThrow 9 = .ok (.if_icmp .ge 15, 3) := by decide +kernel
theorem dX4_wouldThrow_12 : decode cX4_wouldThrow 12 = .ok (.aload_n 0, 1) := by decide +kernel
theorem dX4_wouldThrow_13 : decode cX4_wouldThrow 13 = .ok (.iload_n 1, 1) := by decide +kernel
theorem dX4_wouldThrow_14 : decode cX4_wouldThrow 14 = .ok (.invokevirtual 52, 3) := by decide +kernel
theorem dX4_wouldThrow_17 : decode cX4_wouldThrow 17 = .ok (.ifCond .eq 7, 3) := by decide +kernel
theorem dX4_wouldThrow_20 : decode cX4_wouldThrow 20 = .ok (.iconst 1, 1) := by decide +kernel
theorem dX4_wouldThrow_21 : decode cX4_wouldThrow 21 = .ok (.goto 4, 3) := by decide +kernel
theorem dX4_wouldThrow_24 : decode cX4_wouldThrow 24 = .ok (.iconst 0, 1) := by decide +kernel
theorem dX4_wouldThrow_25 : decode cX4_wouldThrow 25 = .ok (.ireturn, 1) := by decide +kernel
set_option maxRecDepth 20000 in
theorem ggX4_perform_X3_visitsFor : GoodIn wsX4_perform wsX3_visitsFor := goodIn_r _ [9, 10, 11, 12, 13, 8, 14, 15, 16, 159, 160, 161, 162] (by decide +kernel) (by decide +kernel)
set_option maxRecDepth 20000 in
theorem gX4_perform_X3_visitsFor : GoodIn wsX4_perform (wsV RX4 269 RX3 yX3_visitsFor wsX3_visitsFor) := goodIn_app (goodIn_of _ (by decide +kernel)) ggX4_perform_X3_visitsFor
set_option maxRecDepth 20000 in
theorem ggX4_perform_X3_changeBy : GoodIn wsX4_perform wsX3_changeBy := goodIn_r _ [20, 16, 21, 11, 12, 13, 8, 14, 15, 22, 23, 24, 25, 10, 26, 27, 28, 29, 30, 31, 32, 33, 159, 160, 161, 162] (by decide +kernel) (by decide +kernel)
set_option maxRecDepth 20000 in
theorem gX4_perform_X3_changeBy : GoodIn wsX4_perform (wsV RX4 272 RX3 yX3_changeBy wsX3_changeBy) := goodIn_app (goodIn_of _ (by decide +kernel)) ggX4_perform_X3_changeBy
set_option maxRecDepth 20000 in
theorem ggX4_perform_X4_queueOrAbandon : GoodIn wsX4_perform wsX4_queueOrAbandon := goodIn_r _ [38, 1, 3, 39, 40, 41, 42, 37, 43, 44, 45, 46, 47, 48, 49, 50, 51, 52, 53, 54, 55, 56, 57, 58, 59, 60, 139, 140, 141, 142, 143, 144, 145, 146, 147, 148, 149, 150, 151, 152, 153, 154, 155, 156, 157, 158, 159, 160, 161, 162] (by decide +kernel) (by decide +kernel)
set_option maxRecDepth 20000 in
theorem gX4_perform_X4_queueOrAbandon : GoodIn wsX4_perform (wsV RX4 275 RX4 yX4_queueOrAbandon wsX4_queueOrAbandon) := goodIn_app (goodIn_of _ (by decide +kernel)) ggX4_perform_X4_queueOrAbandon
set_option maxRecDepth 20000 in
theorem ggX4_perform_X4_advanceJob : GoodIn wsX4_perform wsX4_advanceJob := goodIn_r _ [64, 1, 65, 3, 4, 66, 67, 68, 48, 69, 53, 52, 50, 70, 54, 71, 18, 19, 8, 20, 16, 21, 11, 12, 13, 14, 15, 22, 23, 24, 25, 10, 26, 27, 28, 29, 30, 31, 32, 33, 72, 73, 74, 75, 60, 76, 77, 6, 7, 9, 78, 79, 80, 81, 82, 83, 84, 37, 85, 2, 86, 44, 87, 88, 89, 90, 45, 46, 47, 49, 51, 55, 139, 140, 141, 142, 143, 144, 145, 146, 147, 148, 149, 150, 151, 152, 153, 154, 155, 156, 157, 158, 159, 160, 161, 162] (by decide +kernel) (by decide +kernel)
set_option maxRecDepth 20000 in
theorem gX4_perform_X4_advanceJob : GoodIn wsX4_perform (wsV RX4 278 RX4 yX4_advanceJob wsX4_advanceJob) := goodIn_app (goodIn_of _ (by decide +kernel)) ggX4_perform_X4_advanceJob
set_option maxRecDepth 20000 in
theorem ggX4_perform_X4_needsRebuild : GoodIn wsX4_perform wsX4_needsRebuild := goodIn_r _ [94, 1, 2, 65, 95, 96, 97, 98, 8, 99, 15, 100, 101, 102, 103, 104, 105, 106, 107, 21, 108, 109, 110, 111, 10, 112, 113, 114, 115, 139, 140, 141, 142, 143, 144, 145, 146, 147, 148, 149, 150, 151, 159, 160, 161, 162] (by decide +kernel) (by decide +kernel)
set_option maxRecDepth 20000 in
theorem gX4_perform_X4_needsRebuild : GoodIn wsX4_perform (wsV RX4 281 RX4 yX4_needsRebuild wsX4_needsRebuild) := goodIn_app (goodIn_of _ (by decide +kernel)) ggX4_perform_X4_needsRebuild
set_option maxRecDepth 20000 in
theorem ggX4_perform_X4_beginJob : GoodIn wsX4_perform wsX4_beginJob := goodIn_r _ [119, 1, 2, 120, 3, 44, 121, 122, 123, 8, 124, 15, 16, 21, 125, 101, 102, 103, 104, 105, 106, 107, 126, 127, 128, 48, 129, 55, 52, 70, 130, 46, 47, 49, 50, 51, 53, 54, 131, 132, 133, 139, 140, 141, 142, 143, 144, 145, 146, 147, 148, 149, 150, 151, 159, 160, 161, 162, 152, 153, 154, 155, 156, 157, 158] (by decide +kernel) (by decide +kernel)
set_option maxRecDepth 20000 in
theorem gX4_perform_X4_beginJob : GoodIn wsX4_perform (wsV RX4 81 RX4 yX4_beginJob wsX4_beginJob) := goodIn_app (goodIn_of _ (by decide +kernel)) ggX4_perform_X4_beginJob
set_option maxRecDepth 20000 in
theorem ggX4_perform_X4_countAct : GoodIn wsX4_perform wsX4_countAct := goodIn_r _ [137, 1, 44, 138, 113, 114, 115, 139, 140, 141, 142, 143, 144, 145, 146, 147, 148, 149, 150, 151] (by decide +kernel) (by decide +kernel)
set_option maxRecDepth 20000 in
theorem gX4_perform_X4_countAct : GoodIn wsX4_perform (wsV RX4 285 RX4 yX4_countAct wsX4_countAct) := goodIn_app (goodIn_of _ (by decide +kernel)) ggX4_perform_X4_countAct
theorem dX4_perform_0 : decode cX4_perform 0 = .ok (.iconst 0, 1) := by decide +kernel
theorem dX4_perform_1 : decode cX4_perform 1 = .ok (.istore_n 2, 1) := by decide +kernel
theorem dX4_perform_2 : decode cX4_perform 2 = .ok (.iconst 0, 1) := by decide +kernel
theorem dX4_perform_3 : decode cX4_perform 3 = .ok (.istore_n 3, 1) := by decide +kernel
theorem dX4_perform_4 : decode cX4_perform 4 = .ok (.iload_n 1, 1) := by decide +kernel
theorem dX4_perform_5 : decode cX4_perform 5 = .ok (.iconst (-1), 1) := by decide +kernel
theorem dX4_perform_6 : decode cX4_perform 6 = .ok (.if_icmp .eq 27, 3) := by decide +kernel
theorem dX4_perform_9 : decode cX4_perform 9 = .ok (.aload_n 0, 1) := by decide +kernel
theorem dX4_perform_10 : decode cX4_perform 10 = .ok (.getfield 10, 3) := by decide +kernel
theorem dX4_perform_13 : decode cX4_perform 13 = .ok (.getfield 148, 3) := by decide +kernel
theorem dX4_perform_16 : decode cX4_perform 16 = .ok (.iload_n 1, 1) := by decide +kernel
theorem dX4_perform_17 : decode cX4_perform 17 = .ok (.invokevirtual 269, 3) := by decide +kernel
theorem dX4_perform_20 : decode cX4_perform 20 = .ok (.istore_n 2, 1) := by decide +kernel
theorem dX4_perform_21 : decode cX4_perform 21 = .ok (.aload_n 0, 1) := by decide +kernel
theorem dX4_perform_22 : decode cX4_perform 22 = .ok (.getfield 10, 3) := by decide +kernel
theorem dX4_perform_25 : decode cX4_perform 25 = .ok (.getfield 148, 3) := by decide +kernel
theorem dX4_perform_28 : decode cX4_perform 28 = .ok (.iload_n 1, 1) := by decide +kernel
theorem dX4_perform_29 : decode cX4_perform 29 = .ok (.invokevirtual 272, 3) := by decide +kernel
theorem dX4_perform_32 : decode cX4_perform 32 = .ok (.istore_n 3, 1) := by decide +kernel
theorem dX4_perform_33 : decode cX4_perform 33 = .ok (.iload_n 3, 1) := by decide +kernel
theorem dX4_perform_34 : decode cX4_perform 34 = .ok (.ifCond .eq 21, 3) := by decide +kernel
theorem dX4_perform_37 : decode cX4_perform 37 = .ok (.aload_n 0, 1) := by decide +kernel
theorem dX4_perform_38 : decode cX4_perform 38 = .ok (.getfield 10, 3) := by decide +kernel
theorem dX4_perform_41 : decode cX4_perform 41 = .ok (.getfield 72, 3) := by decide +kernel
theorem dX4_perform_44 : decode cX4_perform 44 = .ok (.getfield 75, 3) := by decide +kernel
theorem dX4_perform_47 : decode cX4_perform 47 = .ok (.ifCond .eq 8, 3) := by decide +kernel
theorem dX4_perform_50 : decode cX4_perform 50 = .ok (.aload_n 0, 1) := by decide +kernel
theorem dX4_perform_51 : decode cX4_perform 51 = .ok (.iload_n 1, 1) := by decide +kernel
theorem dX4_perform_52 : decode cX4_perform 52 = .ok (.invokevirtual 275, 3) := by decide +kernel
theorem dX4_perform_55 : decode cX4_perform 55 = .ok (.iload_n 2, 1) := by decide +kernel
theorem dX4_perform_56 : decode cX4_perform 56 = .ok (.aload_n 0, 1) := by decide +kernel
theorem dX4_perform_57 : decode cX4_perform 57 = .ok (.invokevirtual 278, 3) := by decide +kernel
theorem dX4_perform_60 : decode cX4_perform 60 = .ok (.iadd, 1) := by decide +kernel
theorem dX4_perform_61 : decode cX4_perform 61 = .ok (.istore_n 2, 1) := by decide +kernel
theorem dX4_perform_62 : decode cX4_perform 62 = .ok (.aload_n 0, 1) := by decide +kernel
theorem dX4_perform_63 : decode cX4_perform 63 = .ok (.getfield 10, 3) := by decide +kernel
theorem dX4_perform_66 : decode cX4_perform 66 = .ok (.getfield 72, 3) := by decide +kernel
theorem dX4_perform_69 : decode cX4_perform 69 = .ok (.getfield 75, 3) := by decide +kernel
theorem dX4_perform_72 : decode cX4_perform 72 = .ok (.ifCond .ne 14, 3) := by decide +kernel
theorem dX4_perform_75 : decode cX4_perform 75 = .ok (.aload_n 0, 1) := by decide +kernel
theorem dX4_perform_76 : decode cX4_perform 76 = .ok (.invokevirtual 281, 3) := by decide +kernel
theorem dX4_perform_79 : decode cX4_perform 79 = .ok (.ifCond .eq 7, 3) := by decide +kernel
theorem dX4_perform_82 : decode cX4_perform 82 = .ok (.aload_n 0, 1) := by decide +kernel
theorem dX4_perform_83 : decode cX4_perform 83 = .ok (.invokevirtual 81, 3) := by decide +kernel
theorem dX4_perform_86 : decode cX4_perform 86 = .ok (.aload_n 0, 1) := by decide +kernel
theorem dX4_perform_87 : decode cX4_perform 87 = .ok (.iload_n 2, 1) := by decide +kernel
theorem dX4_perform_88 : decode cX4_perform 88 = .ok (.invokevirtual 285, 3) := by decide +kernel
theorem dX4_perform_91 : decode cX4_perform 91 = .ok (.iload_n 3, 1) := by decide +kernel
theorem dX4_perform_92 : decode cX4_perform 92 = .ok (.ireturn, 1) := by decide +kernel
set_option maxRecDepth 20000 in
theorem ggX4_queueOrAbandon_X4_abandonJob : GoodIn wsX4_queueOrAbandon wsX4_abandonJob := goodIn_r _ [8, 1, 2, 9, 10, 11, 12, 13, 14, 15, 16, 17, 18, 19, 20, 26, 27, 28, 29, 30, 31, 32, 33, 34, 35, 36, 37, 38, 39, 40, 41, 42, 43, 44, 45, 46, 47, 48, 49] (by decide +kernel) (by decide +kernel)
set_option maxRecDepth 20000 in
theorem gX4_queueOrAbandon_X4_abandonJob : GoodIn wsX4_queueOrAbandon (wsV RX4 93 RX4 yX4_abandonJob wsX4_abandonJob) := goodIn_app (goodIn_of _ (by decide +kernel)) ggX4_queueOrAbandon_X4_abandonJob
set_option maxRecDepth 20000 in
theorem ggX4_queueOrAbandon_X1_enqueue : GoodIn wsX4_queueOrAbandon wsX1_enqueue := goodIn_r _ [24, 19, 25, 39, 40, 41, 42, 43, 44, 45] (by decide +kernel) (by decide +kernel)
set_option maxRecDepth 20000 in
theorem gX4_queueOrAbandon_X1_enqueue : GoodIn wsX4_queueOrAbandon (wsV RX4 288 RX1 yX1_enqueue wsX1_enqueue) := goodIn_app (goodIn_of _ (by decide +kernel)) ggX4_queueOrAbandon_X1_enqueue
theorem dX4_queueOrAbandon_0 : decode cX4_queueOrAbandon 0 = .ok (.aload_n 0, 1) := by decide +kernel
theorem dX4_queueOrAbandon_1 : decode cX4_queueOrAbandon 1 = .ok (.getfield 10, 3) := by decide +kernel
theorem dX4_queueOrAbandon_4 : decode cX4_queueOrAbandon 4 = .ok (.getfield 72, 3) := by decide +kernel
theorem dX4_queueOrAbandon_7 : decode cX4_queueOrAbandon 7 = .ok (.getfield 219, 3) := by decide +kernel
theorem dX4_queueOrAbandon_10 : decode cX4_queueOrAbandon 10 = .ok (.bipush 30, 2) := by decide +kernel
theorem dX4_queueOrAbandon_12 : decode cX4_queueOrAbandon 12 = .ok (.if_icmp .lt 10, 3) := by decide +kernel
theorem dX4_queueOrAbandon_15 : decode cX4_queueOrAbandon 15 = .ok (.aload_n 0, 1) := by decide +kernel
theorem dX4_queueOrAbandon_16 : decode cX4_queueOrAbandon 16 = .ok (.invokevirtual 93, 3) := by decide +kernel
theorem dX4_queueOrAbandon_19 : decode cX4_queueOrAbandon 19 = .ok (.goto 14, 3) := by decide +kernel
theorem dX4_queueOrAbandon_22 : decode cX4_queueOrAbandon 22 = .ok (.aload_n 0, 1) := by decide +kernel
theorem dX4_queueOrAbandon_23 : decode cX4_queueOrAbandon 23 = .ok (.getfield 10, 3) := by decide +kernel
theorem dX4_queueOrAbandon_26 : decode cX4_queueOrAbandon 26 = .ok (.getfield 72, 3) := by decide +kernel
theorem dX4_queueOrAbandon_29 : decode cX4_queueOrAbandon 29 = .ok (.iload_n 1, 1) := by decide +kernel
theorem dX4_queueOrAbandon_30 : decode cX4_queueOrAbandon 30 = .ok (.invokevirtual 288, 3) := by decide +kernel
theorem dX4_queueOrAbandon_33 : decode cX4_queueOrAbandon 33 = .ok (.return_, 1) := by decide +kernel
set_option maxRecDepth 20000 in
theorem ggX4_advanceJob_X1_takeStep : GoodIn wsX4_advanceJob wsX1_takeStep := goodIn_r _ [9, 10, 11, 12, 13, 14, 15, 16, 17, 18, 19, 20, 21, 22, 23, 24, 25, 26, 27, 28, 29, 30, 31, 32, 33, 34, 35, 36, 37, 38, 39, 40, 41, 42, 8, 43, 44, 45, 46, 47, 48, 49, 85, 86, 87, 88, 89, 90, 91, 92, 93, 94, 95] (by decide +kernel) (by decide +kernel)
set_option maxRecDepth 20000 in
theorem gX4_advanceJob_X1_takeStep : GoodIn wsX4_advanceJob (wsV RX4 243 RX1 yX1_takeStep wsX1_takeStep) := goodIn_app (goodIn_of _ (by decide +kernel)) ggX4_advanceJob_X1_takeStep
set_option maxRecDepth 20000 in
theorem ggX4_advanceJob_X1_isComplete : GoodIn wsX4_advanceJob wsX1_isComplete := goodIn_r _ [53, 10, 11, 14, 85, 86, 87, 88, 89, 90, 91] (by decide +kernel) (by decide +kernel)
set_option maxRecDepth 20000 in
theorem gX4_advanceJob_X1_isComplete : GoodIn wsX4_advanceJob (wsV RX4 291 RX1 yX1_isComplete wsX1_isComplete) := goodIn_app (goodIn_of _ (by decide +kernel)) ggX4_advanceJob_X1_isComplete
set_option maxRecDepth 20000 in
theorem ggX4_advanceJob_X4_exchangeTrees : GoodIn wsX4_advanceJob wsX4_exchangeTrees := goodIn_r _ [58, 1, 59, 3, 60, 61, 62, 63, 64, 18, 65, 26, 20, 32, 33, 34, 35, 31, 21, 66, 67, 68, 8, 69, 12, 70, 11, 10, 14, 71, 72, 73, 74, 75, 76, 77, 78, 79, 80, 81, 82, 83, 84, 85, 86, 87, 88, 89, 90, 91, 92, 93, 94, 95] (by decide +kernel) (by decide +kernel)
set_option maxRecDepth 20000 in
theorem gX4_advanceJob_X4_exchangeTrees : GoodIn wsX4_advanceJob (wsV RX4 294 RX4 yX4_exchangeTrees wsX4_exchangeTrees) := goodIn_app (goodIn_of _ (by decide +kernel)) ggX4_advanceJob_X4_exchangeTrees
theorem dX4_advanceJob_0 : decode cX4_advanceJob 0 = .ok (.aload_n 0, 1) := by decide +kernel
theorem dX4_advanceJob_1 : decode cX4_advanceJob 1 = .ok (.getfield 10, 3) := by decide +kernel
theorem dX4_advanceJob_4 : decode cX4_advanceJob 4 = .ok (.getfield 110, 3) := by decide +kernel
theorem dX4_advanceJob_7 : decode cX4_advanceJob 7 = .ok (.iconst 2, 1) := by decide +kernel
theorem dX4_advanceJob_8 : decode cX4_advanceJob 8 = .ok (.iaload, 1) := by decide +kernel
theorem dX4_advanceJob_9 : decode cX4_advanceJob 9 = .ok (.istore_n 1, 1) := by decide +kernel
theorem dX4_advanceJob_10 : decode cX4_advanceJob 10 = .ok (.iconst 0, 1) := by decide +kernel
theorem dX4_advanceJob_11 : decode cX4_advanceJob 11 = .ok (.istore_n 2, 1) := by decide +kernel
theorem dX4_advanceJob_12 : decode cX4_advanceJob 12 = .ok (.iconst 0, 1) := by decide +kernel
theorem dX4_advanceJob_13 : decode cX4_advanceJob 13 = .ok (.istore_n 3, 1) := by decide +kernel
theorem dX4_advanceJob_14 : decode cX4_advanceJob 14 = .ok (.iload_n 3, 1) := by decide +kernel
theorem dX4_advanceJob_15 : decode cX4_advanceJob 15 = .ok (.iload_n 1, 1) := by decide +kernel
theorem dX4_advanceJob_16 : decode cX4_advanceJob 16 = .ok (.if_icmp .ge 52, 3) := by decide +kernel
theorem dX4_advanceJob_19 : decode cX4_advanceJob 19 = .ok (.aload_n 0, 1) := by decide +kernel
theorem dX4_advanceJob_20 : decode cX4_advanceJob 20 = .ok (.getfield 10, 3) := by decide +kernel
theorem dX4_advanceJob_23 : decode cX4_advanceJob 23 = .ok (.getfield 72, 3) := by decide +kernel
theorem dX4_advanceJob_26 : decode cX4_advanceJob 26 = .ok (.getfield 75, 3) := by decide +kernel
theorem dX4_advanceJob_29 : decode cX4_advanceJob 29 = .ok (.ifCond .eq 39, 3) := by decide +kernel
theorem dX4_advanceJob_32 : decode cX4_advanceJob 32 = .ok (.iload_n 2, 1) := by decide +kernel
theorem dX4_advanceJob_33 : decode cX4_advanceJob 33 = .ok (.aload_n 0, 1) := by decide +kernel
theorem dX4_advanceJob_34 : decode cX4_advanceJob 34 = .ok (.getfield 10, 3) := by decide +kernel
theorem dX4_advanceJob_37 : decode cX4_advanceJob 37 = .ok (.getfield 72, 3) := by decide +kernel
theorem dX4_advanceJob_40 : decode cX4_advanceJob 40 = .ok (.invokevirtual 243, 3) := by decide +kernel
theorem dX4_advanceJob_43 : decode cX4_advanceJob 43 = .ok (.iadd, 1) := by decide +kernel
theorem dX4_advanceJob_44 : decode cX4_advanceJob 44 = .ok (.istore_n 2, 1) := by decide +kernel
theorem dX4_advanceJob_45 : decode cX4_advanceJob 45 = .ok (.aload_n 0, 1) := by decide +kernel
theorem dX4_advanceJob_46 : decode cX4_advanceJob 46 = .ok (.getfield 10, 3) := by decide +kernel
theorem dX4_advanceJob_49 : decode cX4_advanceJob 49 = .ok (.getfield 72, 3) := by decide +kernel
theorem dX4_advanceJob_52 : decode cX4_advanceJob 52 = .ok (.invokevirtual 291, 3) := by decide +kernel
theorem dX4_advanceJob_55 : decode cX4_advanceJob 55 = .ok (.ifCond .eq 7, 3) := by decide +kernel
theorem dX4_advanceJob_58 : decode cX4_advanceJob 58 = .ok (.aload_n 0, 1) := by decide +kernel
theorem dX4_advanceJob_59 : decode cX4_advanceJob 59 = .ok (.invokevirtual 294, 3) := by decide +kernel
theorem dX4_advanceJob_62 : decode cX4_advanceJob 62 = .ok (.iinc 3 1, 3) := by decide +kernel
theorem dX4_advanceJob_65 : decode cX4_advanceJob 65 = .ok (.goto (-51), 3) := by decide +kernel
theorem dX4_advanceJob_68 : decode cX4_advanceJob 68 = .ok (.iload_n 2, 1) := by decide +kernel
theorem dX4_advanceJob_69 : decode cX4_advanceJob 69 = .ok (.ireturn, 1) := by decide +kernel
set_option maxRecDepth 20000 in
theorem ggX4_needsRebuild_X3_markedNodes : GoodIn wsX4_needsRebuild wsX3_markedNodes := goodIn_r _ [9, 10, 11, 12, 13, 8, 14, 15, 16, 17, 18, 19, 42, 43, 44, 45] (by decide +kernel) (by decide +kernel)
set_option maxRecDepth 20000 in
theorem gX4_needsRebuild_X3_markedNodes : GoodIn wsX4_needsRebuild (wsV RX4 200 RX3 yX3_markedNodes wsX3_markedNodes) := goodIn_app (goodIn_of _ (by decide +kernel)) ggX4_needsRebuild_X3_markedNodes
set_option maxRecDepth 20000 in
theorem ggX4_needsRebuild_X3_greatestDepth : GoodIn wsX4_needsRebuild wsX3_greatestDepth := goodIn_r _ [23, 10, 24, 25, 26, 27, 28, 42, 43, 44, 45] (by decide +kernel) (by decide +kernel)
set_option maxRecDepth 20000 in
theorem gX4_needsRebuild_X3_greatestDepth : GoodIn wsX4_needsRebuild (wsV RX4 203 RX3 yX3_greatestDepth wsX3_greatestDepth) := goodIn_app (goodIn_of _ (by decide +kernel)) ggX4_needsRebuild_X3_greatestDepth
theorem dX4_needsRebuild_0 : decode cX4_needsRebuild 0 = .ok (.aload_n 0, 1) := by decide +kernel
theorem dX4_needsRebuild_1 : decode cX4_needsRebuild 1 = .ok (.getfield 10, 3) := by decide +kernel
theorem dX4_needsRebuild_4 : decode cX4_needsRebuild 4 = .ok (.getfield 148, 3) := by decide +kernel
theorem dX4_needsRebuild_7 : decode cX4_needsRebuild 7 = .ok (.astore_n 1, 1) := by decide +kernel
theorem dX4_needsRebuild_8 : decode cX4_needsRebuild 8 = .ok (.bipush 100, 2) := by decide +kernel
theorem dX4_needsRebuild_10 : decode cX4_needsRebuild 10 = .ok (.aload_n 1, 1) := by decide +kernel
theorem dX4_needsRebuild_11 : decode cX4_needsRebuild 11 = .ok (.invokevirtual 200, 3) := by decide +kernel
theorem dX4_needsRebuild_14 : decode cX4_needsRebuild 14 = .ok (.imul, 1) := by decide +kernel
theorem dX4_needsRebuild_15 : decode cX4_needsRebuild 15 = .ok (.aload_n 0, 1) := by decide +kernel
theorem dX4_needsRebuild_16 : decode cX4_needsRebuild 16 = .ok (.getfield 10, 3) := by decide +kernel
theorem dX4_needsRebuild_19 : decode cX4_needsRebuild 19 = .ok (.getfield 110, 3) := by decide +kernel
theorem dX4_needsRebuild_22 : decode cX4_needsRebuild 22 = .ok (.iconst 0, 1) := by decide +kernel
theorem dX4_needsRebuild_23 : decode cX4_needsRebuild 23 = .ok (.iaload, 1) := by decide +kernel
theorem dX4_needsRebuild_24 : decode cX4_needsRebuild 24 = .ok (.aload_n 1, 1) := by decide +kernel
theorem dX4_needsRebuild_25 : decode cX4_needsRebuild 25 = .ok (.getfield 188, 3) := by decide +kernel
theorem dX4_needsRebuild_28 : decode cX4_needsRebuild 28 = .ok (.imul, 1) := by decide +kernel
theorem dX4_needsRebuild_29 : decode cX4_needsRebuild 29 = .ok (.if_icmp .gt 19, 3) := by decide +kernel
theorem dX4_needsRebuild_32 : decode cX4_needsRebuild 32 = .ok (.aload_n 1, 1) := by decide +kernel
theorem dX4_needsRebuild_33 : decode cX4_needsRebuild 33 = .ok (.invokevirtual 203, 3) := by decide +kernel
theorem dX4_needsRebuild_36 : decode cX4_needsRebuild 36 = .ok (.aload_n 0, 1) := by decide +kernel
theorem dX4_needsRebuild_37 : decode cX4_needsRebuild 37 = .ok (.getfield 10, 3) := by decide +kernel
theorem dX4_needsRebuild_40 : decode cX4_needsRebuild 40 = .ok (.getfield 110, 3) := by decide +kernel
theorem dX4_needsRebuild_43 : decode cX4_needsRebuild 43 = .ok (.iconst 1, 1) := by decide +kernel
theorem dX4_needsRebuild_44 : decode cX4_needsRebuild 44 = .ok (.iaload, 1) := by decide +kernel
theorem dX4_needsRebuild_45 : decode cX4_needsRebuild 45 = .ok (.if_icmp .le 7, 3) := by decide +kernel
theorem dX4_needsRebuild_48 : decode cX4_needsRebuild 48 = .ok (.iconst 1, 1) := by decide +kernel
theorem dX4_needsRebuild_49 : decode cX4_needsRebuild 49 = .ok (.goto 4, 3) := by decide +kernel
theorem dX4_needsRebuild_52 : decode cX4_needsRebuild 52 = .ok (.iconst 0, 1) := by decide +kernel
theorem dX4_needsRebuild_53 : decode cX4_needsRebuild 53 = .ok (.ireturn, 1) := by decide +kernel
theorem dX4_countAct_0 : decode cX4_countAct 0 = .ok (.aload_n 0, 1) := by decide +kernel
theorem dX4_countAct_1 : decode cX4_countAct 1 = .ok (.getfield 10, 3) := by decide +kernel
theorem dX4_countAct_4 : decode cX4_countAct 4 = .ok (.getfield 69, 3) := by decide +kernel
theorem dX4_countAct_7 : decode cX4_countAct 7 = .ok (.iconst 0, 1) := by decide +kernel
theorem dX4_countAct_8 : decode cX4_countAct 8 = .ok (.iload_n 1, 1) := by decide +kernel
theorem dX4_countAct_9 : decode cX4_countAct 9 = .ok (.iastore, 1) := by decide +kernel
theorem dX4_countAct_10 : decode cX4_countAct 10 = .ok (.aload_n 0, 1) := by decide +kernel
theorem dX4_countAct_11 : decode cX4_countAct 11 = .ok (.getfield 10, 3) := by decide +kernel
theorem dX4_countAct_14 : decode cX4_countAct 14 = .ok (.getfield 69, 3) := by decide +kernel
theorem dX4_countAct_17 : decode cX4_countAct 17 = .ok (.iconst 1, 1) := by decide +kernel
theorem dX4_countAct_18 : decode cX4_countAct 18 = .ok (.aload_n 0, 1) := by decide +kernel
theorem dX4_countAct_19 : decode cX4_countAct 19 = .ok (.getfield 10, 3) := by decide +kernel
theorem dX4_countAct_22 : decode cX4_countAct 22 = .ok (.getfield 69, 3) := by decide +kernel
theorem dX4_countAct_25 : decode cX4_countAct 25 = .ok (.iconst 1, 1) := by decide +kernel
theorem dX4_countAct_26 : decode cX4_countAct 26 = .ok (.iaload, 1) := by decide +kernel
theorem dX4_countAct_27 : decode cX4_countAct 27 = .ok (.iload_n 1, 1) := by decide +kernel
theorem dX4_countAct_28 : decode cX4_countAct 28 = .ok (.invokestatic 246, 3) := by decide +kernel
theorem dX4_countAct_31 : decode cX4_countAct 31 = .ok (.iastore, 1) := by decide +kernel
theorem dX4_countAct_32 : decode cX4_countAct 32 = .ok (.aload_n 0, 1) := by decide +kernel
theorem dX4_countAct_33 : decode cX4_countAct 33 = .ok (.getfield 10, 3) := by decide +kernel
theorem dX4_countAct_36 : decode cX4_countAct 36 = .ok (.getfield 69, 3) := by decide +kernel
theorem dX4_countAct_39 : decode cX4_countAct 39 = .ok (.iconst 2, 1) := by decide +kernel
theorem dX4_countAct_40 : decode cX4_countAct 40 = .ok (.dup2, 1) := by decide +kernel
theorem dX4_countAct_41 : decode cX4_countAct 41 = .ok (.iaload, 1) := by decide +kernel
theorem dX4_countAct_42 : decode cX4_countAct 42 = .ok (.iload_n 1, 1) := by decide +kernel
theorem dX4_countAct_43 : decode cX4_countAct 43 = .ok (.iadd, 1) := by decide +kernel
theorem dX4_countAct_44 : decode cX4_countAct 44 = .ok (.iastore, 1) := by decide +kernel
theorem dX4_countAct_45 : decode cX4_countAct 45 = .ok (.aload_n 0, 1) := by decide +kernel
theorem dX4_countAct_46 : decode cX4_countAct 46 = .ok (.getfield 10, 3) := by decide +kernel
theorem dX4_countAct_49 : decode cX4_countAct 49 = .ok (.getfield 69, 3) := by decide +kernel
theorem dX4_countAct_52 : decode cX4_countAct 52 = .ok (.iconst 3, 1) := by decide +kernel
theorem dX4_countAct_53 : decode cX4_countAct 53 = .ok (.dup2, 1) := by decide +kernel
theorem dX4_countAct_54 : decode cX4_countAct 54 = .ok (.iaload, 1) := by decide +kernel
theorem dX4_countAct_55 : decode cX4_countAct 55 = .ok (.iconst 1, 1) := by decide +kernel
theorem dX4_countAct_56 : decode cX4_countAct 56 = .ok (.iadd, 1) := by decide +kernel
theorem dX4_countAct_57 : decode cX4_countAct 57 = .ok (.iastore, 1) := by decide +kernel
theorem dX4_countAct_58 : decode cX4_countAct 58 = .ok (.return_, 1) := by decide +kernel
set_option maxRecDepth 20000 in
theorem ggX4_beginJob_X3_tellPresence : GoodIn wsX4_beginJob wsX3_tellPresence := goodIn_r _ [10, 11, 12, 13, 54, 55, 56, 57] (by decide +kernel) (by decide +kernel)
set_option maxRecDepth 20000 in
theorem gX4_beginJob_X3_tellPresence : GoodIn wsX4_beginJob (wsV RX4 178 RX3 yX3_tellPresence wsX3_tellPresence) := goodIn_app (goodIn_of _ (by decide +kernel)) ggX4_beginJob_X3_tellPresence
set_option maxRecDepth 20000 in
theorem ggX4_beginJob_X3_presentKeys : GoodIn wsX4_beginJob wsX3_presentKeys := goodIn_r _ [17, 11, 18, 19, 20, 9, 21, 13, 54, 55, 56, 57] (by decide +kernel) (by decide +kernel)
set_option maxRecDepth 20000 in
theorem gX4_beginJob_X3_presentKeys : GoodIn wsX4_beginJob (wsV RX4 152 RX3 yX3_presentKeys wsX3_presentKeys) := goodIn_app (goodIn_of _ (by decide +kernel)) ggX4_beginJob_X3_presentKeys
set_option maxRecDepth 20000 in
theorem ggX4_beginJob_X1_start : GoodIn wsX4_beginJob wsX1_start := goodIn_r _ [26, 27, 28, 29, 30, 31, 32, 25, 33, 34, 35, 36, 37, 38, 39, 40, 58, 59, 60, 61, 62, 63, 64, 54, 55, 56, 57] (by decide +kernel) (by decide +kernel)
set_option maxRecDepth 20000 in
theorem gX4_beginJob_X1_start : GoodIn wsX4_beginJob (wsV RX4 297 RX1 yX1_start wsX1_start) := goodIn_app (goodIn_of _ (by decide +kernel)) ggX4_beginJob_X1_start
theorem dX4_beginJob_0 : decode cX4_beginJob 0 = .ok (.aload_n 0, 1) := by decide +kernel
theorem dX4_beginJob_1 : decode cX4_beginJob 1 = .ok (.getfield 10, 3) := by decide +kernel
theorem dX4_beginJob_4 : decode cX4_beginJob 4 = .ok (.getfield 148, 3) := by decide +kernel
theorem dX4_beginJob_7 : decode cX4_beginJob 7 = .ok (.aload_n 0, 1) := by decide +kernel
theorem dX4_beginJob_8 : decode cX4_beginJob 8 = .ok (.getfield 38, 3) := by decide +kernel
theorem dX4_beginJob_11 : decode cX4_beginJob 11 = .ok (.invokevirtual 178, 3) := by decide +kernel
theorem dX4_beginJob_14 : decode cX4_beginJob 14 = .ok (.aload_n 0, 1) := by decide +kernel
theorem dX4_beginJob_15 : decode cX4_beginJob 15 = .ok (.getfield 10, 3) := by decide +kernel
theorem dX4_beginJob_18 : decode cX4_beginJob 18 = .ok (.getfield 72, 3) := by decide +kernel
theorem dX4_beginJob_21 : decode cX4_beginJob 21 = .ok (.aload_n 0, 1) := by decide +kernel
theorem dX4_beginJob_22 : decode cX4_beginJob 22 = .ok (.getfield 38, 3) := by decide +kernel
theorem dX4_beginJob_25 : decode cX4_beginJob 25 = .ok (.aload_n 0, 1) := by decide +kernel
theorem dX4_beginJob_26 : decode cX4_beginJob 26 = .ok (.getfield 10, 3) := by decide +kernel
theorem dX4_beginJob_29 : decode cX4_beginJob 29 = .ok (.getfield 148, 3) := by decide +kernel
theorem dX4_beginJob_32 : decode cX4_beginJob 32 = .ok (.invokevirtual 152, 3) := by decide +kernel
theorem dX4_beginJob_35 : decode cX4_beginJob 35 = .ok (.invokevirtual 297, 3) := by decide +kernel
theorem dX4_beginJob_38 : decode cX4_beginJob 38 = .ok (.aload_n 0, 1) := by decide +kernel
theorem dX4_beginJob_39 : decode cX4_beginJob 39 = .ok (.getfield 10, 3) := by decide +kernel
theorem dX4_beginJob_42 : decode cX4_beginJob 42 = .ok (.getfield 69, 3) := by decide +kernel
theorem dX4_beginJob_45 : decode cX4_beginJob 45 = .ok (.iconst 4, 1) := by decide +kernel
theorem dX4_beginJob_46 : decode cX4_beginJob 46 = .ok (.dup2, 1) := by decide +kernel
theorem dX4_beginJob_47 : decode cX4_beginJob 47 = .ok (.iaload, 1) := by decide +kernel
theorem dX4_beginJob_48 : decode cX4_beginJob 48 = .ok (.iconst 1, 1) := by decide +kernel
theorem dX4_beginJob_49 : decode cX4_beginJob 49 = .ok (.iadd, 1) := by decide +kernel
theorem dX4_beginJob_50 : decode cX4_beginJob 50 = .ok (.iastore, 1) := by decide +kernel
theorem dX4_beginJob_51 : decode cX4_beginJob 51 = .ok (.return_, 1) := by decide +kernel
set_option maxRecDepth 20000 in
theorem ggX4_abandonJob_X1_stop : GoodIn wsX4_abandonJob wsX1_stop := goodIn_r _ [8, 9, 10, 11, 12, 13, 14, 28, 29, 30, 31, 32, 33, 34, 35, 36, 37, 38] (by decide +kernel) (by decide +kernel)
set_option maxRecDepth 20000 in
theorem gX4_abandonJob_X1_stop : GoodIn wsX4_abandonJob (wsV RX4 301 RX1 yX1_stop wsX1_stop) := goodIn_app (goodIn_of _ (by decide +kernel)) ggX4_abandonJob_X1_stop
theorem dX4_abandonJob_0 : decode cX4_abandonJob 0 = .ok (.aload_n 0, 1) := by decide +kernel
theorem dX4_abandonJob_1 : decode cX4_abandonJob 1 = .ok (.getfield 10, 3) := by decide +kernel
theorem dX4_abandonJob_4 : decode cX4_abandonJob 4 = .ok (.getfield 72, 3) := by decide +kernel
theorem dX4_abandonJob_7 : decode cX4_abandonJob 7 = .ok (.invokevirtual 301, 3) := by decide +kernel
theorem dX4_abandonJob_10 : decode cX4_abandonJob 10 = .ok (.aload_n 0, 1) := by decide +kernel
theorem dX4_abandonJob_11 : decode cX4_abandonJob 11 = .ok (.getfield 10, 3) := by decide +kernel
theorem dX4_abandonJob_14 : decode cX4_abandonJob 14 = .ok (.getfield 69, 3) := by decide +kernel
theorem dX4_abandonJob_17 : decode cX4_abandonJob 17 = .ok (.bipush 6, 2) := by decide +kernel
theorem dX4_abandonJob_19 : decode cX4_abandonJob 19 = .ok (.dup2, 1) := by decide +kernel
theorem dX4_abandonJob_20 : decode cX4_abandonJob 20 = .ok (.iaload, 1) := by decide +kernel
theorem dX4_abandonJob_21 : decode cX4_abandonJob 21 = .ok (.iconst 1, 1) := by decide +kernel
theorem dX4_abandonJob_22 : decode cX4_abandonJob 22 = .ok (.iadd, 1) := by decide +kernel
theorem dX4_abandonJob_23 : decode cX4_abandonJob 23 = .ok (.iastore, 1) := by decide +kernel
theorem dX4_abandonJob_24 : decode cX4_abandonJob 24 = .ok (.return_, 1) := by decide +kernel
set_option maxRecDepth 20000 in
theorem ggX4_exchangeTrees_X3_becomeCopyOf : GoodIn wsX4_exchangeTrees wsX3_becomeCopyOf := goodIn_r _ [10, 11, 12, 13, 14, 15, 16, 17, 18, 50, 51, 52, 53] (by decide +kernel) (by decide +kernel)
set_option maxRecDepth 20000 in
theorem gX4_exchangeTrees_X3_becomeCopyOf : GoodIn wsX4_exchangeTrees (wsV RX4 307 RX3 yX3_becomeCopyOf wsX3_becomeCopyOf) := goodIn_app (goodIn_of _ (by decide +kernel)) ggX4_exchangeTrees_X3_becomeCopyOf
set_option maxRecDepth 20000 in
theorem ggX4_exchangeTrees_X1_stop : GoodIn wsX4_exchangeTrees wsX1_stop := goodIn_r _ [23, 24, 25, 26, 27, 28, 29, 43, 44, 45, 46, 47, 48, 49, 50, 51, 52, 53] (by decide +kernel) (by decide +kernel)
set_option maxRecDepth 20000 in
theorem gX4_exchangeTrees_X1_stop : GoodIn wsX4_exchangeTrees (wsV RX4 301 RX1 yX1_stop wsX1_stop) := goodIn_app (goodIn_of _ (by decide +kernel)) ggX4_exchangeTrees_X1_stop
theorem dX4_exchangeTrees_0 : decode cX4_exchangeTrees 0 = .ok (.aload_n 0, 1) := by decide +kernel
theorem dX4_exchangeTrees_1 : decode cX4_exchangeTrees 1 = .ok (.getfield 10, 3) := by decide +kernel
theorem dX4_exchangeTrees_4 : decode cX4_exchangeTrees 4 = .ok (.getfield 148, 3) := by decide +kernel
theorem dX4_exchangeTrees_7 : decode cX4_exchangeTrees 7 = .ok (.aload_n 0, 1) := by decide +kernel
theorem dX4_exchangeTrees_8 : decode cX4_exchangeTrees 8 = .ok (.getfield 10, 3) := by decide +kernel
theorem dX4_exchangeTrees_11 : decode cX4_exchangeTrees 11 = .ok (.getfield 72, 3) := by decide +kernel
theorem dX4_exchangeTrees_14 : decode cX4_exchangeTrees 14 = .ok (.getfield 304, 3) := by decide +kernel
theorem dX4_exchangeTrees_17 : decode cX4_exchangeTrees 17 = .ok (.invokevirtual 307, 3) := by decide +kernel
theorem dX4_exchangeTrees_20 : decode cX4_exchangeTrees 20 = .ok (.aload_n 0, 1) := by decide +kernel
theorem dX4_exchangeTrees_21 : decode cX4_exchangeTrees 21 = .ok (.getfield 10, 3) := by decide +kernel
theorem dX4_exchangeTrees_24 : decode cX4_exchangeTrees 24 = .ok (.getfield 72, 3) := by decide +kernel
theorem dX4_exchangeTrees_27 : decode cX4_exchangeTrees 27 = .ok (.invokevirtual 301, 3) := by decide +kernel
theorem dX4_exchangeTrees_30 : decode cX4_exchangeTrees 30 = .ok (.aload_n 0, 1) := by decide +kernel
theorem dX4_exchangeTrees_31 : decode cX4_exchangeTrees 31 = .ok (.getfield 10, 3) := by decide +kernel
theorem dX4_exchangeTrees_34 : decode cX4_exchangeTrees 34 = .ok (.getfield 69, 3) := by decide +kernel
theorem dX4_exchangeTrees_37 : decode cX4_exchangeTrees 37 = .ok (.iconst 5, 1) := by decide +kernel
theorem dX4_exchangeTrees_38 : decode cX4_exchangeTrees 38 = .ok (.dup2, 1) := by decide +kernel
theorem dX4_exchangeTrees_39 : decode cX4_exchangeTrees 39 = .ok (.iaload, 1) := by decide +kernel
theorem dX4_exchangeTrees_40 : decode cX4_exchangeTrees 40 = .ok (.iconst 1, 1) := by decide +kernel
theorem dX4_exchangeTrees_41 : decode cX4_exchangeTrees 41 = .ok (.iadd, 1) := by decide +kernel
theorem dX4_exchangeTrees_42 : decode cX4_exchangeTrees 42 = .ok (.iastore, 1) := by decide +kernel
theorem dX4_exchangeTrees_43 : decode cX4_exchangeTrees 43 = .ok (.return_, 1) := by decide +kernel
set_option maxRecDepth 20000 in
theorem ggX4_keysInJustOneTree_X3_tellPresence : GoodIn wsX4_keysInJustOneTree wsX3_tellPresence := goodIn_r _ [10, 11, 12, 13, 46, 47, 48, 49] (by decide +kernel) (by decide +kernel)
set_option maxRecDepth 20000 in
theorem gX4_keysInJustOneTree_X3_tellPresence : GoodIn wsX4_keysInJustOneTree (wsV RX4 178 RX3 yX3_tellPresence wsX3_tellPresence) := goodIn_app (goodIn_of _ (by decide +kernel)) ggX4_keysInJustOneTree_X3_tellPresence
set_option maxRecDepth 20000 in
theorem ggX4_keysInJustOneTree_X3_presentKeysAmong : GoodIn wsX4_keysInJustOneTree wsX3_presentKeysAmong := goodIn_r _ [17, 11, 13, 12, 46, 47, 48, 49] (by decide +kernel) (by decide +kernel)
set_option maxRecDepth 20000 in
theorem gX4_keysInJustOneTree_X3_presentKeysAmong : GoodIn wsX4_keysInJustOneTree (wsV RX4 310 RX3 yX3_presentKeysAmong wsX3_presentKeysAmong) := goodIn_app (goodIn_of _ (by decide +kernel)) ggX4_keysInJustOneTree_X3_presentKeysAmong
set_option maxRecDepth 20000 in
theorem ggX4_keysInJustOneTree_X3_presentKeys : GoodIn wsX4_keysInJustOneTree wsX3_presentKeys := goodIn_r _ [21, 11, 22, 23, 24, 9, 25, 13, 46, 47, 48, 49] (by decide +kernel) (by decide +kernel)
set_option maxRecDepth 20000 in
theorem gX4_keysInJustOneTree_X3_presentKeys : GoodIn wsX4_keysInJustOneTree (wsV RX4 152 RX3 yX3_presentKeys wsX3_presentKeys) := goodIn_app (goodIn_of _ (by decide +kernel)) ggX4_keysInJustOneTree_X3_presentKeys
theorem dX4_keysInJustOneTree_0 : decode cX4_keysInJustOneTree 0 = .ok (.aload_n 0, 1) := by decide +kernel
theorem dX4_keysInJustOneTree_1 : decode cX4_keysInJustOneTree 1 = .ok (.getfield 10, 3) := by decide +kernel
theorem dX4_keysInJustOneTree_4 : decode cX4_keysInJustOneTree 4 = .ok (.getfield 72, 3) := by decide +kernel
theorem dX4_keysInJustOneTree_7 : decode cX4_keysInJustOneTree 7 = .ok (.getfield 304, 3) := by decide +kernel
theorem dX4_keysInJustOneTree_10 : decode cX4_keysInJustOneTree 10 = .ok (.astore_n 1, 1) := by decide +kernel
theorem dX4_keysInJustOneTree_11 : decode cX4_keysInJustOneTree 11 = .ok (.aload_n 0, 1) := by decide +kernel
theorem dX4_keysInJustOneTree_12 : decode cX4_keysInJustOneTree 12 = .ok (.getfield 10, 3) := by decide +kernel
theorem dX4_keysInJustOneTree_15 : decode cX4_keysInJustOneTree 15 = .ok (.getfield 148, 3) := by decide +kernel
theorem dX4_keysInJustOneTree_18 : decode cX4_keysInJustOneTree 18 = .ok (.aload_n 0, 1) := by decide +kernel
theorem dX4_keysInJustOneTree_19 : decode cX4_keysInJustOneTree 19 = .ok (.getfield 38, 3) := by decide +kernel
theorem dX4_keysInJustOneTree_22 : decode cX4_keysInJustOneTree 22 = .ok (.invokevirtual 178, 3) := by decide +kernel
theorem dX4_keysInJustOneTree_25 : decode cX4_keysInJustOneTree 25 = .ok (.aload_n 1, 1) := by decide +kernel
theorem dX4_keysInJustOneTree_26 : decode cX4_keysInJustOneTree 26 = .ok (.aload_n 0, 1) := by decide +kernel
theorem dX4_keysInJustOneTree_27 : decode cX4_keysInJustOneTree 27 = .ok (.getfield 38, 3) := by decide +kernel
theorem dX4_keysInJustOneTree_30 : decode cX4_keysInJustOneTree 30 = .ok (.invokevirtual 310, 3) := by decide +kernel
theorem dX4_keysInJustOneTree_33 : decode cX4_keysInJustOneTree 33 = .ok (.istore_n 2, 1) := by decide +kernel
theorem dX4_keysInJustOneTree_34 : decode cX4_keysInJustOneTree 34 = .ok (.aload_n 0, 1) := by decide +kernel
theorem dX4_keysInJustOneTree_35 : decode cX4_keysInJustOneTree 35 = .ok (.getfield 10, 3) := by decide +kernel
theorem dX4_keysInJustOneTree_38 : decode cX4_keysInJustOneTree 38 = .ok (.getfield 148, 3) := by decide +kernel
theorem dX4_keysInJustOneTree_41 : decode cX4_keysInJustOneTree 41 = .ok (.invokevirtual 152, 3) := by decide +kernel
theorem dX4_keysInJustOneTree_44 : decode cX4_keysInJustOneTree 44 = .ok (.aload_n 1, 1) := by decide +kernel
theorem dX4_keysInJustOneTree_45 : decode cX4_keysInJustOneTree 45 = .ok (.invokevirtual 152, 3) := by decide +kernel
theorem dX4_keysInJustOneTree_48 : decode cX4_keysInJustOneTree 48 = .ok (.iadd, 1) := by decide +kernel
theorem dX4_keysInJustOneTree_49 : decode cX4_keysInJustOneTree 49 = .ok (.iconst 2, 1) := by decide +kernel
theorem dX4_keysInJustOneTree_50 : decode cX4_keysInJustOneTree 50 = .ok (.iload_n 2, 1) := by decide +kernel
theorem dX4_keysInJustOneTree_51 : decode cX4_keysInJustOneTree 51 = .ok (.imul, 1) := by decide +kernel
theorem dX4_keysInJustOneTree_52 : decode cX4_keysInJustOneTree 52 = .ok (.isub, 1) := by decide +kernel
theorem dX4_keysInJustOneTree_53 : decode cX4_keysInJustOneTree 53 = .ok (.ireturn, 1) := by decide +kernel
theorem dX4_treeFor_0 : decode cX4_treeFor 0 = .ok (.iload_n 1, 1) := by decide +kernel
theorem dX4_treeFor_1 : decode cX4_treeFor 1 = .ok (.ifCond .eq 16, 3) := by decide +kernel
theorem dX4_treeFor_4 : decode cX4_treeFor 4 = .ok (.aload_n 0, 1) := by decide +kernel
theorem dX4_treeFor_5 : decode cX4_treeFor 5 = .ok (.getfield 10, 3) := by decide +kernel
theorem dX4_treeFor_8 : decode cX4_treeFor 8 = .ok (.getfield 72, 3) := by decide +kernel
theorem dX4_treeFor_11 : decode cX4_treeFor 11 = .ok (.getfield 304, 3) := by decide +kernel
theorem dX4_treeFor_14 : decode cX4_treeFor 14 = .ok (.goto 10, 3) := by decide +kernel
theorem dX4_treeFor_17 : decode cX4_treeFor 17 = .ok (.aload_n 0, 1) := by decide +kernel
theorem dX4_treeFor_18 : decode cX4_treeFor 18 = .ok (.getfield 10, 3) := by decide +kernel
theorem dX4_treeFor_21 : decode cX4_treeFor 21 = .ok (.getfield 148, 3) := by decide +kernel
theorem dX4_treeFor_24 : decode cX4_treeFor 24 = .ok (.areturn, 1) := by decide +kernel
theorem dX4_leastDepthFor_0 : decode cX4_leastDepthFor 0 = .ok (.iconst 0, 1) := by decide +kernel
theorem dX4_leastDepthFor_1 : decode cX4_leastDepthFor 1 = .ok (.istore_n 1, 1) := by decide +kernel
theorem dX4_leastDepthFor_2 : decode cX4_leastDepthFor 2 = .ok (.iconst 0, 1) := by decide +kernel
theorem dX4_leastDepthFor_3 : decode cX4_leastDepthFor 3 = .ok (.istore_n 2, 1) := by decide +kernel
theorem dX4_leastDepthFor_4 : decode cX4_leastDepthFor 4 = .ok (.iload_n 2, 1) := by decide +kernel
theorem dX4_leastDepthFor_5 : decode cX4_leastDepthFor 5 = .ok (.iload_n 0, 1) := by decide +kernel
theorem dX4_leastDepthFor_6 : decode cX4_leastDepthFor 6 = .ok (.if_icmp .ge 15, 3) := by decide +kernel
theorem dX4_leastDepthFor_9 : decode cX4_leastDepthFor 9 = .ok (.iinc 1 1, 3) := by decide +kernel
theorem dX4_leastDepthFor_12 : decode cX4_leastDepthFor 12 = .ok (.iconst 2, 1) := by decide +kernel
theorem dX4_leastDepthFor_13 : decode cX4_leastDepthFor 13 = .ok (.iload_n 2, 1) := by decide +kernel
theorem dX4_leastDepthFor_14 : decode cX4_leastDepthFor 14 = .ok (.imul, 1) := by decide +kernel
theorem dX4_leastDepthFor_15 : decode cX4_leastDepthFor 15 = .ok (.iconst 1, 1) := by decide +kernel
theorem dX4_leastDepthFor_16 : decode cX4_leastDepthFor 16 = .ok (.iadd, 1) := by decide +kernel
theorem dX4_leastDepthFor_17 : decode cX4_leastDepthFor 17 = .ok (.istore_n 2, 1) := by decide +kernel
theorem dX4_leastDepthFor_18 : decode cX4_leastDepthFor 18 = .ok (.goto (-14), 3) := by decide +kernel
theorem dX4_leastDepthFor_21 : decode cX4_leastDepthFor 21 = .ok (.iload_n 1, 1) := by decide +kernel
theorem dX4_leastDepthFor_22 : decode cX4_leastDepthFor 22 = .ok (.ireturn, 1) := by decide +kernel
set_option maxRecDepth 20000 in
theorem ggX4_saveState_X4_dropOldestState : GoodIn wsX4_saveState wsX4_dropOldestState := goodIn_r _ [8, 2, 1, 46, 47, 48, 49, 50, 51, 52, 53, 54] (by decide +kernel) (by decide +kernel)
set_option maxRecDepth 20000 in
theorem gX4_saveState_X4_dropOldestState : GoodIn wsX4_saveState (wsV RX4 314 RX4 yX4_dropOldestState wsX4_dropOldestState) := goodIn_app (goodIn_of _ (by decide +kernel)) ggX4_saveState_X4_dropOldestState
set_option maxRecDepth 20000 in
theorem ggX4_saveState_X2_becomeCopyOf : GoodIn wsX4_saveState wsX2_becomeCopyOf := goodIn_r _ [13, 14, 15, 16, 17, 18, 19, 20, 21, 22, 23, 24, 25, 26, 27, 28, 29, 30, 31, 32, 33, 34, 35, 36, 37, 38, 39, 40, 41, 42, 43, 44, 45, 55, 56, 57, 58, 59, 60, 61, 62, 63, 64, 65, 66, 67, 68, 69] (by decide +kernel) (by decide +kernel)
set_option maxRecDepth 20000 in
theorem gX4_saveState_X2_becomeCopyOf : GoodIn wsX4_saveState (wsV RX4 141 RX2 yX2_becomeCopyOf wsX2_becomeCopyOf) := goodIn_app (goodIn_of _ (by decide +kernel)) ggX4_saveState_X2_becomeCopyOf
theorem dX4_saveState_0 : decode cX4_saveState 0 = .ok (.aload_n 0, 1) := by decide +kernel
theorem dX4_saveState_1 : decode cX4_saveState 1 = .ok (.getfield 136, 3) := by decide +kernel
theorem dX4_saveState_4 : decode cX4_saveState 4 = .ok (.bipush 6, 2) := by decide +kernel
theorem dX4_saveState_6 : decode cX4_saveState 6 = .ok (.if_icmp .lt 7, 3) := by decide +kernel
theorem dX4_saveState_9 : decode cX4_saveState 9 = .ok (.aload_n 0, 1) := by decide +kernel
theorem dX4_saveState_10 : decode cX4_saveState 10 = .ok (.invokevirtual 314, 3) := by decide +kernel
theorem dX4_saveState_13 : decode cX4_saveState 13 = .ok (.aload_n 0, 1) := by decide +kernel
theorem dX4_saveState_14 : decode cX4_saveState 14 = .ok (.getfield 16, 3) := by decide +kernel
theorem dX4_saveState_17 : decode cX4_saveState 17 = .ok (.aload_n 0, 1) := by decide +kernel
theorem dX4_saveState_18 : decode cX4_saveState 18 = .ok (.getfield 136, 3) := by decide +kernel
theorem dX4_saveState_21 : decode cX4_saveState 21 = .ok (.aaload, 1) := by decide +kernel
theorem dX4_saveState_22 : decode cX4_saveState 22 = .ok (.aload_n 0, 1) := by decide +kernel
theorem dX4_saveState_23 : decode cX4_saveState 23 = .ok (.getfield 10, 3) := by decide +kernel
theorem dX4_saveState_26 : decode cX4_saveState 26 = .ok (.invokevirtual 141, 3) := by decide +kernel
theorem dX4_saveState_29 : decode cX4_saveState 29 = .ok (.aload_n 0, 1) := by decide +kernel
theorem dX4_saveState_30 : decode cX4_saveState 30 = .ok (.dup, 1) := by decide +kernel
theorem dX4_saveState_31 : decode cX4_saveState 31 = .ok (.getfield 136, 3) := by decide +kernel
theorem dX4_saveState_34 : decode cX4_saveState 34 = .ok (.iconst 1, 1) := by decide +kernel
theorem dX4_saveState_35 : decode cX4_saveState 35 = .ok (.iadd, 1) := by decide +kernel
theorem dX4_saveState_36 : decode cX4_saveState 36 = .ok (.putfield 136, 3) := by decide +kernel
theorem dX4_saveState_39 : decode cX4_saveState 39 = .ok (.return_, 1) := by decide +kernel
theorem dX4_dropOldestState_0 : decode cX4_dropOldestState 0 = .ok (.aload_n 0, 1) := by decide +kernel
theorem dX4_dropOldestState_1 : decode cX4_dropOldestState 1 = .ok (.getfield 16, 3) := by decide +kernel
theorem dX4_dropOldestState_4 : decode cX4_dropOldestState 4 = .ok (.iconst 0, 1) := by decide +kernel
theorem dX4_dropOldestState_5 : decode cX4_dropOldestState 5 = .ok (.aaload, 1) := by decide +kernel
theorem dX4_dropOldestState_6 : decode cX4_dropOldestState 6 = .ok (.astore_n 1, 1) := by decide +kernel
theorem dX4_dropOldestState_7 : decode cX4_dropOldestState 7 = .ok (.iconst 1, 1) := by decide +kernel
theorem dX4_dropOldestState_8 : decode cX4_dropOldestState 8 = .ok (.istore_n 2, 1) := by decide +kernel
theorem dX4_dropOldestState_9 : decode cX4_dropOldestState 9 = .ok (.iload_n 2, 1) := by decide +kernel
theorem dX4_dropOldestState_10 : decode cX4_dropOldestState 10 = .ok (.bipush 6, 2) := by decide +kernel
theorem dX4_dropOldestState_12 : decode cX4_dropOldestState 12 = .ok (.if_icmp .ge 23, 3) := by decide +kernel
theorem dX4_dropOldestState_15 : decode cX4_dropOldestState 15 = .ok (.aload_n 0, 1) := by decide +kernel
theorem dX4_dropOldestState_16 : decode cX4_dropOldestState 16 = .ok (.getfield 16, 3) := by decide +kernel
theorem dX4_dropOldestState_19 : decode cX4_dropOldestState 19 = .ok (.iload_n 2, 1) := by decide +kernel
theorem dX4_dropOldestState_20 : decode cX4_dropOldestState 20 = .ok (.iconst 1, 1) := by decide +kernel
theorem dX4_dropOldestState_21 : decode cX4_dropOldestState 21 = .ok (.isub, 1) := by decide +kernel
theorem dX4_dropOldestState_22 : decode cX4_dropOldestState 22 = .ok (.aload_n 0, 1) := by decide +kernel
theorem dX4_dropOldestState_23 : decode cX4_dropOldestState 23 = .ok (.getfield 16, 3) := by decide +kernel
theorem dX4_dropOldestState_26 : decode cX4_dropOldestState 26 = .ok (.iload_n 2, 1) := by decide +kernel
theorem dX4_dropOldestState_27 : decode cX4_dropOldestState 27 = .ok (.aaload, 1) := by decide +kernel
theorem dX4_dropOldestState_28 : decode cX4_dropOldestState 28 = .ok (.aastore, 1) := by decide +kernel
theorem dX4_dropOldestState_29 : decode cX4_dropOldestState 29 = .ok (.iinc 2 1, 3) := by decide +kernel
theorem dX4_dropOldestState_32 : decode cX4_dropOldestState 32 = .ok (.goto (-23), 3) := by decide +kernel
theorem dX4_dropOldestState_35 : decode cX4_dropOldestState 35 = .ok (.aload_n 0, 1) := by decide +kernel
theorem dX4_dropOldestState_36 : decode cX4_dropOldestState 36 = .ok (.getfield 16, 3) := by decide +kernel
theorem dX4_dropOldestState_39 : decode cX4_dropOldestState 39 = .ok (.iconst 5, 1) := by decide +kernel
theorem dX4_dropOldestState_40 : decode cX4_dropOldestState 40 = .ok (.aload_n 1, 1) := by decide +kernel
theorem dX4_dropOldestState_41 : decode cX4_dropOldestState 41 = .ok (.aastore, 1) := by decide +kernel
theorem dX4_dropOldestState_42 : decode cX4_dropOldestState 42 = .ok (.aload_n 0, 1) := by decide +kernel
theorem dX4_dropOldestState_43 : decode cX4_dropOldestState 43 = .ok (.iconst 5, 1) := by decide +kernel
theorem dX4_dropOldestState_44 : decode cX4_dropOldestState 44 = .ok (.putfield 136, 3) := by decide +kernel
theorem dX4_dropOldestState_47 : decode cX4_dropOldestState 47 = .ok (.return_, 1) := by decide +kernel
