theorem dX5_init_0 : decode cX5_init 0 = .ok (.aload_n 0, 1) := by decide +kernel
theorem dX5_init_1 : decode cX5_init 1 = .ok (.invokespecial 1, 3) := by decide +kernel
theorem dX5_init_4 : decode cX5_init 4 = .ok (.aload_n 0, 1) := by decide +kernel
theorem dX5_init_5 : decode cX5_init 5 = .ok (.sipush 646, 3) := by decide +kernel
theorem dX5_init_8 : decode cX5_init 8 = .ok (.newarray .int, 2) := by decide +kernel
theorem dX5_init_10 : decode cX5_init 10 = .ok (.putfield 7, 3) := by decide +kernel
theorem dX5_init_13 : decode cX5_init 13 = .ok (.aload_n 0, 1) := by decide +kernel
theorem dX5_init_14 : decode cX5_init 14 = .ok (.sipush 646, 3) := by decide +kernel
theorem dX5_init_17 : decode cX5_init 17 = .ok (.newarray .int, 2) := by decide +kernel
theorem dX5_init_19 : decode cX5_init 19 = .ok (.putfield 13, 3) := by decide +kernel
theorem dX5_init_22 : decode cX5_init 22 = .ok (.aload_n 0, 1) := by decide +kernel
theorem dX5_init_23 : decode cX5_init 23 = .ok (.sipush 3876, 3) := by decide +kernel
theorem dX5_init_26 : decode cX5_init 26 = .ok (.newarray .int, 2) := by decide +kernel
theorem dX5_init_28 : decode cX5_init 28 = .ok (.putfield 16, 3) := by decide +kernel
theorem dX5_init_31 : decode cX5_init 31 = .ok (.aload_n 0, 1) := by decide +kernel
theorem dX5_init_32 : decode cX5_init 32 = .ok (.sipush 1292, 3) := by decide +kernel
theorem dX5_init_35 : decode cX5_init 35 = .ok (.newarray .int, 2) := by decide +kernel
theorem dX5_init_37 : decode cX5_init 37 = .ok (.putfield 19, 3) := by decide +kernel
theorem dX5_init_40 : decode cX5_init 40 = .ok (.aload_n 0, 1) := by decide +kernel
theorem dX5_init_41 : decode cX5_init 41 = .ok (.iconst 2, 1) := by decide +kernel
theorem dX5_init_42 : decode cX5_init 42 = .ok (.newarray .boolean, 2) := by decide +kernel
theorem dX5_init_44 : decode cX5_init 44 = .ok (.putfield 22, 3) := by decide +kernel
theorem dX5_init_47 : decode cX5_init 47 = .ok (.aload_n 0, 1) := by decide +kernel
theorem dX5_init_48 : decode cX5_init 48 = .ok (.bipush 60, 2) := by decide +kernel
theorem dX5_init_50 : decode cX5_init 50 = .ok (.newarray .int, 2) := by decide +kernel
theorem dX5_init_52 : decode cX5_init 52 = .ok (.putfield 26, 3) := by decide +kernel
theorem dX5_init_55 : decode cX5_init 55 = .ok (.aload_n 0, 1) := by decide +kernel
theorem dX5_init_56 : decode cX5_init 56 = .ok (.bipush 120, 2) := by decide +kernel
theorem dX5_init_58 : decode cX5_init 58 = .ok (.newarray .int, 2) := by decide +kernel
theorem dX5_init_60 : decode cX5_init 60 = .ok (.putfield 29, 3) := by decide +kernel
theorem dX5_init_63 : decode cX5_init 63 = .ok (.aload_n 0, 1) := by decide +kernel
theorem dX5_init_64 : decode cX5_init 64 = .ok (.bipush 120, 2) := by decide +kernel
theorem dX5_init_66 : decode cX5_init 66 = .ok (.newarray .int, 2) := by decide +kernel
theorem dX5_init_68 : decode cX5_init 68 = .ok (.putfield 32, 3) := by decide +kernel
theorem dX5_init_71 : decode cX5_init 71 = .ok (.aload_n 0, 1) := by decide +kernel
theorem dX5_init_72 : decode cX5_init 72 = .ok (.bipush 122, 2) := by decide +kernel
theorem dX5_init_74 : decode cX5_init 74 = .ok (.newarray .int, 2) := by decide +kernel
theorem dX5_init_76 : decode cX5_init 76 = .ok (.putfield 35, 3) := by decide +kernel
theorem dX5_init_79 : decode cX5_init 79 = .ok (.aload_n 0, 1) := by decide +kernel
theorem dX5_init_80 : decode cX5_init 80 = .ok (.bipush 122, 2) := by decide +kernel
theorem dX5_init_82 : decode cX5_init 82 = .ok (.newarray .int, 2) := by decide +kernel
theorem dX5_init_84 : decode cX5_init 84 = .ok (.putfield 38, 3) := by decide +kernel
theorem dX5_init_87 : decode cX5_init 87 = .ok (.aload_n 0, 1) := by decide +kernel
theorem dX5_init_88 : decode cX5_init 88 = .ok (.bipush 31, 2) := by decide +kernel
theorem dX5_init_90 : decode cX5_init 90 = .ok (.newarray .int, 2) := by decide +kernel
theorem dX5_init_92 : decode cX5_init 92 = .ok (.putfield 41, 3) := by decide +kernel
theorem dX5_init_95 : decode cX5_init 95 = .ok (.aload_n 0, 1) := by decide +kernel
theorem dX5_init_96 : decode cX5_init 96 = .ok (.bipush 31, 2) := by decide +kernel
theorem dX5_init_98 : decode cX5_init 98 = .ok (.newarray .int, 2) := by decide +kernel
theorem dX5_init_100 : decode cX5_init 100 = .ok (.putfield 44, 3) := by decide +kernel
theorem dX5_init_103 : decode cX5_init 103 = .ok (.aload_n 0, 1) := by decide +kernel
theorem dX5_init_104 : decode cX5_init 104 = .ok (.getfield 7, 3) := by decide +kernel
theorem dX5_init_107 : decode cX5_init 107 = .ok (.sipush 636, 3) := by decide +kernel
theorem dX5_init_110 : decode cX5_init 110 = .ok (.bipush 50, 2) := by decide +kernel
theorem dX5_init_112 : decode cX5_init 112 = .ok (.iastore, 1) := by decide +kernel
theorem dX5_init_113 : decode cX5_init 113 = .ok (.aload_n 0, 1) := by decide +kernel
theorem dX5_init_114 : decode cX5_init 114 = .ok (.getfield 7, 3) := by decide +kernel
theorem dX5_init_117 : decode cX5_init 117 = .ok (.sipush 637, 3) := by decide +kernel
theorem dX5_init_120 : decode cX5_init 120 = .ok (.bipush 10, 2) := by decide +kernel
theorem dX5_init_122 : decode cX5_init 122 = .ok (.iastore, 1) := by decide +kernel
theorem dX5_init_123 : decode cX5_init 123 = .ok (.aload_n 0, 1) := by decide +kernel
theorem dX5_init_124 : decode cX5_init 124 = .ok (.getfield 7, 3) := by decide +kernel
theorem dX5_init_127 : decode cX5_init 127 = .ok (.sipush 638, 3) := by decide +kernel
theorem dX5_init_130 : decode cX5_init 130 = .ok (.iconst 2, 1) := by decide +kernel
theorem dX5_init_131 : decode cX5_init 131 = .ok (.iastore, 1) := by decide +kernel
theorem dX5_init_132 : decode cX5_init 132 = .ok (.return_, 1) := by decide +kernel
theorem dX5_thrown_0 : decode cX5_thrown 0 = .ok (.aload_n 0, 1) := by decide +kernel
theorem dX5_thrown_1 : decode cX5_thrown 1 = .ok (.getfield 47, 3) := by decide +kernel
theorem dX5_thrown_4 : decode cX5_thrown 4 = .ok (.ireturn, 1) := by decide +kernel
theorem dX5_refused_0 : decode cX5_refused 0 = .ok (.aload_n 0, 1) := by decide +kernel
theorem dX5_refused_1 : decode cX5_refused 1 = .ok (.iload_n 1, 1) := by decide +kernel
theorem dX5_refused_2 : decode cX5_refused 2 = .ok (.putfield 47, 3) := by decide +kernel
theorem dX5_refused_5 : decode cX5_refused 5 = .ok (.iload_n 1, 1) := by decide +kernel
theorem dX5_refused_6 : decode cX5_refused 6 = .ok (.ifCond .le 7, 3) := by decide +kernel
theorem dX5_refused_9 : decode cX5_refused 9 = .ok (.iconst 1, 1) := by decide +kernel
theorem dX5_refused_10 : decode cX5_refused 10 = .ok (.goto 4, 3) := by decide +kernel
theorem dX5_refused_13 : decode cX5_refused 13 = .ok (.iconst 0, 1) := by decide +kernel
theorem dX5_refused_14 : decode cX5_refused 14 = .ok (.ireturn, 1) := by decide +kernel
theorem dX5_in_0 : decode cX5_in 0 = .ok (.iload_n 0, 1) := by decide +kernel
theorem dX5_in_1 : decode cX5_in 1 = .ok (.iload_n 1, 1) := by decide +kernel
theorem dX5_in_2 : decode cX5_in 2 = .ok (.if_icmp .lt 12, 3) := by decide +kernel
theorem dX5_in_5 : decode cX5_in 5 = .ok (.iload_n 0, 1) := by decide +kernel
theorem dX5_in_6 : decode cX5_in 6 = .ok (.iload_n 2, 1) := by decide +kernel
theorem dX5_in_7 : decode cX5_in 7 = .ok (.if_icmp .gt 7, 3) := by decide +kernel
theorem dX5_in_10 : decode cX5_in 10 = .ok (.iconst 1, 1) := by decide +kernel
theorem dX5_in_11 : decode cX5_in 11 = .ok (.goto 4, 3) := by decide +kernel
theorem dX5_in_14 : decode cX5_in 14 = .ok (.iconst 0, 1) := by decide +kernel
theorem dX5_in_15 : decode cX5_in 15 = .ok (.ireturn, 1) := by decide +kernel
set_option maxRecDepth 20000 in
theorem ggX5_isKey_X5_in : GoodIn wsX5_isKey wsX5_in := goodIn_r _ [4] (by decide +kernel) (by decide +kernel)
set_option maxRecDepth 20000 in
theorem gX5_isKey_X5_in : GoodIn wsX5_isKey (va_wsS RX5 51 yX5_in wsX5_in) := goodIn_app (goodIn_of _ (by decide +kernel)) ggX5_isKey_X5_in
theorem dX5_isKey_0 : decode cX5_isKey 0 = .ok (.iload_n 0, 1) := by decide +kernel
theorem dX5_isKey_1 : decode cX5_isKey 1 = .ok (.iconst 0, 1) := by decide +kernel
theorem dX5_isKey_2 : decode cX5_isKey 2 = .ok (.sipush 499, 3) := by decide +kernel
theorem dX5_isKey_5 : decode cX5_isKey 5 = .ok (.invokestatic 51, 3) := by decide +kernel
theorem dX5_isKey_8 : decode cX5_isKey 8 = .ok (.ireturn, 1) := by decide +kernel
theorem dX5_copyState_0 : decode cX5_copyState 0 = .ok (.iconst 0, 1) := by decide +kernel
theorem dX5_copyState_1 : decode cX5_copyState 1 = .ok (.istore 4, 2) := by decide +kernel
theorem dX5_copyState_3 : decode cX5_copyState 3 = .ok (.iload 4, 2) := by decide +kernel
theorem dX5_copyState_5 : decode cX5_copyState 5 = .ok (.sipush 646, 3) := by decide +kernel
theorem dX5_copyState_8 : decode cX5_copyState 8 = .ok (.if_icmp .ge 21, 3) := by decide +kernel
theorem dX5_copyState_11 : decode cX5_copyState 11 = .ok (.aload_n 2, 1) := by decide +kernel
theorem dX5_copyState_12 : decode cX5_copyState 12 = .ok (.iload_n 3, 1) := by decide +kernel
theorem dX5_copyState_13 : decode cX5_copyState 13 = .ok (.iload 4, 2) := by decide +kernel
theorem dX5_copyState_15 : decode cX5_copyState 15 = .ok (.iadd, 1) := by decide +kernel
theorem dX5_copyState_16 : decode cX5_copyState 16 = .ok (.aload_n 0, 1) := by decide +kernel
theorem dX5_copyState_17 : decode cX5_copyState 17 = .ok (.iload_n 1, 1) := by decide +kernel
theorem dX5_copyState_18 : decode cX5_copyState 18 = .ok (.iload 4, 2) := by decide +kernel
theorem dX5_copyState_20 : decode cX5_copyState 20 = .ok (.iadd, 1) := by decide +kernel
theorem dX5_copyState_21 : decode cX5_copyState 21 = .ok (.iaload, 1) := by decide +kernel
theorem dX5_copyState_22 : decode cX5_copyState 22 = .ok (.iastore, 1) := by decide +kernel
theorem dX5_copyState_23 : decode cX5_copyState 23 = .ok (.iinc 4 1, 3) := by decide +kernel
theorem dX5_copyState_26 : decode cX5_copyState 26 = .ok (.goto (-23), 3) := by decide +kernel
theorem dX5_copyState_29 : decode cX5_copyState 29 = .ok (.return_, 1) := by decide +kernel
set_option maxRecDepth 20000 in
theorem ggX5_saveState_X5_copyState : GoodIn wsX5_saveState wsX5_copyState := goodIn_r _ [7] (by decide +kernel) (by decide +kernel)
set_option maxRecDepth 20000 in
theorem gX5_saveState_X5_copyState : GoodIn wsX5_saveState (va_wsS RX5 58 yX5_copyState wsX5_copyState) := goodIn_app (goodIn_of _ (by decide +kernel)) ggX5_saveState_X5_copyState
theorem dX5_saveState_0 : decode cX5_saveState 0 = .ok (.aload_n 0, 1) := by decide +kernel
theorem dX5_saveState_1 : decode cX5_saveState 1 = .ok (.getfield 55, 3) := by decide +kernel
theorem dX5_saveState_4 : decode cX5_saveState 4 = .ok (.bipush 6, 2) := by decide +kernel
theorem dX5_saveState_6 : decode cX5_saveState 6 = .ok (.if_icmp .ne 44, 3) := by decide +kernel
theorem dX5_saveState_9 : decode cX5_saveState 9 = .ok (.iconst 0, 1) := by decide +kernel
theorem dX5_saveState_10 : decode cX5_saveState 10 = .ok (.istore_n 1, 1) := by decide +kernel
theorem dX5_saveState_11 : decode cX5_saveState 11 = .ok (.iload_n 1, 1) := by decide +kernel
theorem dX5_saveState_12 : decode cX5_saveState 12 = .ok (.sipush 3230, 3) := by decide +kernel
theorem dX5_saveState_15 : decode cX5_saveState 15 = .ok (.if_icmp .ge 25, 3) := by decide +kernel
theorem dX5_saveState_18 : decode cX5_saveState 18 = .ok (.aload_n 0, 1) := by decide +kernel
theorem dX5_saveState_19 : decode cX5_saveState 19 = .ok (.getfield 16, 3) := by decide +kernel
theorem dX5_saveState_22 : decode cX5_saveState 22 = .ok (.iload_n 1, 1) := by decide +kernel
theorem dX5_saveState_23 : decode cX5_saveState 23 = .ok (.aload_n 0, 1) := by decide +kernel
theorem dX5_saveState_24 : decode cX5_saveState 24 = .ok (.getfield 16, 3) := by decide +kernel
theorem dX5_saveState_27 : decode cX5_saveState 27 = .ok (.iload_n 1, 1) := by decide +kernel
theorem dX5_saveState_28 : decode cX5_saveState 28 = .ok (.sipush 646, 3) := by decide +kernel
theorem dX5_saveState_31 : decode cX5_saveState 31 = .ok (.iadd, 1) := by decide +kernel
theorem dX5_saveState_32 : decode cX5_saveState 32 = .ok (.iaload, 1) := by decide +kernel
theorem dX5_saveState_33 : decode cX5_saveState 33 = .ok (.iastore, 1) := by decide +kernel
theorem dX5_saveState_34 : decode cX5_saveState 34 = .ok (.iinc 1 1, 3) := by decide +kernel
theorem dX5_saveState_37 : decode cX5_saveState 37 = .ok (.goto (-26), 3) := by decide +kernel
theorem dX5_saveState_40 : decode cX5_saveState 40 = .ok (.aload_n 0, 1) := by decide +kernel
theorem dX5_saveState_41 : decode cX5_saveState 41 = .ok (.dup, 1) := by decide +kernel
theorem dX5_saveState_42 : decode cX5_saveState 42 = .ok (.getfield 55, 3) := by decide +kernel
theorem dX5_saveState_45 : decode cX5_saveState 45 = .ok (.iconst 1, 1) := by decide +kernel
theorem dX5_saveState_46 : decode cX5_saveState 46 = .ok (.isub, 1) := by decide +kernel
theorem dX5_saveState_47 : decode cX5_saveState 47 = .ok (.putfield 55, 3) := by decide +kernel
theorem dX5_saveState_50 : decode cX5_saveState 50 = .ok (.aload_n 0, 1) := by decide +kernel
theorem dX5_saveState_51 : decode cX5_saveState 51 = .ok (.getfield 7, 3) := by decide +kernel
theorem dX5_saveState_54 : decode cX5_saveState 54 = .ok (.iconst 0, 1) := by decide +kernel
theorem dX5_saveState_55 : decode cX5_saveState 55 = .ok (.aload_n 0, 1) := by decide +kernel
theorem dX5_saveState_56 : decode cX5_saveState 56 = .ok (.getfield 16, 3) := by decide +kernel
theorem dX5_saveState_59 : decode cX5_saveState 59 = .ok (.sipush 646, 3) := by decide +kernel
theorem dX5_saveState_62 : decode cX5_saveState 62 = .ok (.aload_n 0, 1) := by decide +kernel
theorem dX5_saveState_63 : decode cX5_saveState 63 = .ok (.getfield 55, 3) := by decide +kernel
theorem dX5_saveState_66 : decode cX5_saveState 66 = .ok (.imul, 1) := by decide +kernel
theorem dX5_saveState_67 : decode cX5_saveState 67 = .ok (.invokestatic 58, 3) := by decide +kernel
theorem dX5_saveState_70 : decode cX5_saveState 70 = .ok (.aload_n 0, 1) := by decide +kernel
theorem dX5_saveState_71 : decode cX5_saveState 71 = .ok (.dup, 1) := by decide +kernel
theorem dX5_saveState_72 : decode cX5_saveState 72 = .ok (.getfield 55, 3) := by decide +kernel
theorem dX5_saveState_75 : decode cX5_saveState 75 = .ok (.iconst 1, 1) := by decide +kernel
theorem dX5_saveState_76 : decode cX5_saveState 76 = .ok (.iadd, 1) := by decide +kernel
theorem dX5_saveState_77 : decode cX5_saveState 77 = .ok (.putfield 55, 3) := by decide +kernel
theorem dX5_saveState_80 : decode cX5_saveState 80 = .ok (.return_, 1) := by decide +kernel
theorem dX5_placeOf_0 : decode cX5_placeOf 0 = .ok (.iconst (-1), 1) := by decide +kernel
theorem dX5_placeOf_1 : decode cX5_placeOf 1 = .ok (.istore_n 3, 1) := by decide +kernel
theorem dX5_placeOf_2 : decode cX5_placeOf 2 = .ok (.iconst 0, 1) := by decide +kernel
theorem dX5_placeOf_3 : decode cX5_placeOf 3 = .ok (.istore 4, 2) := by decide +kernel
theorem dX5_placeOf_5 : decode cX5_placeOf 5 = .ok (.iload 4, 2) := by decide +kernel
theorem dX5_placeOf_7 : decode cX5_placeOf 7 = .ok (.aload_n 0, 1) := by decide +kernel
theorem dX5_placeOf_8 : decode cX5_placeOf 8 = .ok (.getfield 7, 3) := by decide +kernel
theorem dX5_placeOf_11 : decode cX5_placeOf 11 = .ok (.iload_n 1, 1) := by decide +kernel
theorem dX5_placeOf_12 : decode cX5_placeOf 12 = .ok (.iaload, 1) := by decide +kernel
theorem dX5_placeOf_13 : decode cX5_placeOf 13 = .ok (.if_icmp .ge 31, 3) := by decide +kernel
theorem dX5_placeOf_16 : decode cX5_placeOf 16 = .ok (.aload_n 0, 1) := by decide +kernel
theorem dX5_placeOf_17 : decode cX5_placeOf 17 = .ok (.getfield 7, 3) := by decide +kernel
theorem dX5_placeOf_20 : decode cX5_placeOf 20 = .ok (.iload_n 1, 1) := by decide +kernel
theorem dX5_placeOf_21 : decode cX5_placeOf 21 = .ok (.iconst 1, 1) := by decide +kernel
theorem dX5_placeOf_22 : decode cX5_placeOf 22 = .ok (.iadd, 1) := by decide +kernel
theorem dX5_placeOf_23 : decode cX5_placeOf 23 = .ok (.iload 4, 2) := by decide +kernel
theorem dX5_placeOf_25 : decode cX5_placeOf 25 = .ok (.iadd, 1) := by decide +kernel
theorem dX5_placeOf_26 : decode cX5_placeOf 26 = .ok (.iaload, 1) := by decide +kernel
theorem dX5_placeOf_27 : decode cX5_placeOf 27 = .ok (.iload_n 2, 1) := by decide +kernel
theorem dX5_placeOf_28 : decode cX5_placeOf 28 = .ok (.if_icmp .ne 8, 3) := by decide +kernel
theorem dX5_placeOf_31 : decode cX5_placeOf 31 = .ok (.iload 4, 2) := by decide +kernel
theorem dX5_placeOf_33 : decode cX5_placeOf 33 = .ok (.goto 4, 3) := by decide +kernel
theorem dX5_placeOf_36 : decode cX5_placeOf 36 = .ok (.iload_n 3, 1) := by decide +kernel
theorem dX5_placeOf_37 : decode cX5_placeOf 37 = .ok (.istore_n 3, 1) := by decide +kernel
theorem dX5_placeOf_38 : decode cX5_placeOf 38 = .ok (.iinc 4 1, 3) := by decide +kernel
theorem dX5_placeOf_41 : decode cX5_placeOf 41 = .ok (.goto (-36), 3) := by decide +kernel
theorem dX5_placeOf_44 : decode cX5_placeOf 44 = .ok (.iload_n 3, 1) := by decide +kernel
theorem dX5_placeOf_45 : decode cX5_placeOf 45 = .ok (.ireturn, 1) := by decide +kernel
set_option maxRecDepth 20000 in
theorem ggX5_isPresent_X5_placeOf : GoodIn wsX5_isPresent wsX5_placeOf := goodIn_r _ [6, 1, 7, 8, 9, 10, 11, 12, 13, 14, 15, 16, 17, 18, 19, 20, 21, 22, 23, 24, 25, 26, 27] (by decide +kernel) (by decide +kernel)
set_option maxRecDepth 20000 in
theorem gX5_isPresent_X5_placeOf : GoodIn wsX5_isPresent (wsV RX5 62 RX5 yX5_placeOf wsX5_placeOf) := goodIn_app (goodIn_of _ (by decide +kernel)) ggX5_isPresent_X5_placeOf
theorem dX5_isPresent_0 : decode cX5_isPresent 0 = .ok (.aload_n 0, 1) := by decide +kernel
theorem dX5_isPresent_1 : decode cX5_isPresent 1 = .ok (.iload_n 1, 1) := by decide +kernel
theorem dX5_isPresent_2 : decode cX5_isPresent 2 = .ok (.iload_n 2, 1) := by decide +kernel
theorem dX5_isPresent_3 : decode cX5_isPresent 3 = .ok (.invokevirtual 62, 3) := by decide +kernel
theorem dX5_isPresent_6 : decode cX5_isPresent 6 = .ok (.istore_n 3, 1) := by decide +kernel
theorem dX5_isPresent_7 : decode cX5_isPresent 7 = .ok (.iload_n 3, 1) := by decide +kernel
theorem dX5_isPresent_8 : decode cX5_isPresent 8 = .ok (.iconst (-1), 1) := by decide +kernel
theorem dX5_isPresent_9 : decode cX5_isPresent 9 = .ok (.if_icmp .eq 21, 3) := by decide +kernel
theorem dX5_isPresent_12 : decode cX5_isPresent 12 = .ok (.aload_n 0, 1) := by decide +kernel
theorem dX5_isPresent_13 : decode cX5_isPresent 13 = .ok (.getfield 7, 3) := by decide +kernel
theorem dX5_isPresent_16 : decode cX5_isPresent 16 = .ok (.iload_n 1, 1) := by decide +kernel
theorem dX5_isPresent_17 : decode cX5_isPresent 17 = .ok (.bipush 121, 2) := by decide +kernel
theorem dX5_isPresent_19 : decode cX5_isPresent 19 = .ok (.iadd, 1) := by decide +kernel
theorem dX5_isPresent_20 : decode cX5_isPresent 20 = .ok (.iload_n 3, 1) := by decide +kernel
theorem dX5_isPresent_21 : decode cX5_isPresent 21 = .ok (.iadd, 1) := by decide +kernel
theorem dX5_isPresent_22 : decode cX5_isPresent 22 = .ok (.iaload, 1) := by decide +kernel
theorem dX5_isPresent_23 : decode cX5_isPresent 23 = .ok (.ifCond .ne 7, 3) := by decide +kernel
theorem dX5_isPresent_26 : decode cX5_isPresent 26 = .ok (.iconst 1, 1) := by decide +kernel
theorem dX5_isPresent_27 : decode cX5_isPresent 27 = .ok (.goto 4, 3) := by decide +kernel
theorem dX5_isPresent_30 : decode cX5_isPresent 30 = .ok (.iconst 0, 1) := by decide +kernel
theorem dX5_isPresent_31 : decode cX5_isPresent 31 = .ok (.ireturn, 1) := by decide +kernel
theorem dX5_seek_0 : decode cX5_seek 0 = .ok (.aload_n 0, 1) := by decide +kernel
theorem dX5_seek_1 : decode cX5_seek 1 = .ok (.iconst 0, 1) := by decide +kernel
theorem dX5_seek_2 : decode cX5_seek 2 = .ok (.putfield 66, 3) := by decide +kernel
theorem dX5_seek_5 : decode cX5_seek 5 = .ok (.aload_n 0, 1) := by decide +kernel
theorem dX5_seek_6 : decode cX5_seek 6 = .ok (.iconst (-1), 1) := by decide +kernel
theorem dX5_seek_7 : decode cX5_seek 7 = .ok (.putfield 69, 3) := by decide +kernel
theorem dX5_seek_10 : decode cX5_seek 10 = .ok (.aload_n 0, 1) := by decide +kernel
theorem dX5_seek_11 : decode cX5_seek 11 = .ok (.sipush 500, 3) := by decide +kernel
theorem dX5_seek_14 : decode cX5_seek 14 = .ok (.putfield 72, 3) := by decide +kernel
theorem dX5_seek_17 : decode cX5_seek 17 = .ok (.iconst 0, 1) := by decide +kernel
theorem dX5_seek_18 : decode cX5_seek 18 = .ok (.istore_n 3, 1) := by decide +kernel
theorem dX5_seek_19 : decode cX5_seek 19 = .ok (.iconst 0, 1) := by decide +kernel
theorem dX5_seek_20 : decode cX5_seek 20 = .ok (.istore 4, 2) := by decide +kernel
theorem dX5_seek_22 : decode cX5_seek 22 = .ok (.iload 4, 2) := by decide +kernel
theorem dX5_seek_24 : decode cX5_seek 24 = .ok (.aload_n 0, 1) := by decide +kernel
theorem dX5_seek_25 : decode cX5_seek 25 = .ok (.getfield 7, 3) := by decide +kernel
theorem dX5_seek_28 : decode cX5_seek 28 = .ok (.iload_n 1, 1) := by decide +kernel
theorem dX5_seek_29 : decode cX5_seek 29 = .ok (.iaload, 1) := by decide +kernel
theorem dX5_seek_30 : decode cX5_seek 30 = .ok (.if_icmp .ge 115, 3) := by decide +kernel
theorem dX5_seek_33 : decode cX5_seek 33 = .ok (.iload_n 3, 1) := by decide +kernel
theorem dX5_seek_34 : decode cX5_seek 34 = .ok (.ifCond .ne 111, 3) := by decide +kernel
theorem dX5_seek_37 : decode cX5_seek 37 = .ok (.aload_n 0, 1) := by decide +kernel
theorem dX5_seek_38 : decode cX5_seek 38 = .ok (.getfield 7, 3) := by decide +kernel
theorem dX5_seek_41 : decode cX5_seek 41 = .ok (.iload_n 1, 1) := by decide +kernel
theorem dX5_seek_42 : decode cX5_seek 42 = .ok (.iconst 1, 1) := by decide +kernel
theorem dX5_seek_43 : decode cX5_seek 43 = .ok (.iadd, 1) := by decide +kernel
theorem dX5_seek_44 : decode cX5_seek 44 = .ok (.iload 4, 2) := by decide +kernel
theorem dX5_seek_46 : decode cX5_seek 46 = .ok (.iadd, 1) := by decide +kernel
theorem dX5_seek_47 : decode cX5_seek 47 = .ok (.iaload, 1) := by decide +kernel
theorem dX5_seek_48 : decode cX5_seek 48 = .ok (.istore 5, 2) := by decide +kernel
theorem dX5_seek_50 : decode cX5_seek 50 = .ok (.iload 5, 2) := by decide +kernel
theorem dX5_seek_52 : decode cX5_seek 52 = .ok (.aload_n 0, 1) := by decide +kernel
theorem dX5_seek_53 : decode cX5_seek 53 = .ok (.getfield 69, 3) := by decide +kernel
theorem dX5_seek_56 : decode cX5_seek 56 = .ok (.if_icmp .le 83, 3) := by decide +kernel
theorem dX5_seek_59 : decode cX5_seek 59 = .ok (.iload 5, 2) := by decide +kernel
theorem dX5_seek_61 : decode cX5_seek 61 = .ok (.aload_n 0, 1) := by decide +kernel
theorem dX5_seek_62 : decode cX5_seek 62 = .ok (.getfield 72, 3) := by decide +kernel
theorem dX5_seek_65 : decode cX5_seek 65 = .ok (.if_icmp .ge 74, 3) := by decide +kernel
theorem dX5_seek_68 : decode cX5_seek 68 = .ok (.aload_n 0, 1) := by decide +kernel
theorem dX5_seek_69 : decode cX5_seek 69 = .ok (.getfield 29, 3) := by decide +kernel
theorem dX5_seek_72 : decode cX5_seek 72 = .ok (.aload_n 0, 1) := by decide +kernel
theorem dX5_seek_73 : decode cX5_seek 73 = .ok (.getfield 66, 3) := by decide +kernel
theorem dX5_seek_76 : decode cX5_seek 76 = .ok (.iload 5, 2) := by decide +kernel
theorem dX5_seek_78 : decode cX5_seek 78 = .ok (.iastore, 1) := by decide +kernel
theorem dX5_seek_79 : decode cX5_seek 79 = .ok (.aload_n 0, 1) := by decide +kernel
theorem dX5_seek_80 : decode cX5_seek 80 = .ok (.dup, 1) := by decide +kernel
theorem dX5_seek_81 : decode cX5_seek 81 = .ok (.getfield 66, 3) := by decide +kernel
theorem dX5_seek_84 : decode cX5_seek 84 = .ok (.iconst 1, 1) := by decide +kernel
theorem dX5_seek_85 : decode cX5_seek 85 = .ok (.iadd, 1) := by decide +kernel
theorem dX5_seek_86 : decode cX5_seek 86 = .ok (.putfield 66, 3) := by decide +kernel
theorem dX5_seek_89 : decode cX5_seek 89 = .ok (.iload 5, 2) := by decide +kernel
theorem dX5_seek_91 : decode cX5_seek 91 = .ok (.iload_n 2, 1) := by decide +kernel
theorem dX5_seek_92 : decode cX5_seek 92 = .ok (.if_icmp .ne 7, 3) := by decide +kernel
theorem dX5_seek_95 : decode cX5_seek 95 = .ok (.iconst 1, 1) := by decide +kernel
theorem dX5_seek_96 : decode cX5_seek 96 = .ok (.goto 4, 3) := by decide +kernel
theorem dX5_seek_99 : decode cX5_seek 99 = .ok (.iconst 0, 1) := by decide +kernel
theorem dX5_seek_100 : decode cX5_seek 100 = .ok (.istore_n 3, 1) := by decide +kernel
theorem dX5_seek_101 : decode cX5_seek 101 = .ok (.aload_n 0, 1) := by decide +kernel
theorem dX5_seek_102 : decode cX5_seek 102 = .ok (.iload_n 2, 1) := by decide +kernel
theorem dX5_seek_103 : decode cX5_seek 103 = .ok (.iload 5, 2) := by decide +kernel
theorem dX5_seek_105 : decode cX5_seek 105 = .ok (.if_icmp .ge 8, 3) := by decide +kernel
theorem dX5_seek_108 : decode cX5_seek 108 = .ok (.iload 5, 2) := by decide +kernel
theorem dX5_seek_110 : decode cX5_seek 110 = .ok (.goto 7, 3) := by decide +kernel
theorem dX5_seek_113 : decode cX5_seek 113 = .ok (.aload_n 0, 1) := by decide +kernel
theorem dX5_seek_114 : decode cX5_seek 114 = .ok (.getfield 72, 3) := by decide +kernel
theorem dX5_seek_117 : decode cX5_seek 117 = .ok (.putfield 72, 3) := by decide +kernel
theorem dX5_seek_120 : decode cX5_seek 120 = .ok (.aload_n 0, 1) := by decide +kernel
theorem dX5_seek_121 : decode cX5_seek 121 = .ok (.iload_n 2, 1) := by decide +kernel
theorem dX5_seek_122 : decode cX5_seek 122 = .ok (.iload 5, 2) := by decide +kernel
theorem dX5_seek_124 : decode cX5_seek 124 = .ok (.if_icmp .le 8, 3) := by decide +kernel
theorem dX5_seek_127 : decode cX5_seek 127 = .ok (.iload 5, 2) := by decide +kernel
theorem dX5_seek_129 : decode cX5_seek 129 = .ok (.goto 7, 3) := by decide +kernel
theorem dX5_seek_132 : decode cX5_seek 132 = .ok (.aload_n 0, 1) := by decide +kernel
theorem dX5_seek_133 : decode cX5_seek 133 = .ok (.getfield 69, 3) := by decide +kernel
theorem dX5_seek_136 : decode cX5_seek 136 = .ok (.putfield 69, 3) := by decide +kernel
theorem dX5_seek_139 : decode cX5_seek 139 = .ok (.iinc 4 1, 3) := by decide +kernel
theorem dX5_seek_142 : decode cX5_seek 142 = .ok (.goto (-120), 3) := by decide +kernel
theorem dX5_seek_145 : decode cX5_seek 145 = .ok (.return_, 1) := by decide +kernel
set_option maxRecDepth 20000 in
theorem ggX5_put_X5_placeOf : GoodIn wsX5_put wsX5_placeOf := goodIn_r _ [6, 1, 7, 8, 9, 10, 11, 12, 13, 14, 15, 16, 17, 18, 19, 20, 21, 22, 23, 24, 25, 26, 27] (by decide +kernel) (by decide +kernel)
set_option maxRecDepth 20000 in
theorem gX5_put_X5_placeOf : GoodIn wsX5_put (wsV RX5 62 RX5 yX5_placeOf wsX5_placeOf) := goodIn_app (goodIn_of _ (by decide +kernel)) ggX5_put_X5_placeOf
theorem dX5_put_0 : decode cX5_put 0 = .ok (.aload_n 0, 1) := by decide +kernel
theorem dX5_put_1 : decode cX5_put 1 = .ok (.iload_n 1, 1) := by decide +kernel
theorem dX5_put_2 : decode cX5_put 2 = .ok (.iload_n 2, 1) := by decide +kernel
theorem dX5_put_3 : decode cX5_put 3 = .ok (.invokevirtual 62, 3) := by decide +kernel
theorem dX5_put_6 : decode cX5_put 6 = .ok (.istore_n 3, 1) := by decide +kernel
theorem dX5_put_7 : decode cX5_put 7 = .ok (.iload_n 3, 1) := by decide +kernel
theorem dX5_put_8 : decode cX5_put 8 = .ok (.iconst (-1), 1) := by decide +kernel
theorem dX5_put_9 : decode cX5_put 9 = .ok (.if_icmp .ne 31, 3) := by decide +kernel
theorem dX5_put_12 : decode cX5_put 12 = .ok (.aload_n 0, 1) := by decide +kernel
theorem dX5_put_13 : decode cX5_put 13 = .ok (.getfield 7, 3) := by decide +kernel
theorem dX5_put_16 : decode cX5_put 16 = .ok (.iload_n 1, 1) := by decide +kernel
theorem dX5_put_17 : decode cX5_put 17 = .ok (.iaload, 1) := by decide +kernel
theorem dX5_put_18 : decode cX5_put 18 = .ok (.istore_n 3, 1) := by decide +kernel
theorem dX5_put_19 : decode cX5_put 19 = .ok (.aload_n 0, 1) := by decide +kernel
theorem dX5_put_20 : decode cX5_put 20 = .ok (.getfield 7, 3) := by decide +kernel
theorem dX5_put_23 : decode cX5_put 23 = .ok (.iload_n 1, 1) := by decide +kernel
theorem dX5_put_24 : decode cX5_put 24 = .ok (.iconst 1, 1) := by decide +kernel
theorem dX5_put_25 : decode cX5_put 25 = .ok (.iadd, 1) := by decide +kernel
theorem dX5_put_26 : decode cX5_put 26 = .ok (.iload_n 3, 1) := by decide +kernel
theorem dX5_put_27 : decode cX5_put 27 = .ok (.iadd, 1) := by decide +kernel
theorem dX5_put_28 : decode cX5_put 28 = .ok (.iload_n 2, 1) := by decide +kernel
theorem dX5_put_29 : decode cX5_put 29 = .ok (.iastore, 1) := by decide +kernel
theorem dX5_put_30 : decode cX5_put 30 = .ok (.aload_n 0, 1) := by decide +kernel
theorem dX5_put_31 : decode cX5_put 31 = .ok (.getfield 7, 3) := by decide +kernel
theorem dX5_put_34 : decode cX5_put 34 = .ok (.iload_n 1, 1) := by decide +kernel
theorem dX5_put_35 : decode cX5_put 35 = .ok (.dup2, 1) := by decide +kernel
theorem dX5_put_36 : decode cX5_put 36 = .ok (.iaload, 1) := by decide +kernel
theorem dX5_put_37 : decode cX5_put 37 = .ok (.iconst 1, 1) := by decide +kernel
theorem dX5_put_38 : decode cX5_put 38 = .ok (.iadd, 1) := by decide +kernel
theorem dX5_put_39 : decode cX5_put 39 = .ok (.iastore, 1) := by decide +kernel
theorem dX5_put_40 : decode cX5_put 40 = .ok (.aload_n 0, 1) := by decide +kernel
theorem dX5_put_41 : decode cX5_put 41 = .ok (.getfield 7, 3) := by decide +kernel
theorem dX5_put_44 : decode cX5_put 44 = .ok (.iload_n 1, 1) := by decide +kernel
theorem dX5_put_45 : decode cX5_put 45 = .ok (.bipush 121, 2) := by decide +kernel
theorem dX5_put_47 : decode cX5_put 47 = .ok (.iadd, 1) := by decide +kernel
theorem dX5_put_48 : decode cX5_put 48 = .ok (.iload_n 3, 1) := by decide +kernel
theorem dX5_put_49 : decode cX5_put 49 = .ok (.iadd, 1) := by decide +kernel
theorem dX5_put_50 : decode cX5_put 50 = .ok (.iconst 0, 1) := by decide +kernel
theorem dX5_put_51 : decode cX5_put 51 = .ok (.iastore, 1) := by decide +kernel
theorem dX5_put_52 : decode cX5_put 52 = .ok (.return_, 1) := by decide +kernel
set_option maxRecDepth 20000 in
theorem ggX5_mark_X5_placeOf : GoodIn wsX5_mark wsX5_placeOf := goodIn_r _ [6, 1, 7, 8, 9, 10, 11, 12, 13, 14, 15, 16, 17, 18, 19, 20, 21, 22, 23, 24, 25, 26, 27] (by decide +kernel) (by decide +kernel)
set_option maxRecDepth 20000 in
theorem gX5_mark_X5_placeOf : GoodIn wsX5_mark (wsV RX5 62 RX5 yX5_placeOf wsX5_placeOf) := goodIn_app (goodIn_of _ (by decide +kernel)) ggX5_mark_X5_placeOf
theorem dX5_mark_0 : decode cX5_mark 0 = .ok (.aload_n 0, 1) := by decide +kernel
theorem dX5_mark_1 : decode cX5_mark 1 = .ok (.iload_n 1, 1) := by decide +kernel
theorem dX5_mark_2 : decode cX5_mark 2 = .ok (.iload_n 2, 1) := by decide +kernel
theorem dX5_mark_3 : decode cX5_mark 3 = .ok (.invokevirtual 62, 3) := by decide +kernel
theorem dX5_mark_6 : decode cX5_mark 6 = .ok (.istore_n 3, 1) := by decide +kernel
theorem dX5_mark_7 : decode cX5_mark 7 = .ok (.iload_n 3, 1) := by decide +kernel
theorem dX5_mark_8 : decode cX5_mark 8 = .ok (.iconst (-1), 1) := by decide +kernel
theorem dX5_mark_9 : decode cX5_mark 9 = .ok (.if_icmp .eq 15, 3) := by decide +kernel
theorem dX5_mark_12 : decode cX5_mark 12 = .ok (.aload_n 0, 1) := by decide +kernel
theorem dX5_mark_13 : decode cX5_mark 13 = .ok (.getfield 7, 3) := by decide +kernel
theorem dX5_mark_16 : decode cX5_mark 16 = .ok (.iload_n 1, 1) := by decide +kernel
theorem dX5_mark_17 : decode cX5_mark 17 = .ok (.bipush 121, 2) := by decide +kernel
theorem dX5_mark_19 : decode cX5_mark 19 = .ok (.iadd, 1) := by decide +kernel
theorem dX5_mark_20 : decode cX5_mark 20 = .ok (.iload_n 3, 1) := by decide +kernel
theorem dX5_mark_21 : decode cX5_mark 21 = .ok (.iadd, 1) := by decide +kernel
theorem dX5_mark_22 : decode cX5_mark 22 = .ok (.iconst 1, 1) := by decide +kernel
theorem dX5_mark_23 : decode cX5_mark 23 = .ok (.iastore, 1) := by decide +kernel
theorem dX5_mark_24 : decode cX5_mark 24 = .ok (.return_, 1) := by decide +kernel
theorem dX5_markedIn_0 : decode cX5_markedIn 0 = .ok (.iconst 0, 1) := by decide +kernel
theorem dX5_markedIn_1 : decode cX5_markedIn 1 = .ok (.istore_n 2, 1) := by decide +kernel
theorem dX5_markedIn_2 : decode cX5_markedIn 2 = .ok (.iconst 0, 1) := by decide +kernel
theorem dX5_markedIn_3 : decode cX5_markedIn 3 = .ok (.istore_n 3, 1) := by decide +kernel
theorem dX5_markedIn_4 : decode cX5_markedIn 4 = .ok (.iload_n 3, 1) := by decide +kernel
theorem dX5_markedIn_5 : decode cX5_markedIn 5 = .ok (.aload_n 0, 1) := by decide +kernel
theorem dX5_markedIn_6 : decode cX5_markedIn 6 = .ok (.getfield 7, 3) := by decide +kernel
theorem dX5_markedIn_9 : decode cX5_markedIn 9 = .ok (.iload_n 1, 1) := by decide +kernel
theorem dX5_markedIn_10 : decode cX5_markedIn 10 = .ok (.iaload, 1) := by decide +kernel
theorem dX5_markedIn_11 : decode cX5_markedIn 11 = .ok (.if_icmp .ge 23, 3) := by decide +kernel
theorem dX5_markedIn_14 : decode cX5_markedIn 14 = .ok (.iload_n 2, 1) := by decide +kernel
theorem dX5_markedIn_15 : decode cX5_markedIn 15 = .ok (.aload_n 0, 1) := by decide +kernel
theorem dX5_markedIn_16 : decode cX5_markedIn 16 = .ok (.getfield 7, 3) := by decide +kernel
theorem dX5_markedIn_19 : decode cX5_markedIn 19 = .ok (.iload_n 1, 1) := by decide +kernel
theorem dX5_markedIn_20 : decode cX5_markedIn 20 = .ok (.bipush 121, 2) := by decide +kernel
theorem dX5_markedIn_22 : decode cX5_markedIn 22 = .ok (.iadd, 1) := by decide +kernel
theorem dX5_markedIn_23 : decode cX5_markedIn 23 = .ok (.iload_n 3, 1) := by decide +kernel
theorem dX5_markedIn_24 : decode cX5_markedIn 24 = .ok (.iadd, 1) := by decide +kernel
theorem dX5_markedIn_25 : decode cX5_markedIn 25 = .ok (.iaload, 1) := by decide +kernel
theorem dX5_markedIn_26 : decode cX5_markedIn 26 = .ok (.iadd, 1) := by decide +kernel
theorem dX5_markedIn_27 : decode cX5_markedIn 27 = .ok (.istore_n 2, 1) := by decide +kernel
theorem dX5_markedIn_28 : decode cX5_markedIn 28 = .ok (.iinc 3 1, 3) := by decide +kernel
theorem dX5_markedIn_31 : decode cX5_markedIn 31 = .ok (.goto (-27), 3) := by decide +kernel
theorem dX5_markedIn_34 : decode cX5_markedIn 34 = .ok (.iload_n 2, 1) := by decide +kernel
theorem dX5_markedIn_35 : decode cX5_markedIn 35 = .ok (.ireturn, 1) := by decide +kernel
set_option maxRecDepth 20000 in
theorem ggX5_presentIn_X5_markedIn : GoodIn wsX5_presentIn wsX5_markedIn := goodIn_r _ [6, 1, 7, 8, 9, 10, 11, 12, 13, 14, 15, 16, 17, 18, 19, 20, 21, 22, 23, 24, 25, 26, 27] (by decide +kernel) (by decide +kernel)
set_option maxRecDepth 20000 in
theorem gX5_presentIn_X5_markedIn : GoodIn wsX5_presentIn (wsV RX5 75 RX5 yX5_markedIn wsX5_markedIn) := goodIn_app (goodIn_of _ (by decide +kernel)) ggX5_presentIn_X5_markedIn
theorem dX5_presentIn_0 : decode cX5_presentIn 0 = .ok (.aload_n 0, 1) := by decide +kernel
theorem dX5_presentIn_1 : decode cX5_presentIn 1 = .ok (.getfield 7, 3) := by decide +kernel
theorem dX5_presentIn_4 : decode cX5_presentIn 4 = .ok (.iload_n 1, 1) := by decide +kernel
theorem dX5_presentIn_5 : decode cX5_presentIn 5 = .ok (.iaload, 1) := by decide +kernel
theorem dX5_presentIn_6 : decode cX5_presentIn 6 = .ok (.aload_n 0, 1) := by decide +kernel
theorem dX5_presentIn_7 : decode cX5_presentIn 7 = .ok (.iload_n 1, 1) := by decide +kernel
theorem dX5_presentIn_8 : decode cX5_presentIn 8 = .ok (.invokevirtual 75, 3) := by decide +kernel
theorem dX5_presentIn_11 : decode cX5_presentIn 11 = .ok (.isub, 1) := by decide +kernel
theorem dX5_presentIn_12 : decode cX5_presentIn 12 = .ok (.ireturn, 1) := by decide +kernel
set_option maxRecDepth 20000 in
theorem ggX5_depthOf_X5_seek : GoodIn wsX5_depthOf wsX5_seek := goodIn_r _ [6, 1, 7, 8, 9, 10, 11, 12, 13, 14, 15, 16, 17, 18, 19, 20, 21, 22, 23, 24, 25, 26, 27, 28, 29, 30, 31] (by decide +kernel) (by decide +kernel)
set_option maxRecDepth 20000 in
theorem gX5_depthOf_X5_seek : GoodIn wsX5_depthOf (wsV RX5 79 RX5 yX5_seek wsX5_seek) := goodIn_app (goodIn_of _ (by decide +kernel)) ggX5_depthOf_X5_seek
theorem dX5_depthOf_0 : decode cX5_depthOf 0 = .ok (.aload_n 0, 1) := by decide +kernel
theorem dX5_depthOf_1 : decode cX5_depthOf 1 = .ok (.iload_n 1, 1) := by decide +kernel
theorem dX5_depthOf_2 : decode cX5_depthOf 2 = .ok (.iload_n 2, 1) := by decide +kernel
theorem dX5_depthOf_3 : decode cX5_depthOf 3 = .ok (.invokevirtual 79, 3) := by decide +kernel
theorem dX5_depthOf_6 : decode cX5_depthOf 6 = .ok (.aload_n 0, 1) := by decide +kernel
theorem dX5_depthOf_7 : decode cX5_depthOf 7 = .ok (.getfield 66, 3) := by decide +kernel
theorem dX5_depthOf_10 : decode cX5_depthOf 10 = .ok (.ireturn, 1) := by decide +kernel
set_option maxRecDepth 20000 in
theorem ggX5_depthIn_X5_depthOf : GoodIn wsX5_depthIn wsX5_depthOf := goodIn_r _ [6, 7, 8, 9, 10, 5, 11, 12, 13, 1, 14, 15, 16, 17, 18, 19, 20, 21, 22, 23, 24, 25, 26, 27, 28, 29, 30, 31, 32, 33, 34, 35] (by decide +kernel) (by decide +kernel)
set_option maxRecDepth 20000 in
theorem gX5_depthIn_X5_depthOf : GoodIn wsX5_depthIn (wsV RX5 83 RX5 yX5_depthOf wsX5_depthOf) := goodIn_app (goodIn_of _ (by decide +kernel)) ggX5_depthIn_X5_depthOf
theorem dX5_depthIn_0 : decode cX5_depthIn 0 = .ok (.iconst 0, 1) := by decide +kernel
theorem dX5_depthIn_1 : decode cX5_depthIn 1 = .ok (.istore_n 2, 1) := by decide +kernel
theorem dX5_depthIn_2 : decode cX5_depthIn 2 = .ok (.iconst 0, 1) := by decide +kernel
theorem dX5_depthIn_3 : decode cX5_depthIn 3 = .ok (.istore_n 3, 1) := by decide +kernel
theorem dX5_depthIn_4 : decode cX5_depthIn 4 = .ok (.iload_n 3, 1) := by decide +kernel
theorem dX5_depthIn_5 : decode cX5_depthIn 5 = .ok (.aload_n 0, 1) := by decide +kernel
theorem dX5_depthIn_6 : decode cX5_depthIn 6 = .ok (.getfield 7, 3) := by decide +kernel
theorem dX5_depthIn_9 : decode cX5_depthIn 9 = .ok (.iload_n 1, 1) := by decide +kernel
theorem dX5_depthIn_10 : decode cX5_depthIn 10 = .ok (.iaload, 1) := by decide +kernel
theorem dX5_depthIn_11 : decode cX5_depthIn 11 = .ok (.if_icmp .ge 39, 3) := by decide +kernel
theorem dX5_depthIn_14 : decode cX5_depthIn 14 = .ok (.aload_n 0, 1) := by decide +kernel
theorem dX5_depthIn_15 : decode cX5_depthIn 15 = .ok (.iload_n 1, 1) := by decide +kernel
theorem dX5_depthIn_16 : decode cX5_depthIn 16 = .ok (.aload_n 0, 1) := by decide +kernel
theorem dX5_depthIn_17 : decode cX5_depthIn 17 = .ok (.getfield 7, 3) := by decide +kernel
theorem dX5_depthIn_20 : decode cX5_depthIn 20 = .ok (.iload_n 1, 1) := by decide +kernel
theorem dX5_depthIn_21 : decode cX5_depthIn 21 = .ok (.iconst 1, 1) := by decide +kernel
theorem dX5_depthIn_22 : decode cX5_depthIn 22 = .ok (.iadd, 1) := by decide +kernel
theorem dX5_depthIn_23 : decode cX5_depthIn 23 = .ok (.iload_n 3, 1) := by decide +kernel
theorem dX5_depthIn_24 : decode cX5_depthIn 24 = .ok (.iadd, 1) := by decide +kernel
theorem dX5_depthIn_25 : decode cX5_depthIn 25 = .ok (.iaload, 1) := by decide +kernel
theorem dX5_depthIn_26 : decode cX5_depthIn 26 = .ok (.invokevirtual 83, 3) := by decide +kernel
theorem dX5_depthIn_29 : decode cX5_depthIn 29 = .ok (.istore 4, 2) := by decide +kernel
theorem dX5_depthIn_31 : decode cX5_depthIn 31 = .ok (.iload 4, 2) := by decide +kernel
theorem dX5_depthIn_33 : decode cX5_depthIn 33 = .ok (.iload_n 2, 1) := by decide +kernel
theorem dX5_depthIn_34 : decode cX5_depthIn 34 = .ok (.if_icmp .le 8, 3) := by decide +kernel
theorem dX5_depthIn_37 : decode cX5_depthIn 37 = .ok (.iload 4, 2) := by decide +kernel
theorem dX5_depthIn_39 : decode cX5_depthIn 39 = .ok (.goto 4, 3) := by decide +kernel
theorem dX5_depthIn_42 : decode cX5_depthIn 42 = .ok (.iload_n 2, 1) := by decide +kernel
theorem dX5_depthIn_43 : decode cX5_depthIn 43 = .ok (.istore_n 2, 1) := by decide +kernel
theorem dX5_depthIn_44 : decode cX5_depthIn 44 = .ok (.iinc 3 1, 3) := by decide +kernel
theorem dX5_depthIn_47 : decode cX5_depthIn 47 = .ok (.goto (-43), 3) := by decide +kernel
theorem dX5_depthIn_50 : decode cX5_depthIn 50 = .ok (.iload_n 2, 1) := by decide +kernel
theorem dX5_depthIn_51 : decode cX5_depthIn 51 = .ok (.ireturn, 1) := by decide +kernel
set_option maxRecDepth 20000 in
theorem ggX5_makeList_X5_isPresent : GoodIn wsX5_makeList wsX5_isPresent := goodIn_r _ [9, 4, 10, 11, 12, 8, 13, 14, 15, 16, 17, 18, 19, 20, 21, 22, 23, 24, 25, 26, 27, 28, 29, 30, 31, 32, 33, 34] (by decide +kernel) (by decide +kernel)
set_option maxRecDepth 20000 in
theorem gX5_makeList_X5_isPresent : GoodIn wsX5_makeList (wsV RX5 86 RX5 yX5_isPresent wsX5_isPresent) := goodIn_app (goodIn_of _ (by decide +kernel)) ggX5_makeList_X5_isPresent
theorem dX5_makeList_0 : decode cX5_makeList 0 = .ok (.iconst 0, 1) := by decide +kernel
theorem dX5_makeList_1 : decode cX5_makeList 1 = .ok (.istore_n 1, 1) := by decide +kernel
theorem dX5_makeList_2 : decode cX5_makeList 2 = .ok (.iconst 0, 1) := by decide +kernel
theorem dX5_makeList_3 : decode cX5_makeList 3 = .ok (.istore_n 2, 1) := by decide +kernel
theorem dX5_makeList_4 : decode cX5_makeList 4 = .ok (.iload_n 2, 1) := by decide +kernel
theorem dX5_makeList_5 : decode cX5_makeList 5 = .ok (.sipush 500, 3) := by decide +kernel
theorem dX5_makeList_8 : decode cX5_makeList 8 = .ok (.if_icmp .ge 28, 3) := by decide +kernel
theorem dX5_makeList_11 : decode cX5_makeList 11 = .ok (.aload_n 0, 1) := by decide +kernel
theorem dX5_makeList_12 : decode cX5_makeList 12 = .ok (.iconst 0, 1) := by decide +kernel
theorem dX5_makeList_13 : decode cX5_makeList 13 = .ok (.iload_n 2, 1) := by decide +kernel
theorem dX5_makeList_14 : decode cX5_makeList 14 = .ok (.invokevirtual 86, 3) := by decide +kernel
theorem dX5_makeList_17 : decode cX5_makeList 17 = .ok (.ifCond .eq 13, 3) := by decide +kernel
theorem dX5_makeList_20 : decode cX5_makeList 20 = .ok (.aload_n 0, 1) := by decide +kernel
theorem dX5_makeList_21 : decode cX5_makeList 21 = .ok (.getfield 32, 3) := by decide +kernel
theorem dX5_makeList_24 : decode cX5_makeList 24 = .ok (.iload_n 1, 1) := by decide +kernel
theorem dX5_makeList_25 : decode cX5_makeList 25 = .ok (.iload_n 2, 1) := by decide +kernel
theorem dX5_makeList_26 : decode cX5_makeList 26 = .ok (.iastore, 1) := by decide +kernel
theorem dX5_makeList_27 : decode cX5_makeList 27 = .ok (.iinc 1 1, 3) := by decide +kernel
theorem dX5_makeList_30 : decode cX5_makeList 30 = .ok (.iinc 2 1, 3) := by decide +kernel
theorem dX5_makeList_33 : decode cX5_makeList 33 = .ok (.goto (-29), 3) := by decide +kernel
theorem dX5_makeList_36 : decode cX5_makeList 36 = .ok (.iconst 1, 1) := by decide +kernel
theorem dX5_makeList_37 : decode cX5_makeList 37 = .ok (.istore_n 2, 1) := by decide +kernel
theorem dX5_makeList_38 : decode cX5_makeList 38 = .ok (.aload_n 0, 1) := by decide +kernel
theorem dX5_makeList_39 : decode cX5_makeList 39 = .ok (.getfield 35, 3) := by decide +kernel
theorem dX5_makeList_42 : decode cX5_makeList 42 = .ok (.iconst 0, 1) := by decide +kernel
theorem dX5_makeList_43 : decode cX5_makeList 43 = .ok (.iconst 0, 1) := by decide +kernel
theorem dX5_makeList_44 : decode cX5_makeList 44 = .ok (.iastore, 1) := by decide +kernel
theorem dX5_makeList_45 : decode cX5_makeList 45 = .ok (.aload_n 0, 1) := by decide +kernel
theorem dX5_makeList_46 : decode cX5_makeList 46 = .ok (.getfield 38, 3) := by decide +kernel
theorem dX5_makeList_49 : decode cX5_makeList 49 = .ok (.iconst 0, 1) := by decide +kernel
theorem dX5_makeList_50 : decode cX5_makeList 50 = .ok (.iload_n 1, 1) := by decide +kernel
theorem dX5_makeList_51 : decode cX5_makeList 51 = .ok (.iastore, 1) := by decide +kernel
theorem dX5_makeList_52 : decode cX5_makeList 52 = .ok (.iconst 0, 1) := by decide +kernel
theorem dX5_makeList_53 : decode cX5_makeList 53 = .ok (.istore_n 3, 1) := by decide +kernel
theorem dX5_makeList_54 : decode cX5_makeList 54 = .ok (.iload_n 2, 1) := by decide +kernel
theorem dX5_makeList_55 : decode cX5_makeList 55 = .ok (.ifCond .le 105, 3) := by decide +kernel
theorem dX5_makeList_58 : decode cX5_makeList 58 = .ok (.iinc 2 (-1), 3) := by decide +kernel
theorem dX5_makeList_61 : decode cX5_makeList 61 = .ok (.aload_n 0, 1) := by decide +kernel
theorem dX5_makeList_62 : decode cX5_makeList 62 = .ok (.getfield 35, 3) := by decide +kernel
theorem dX5_makeList_65 : decode cX5_makeList 65 = .ok (.iload_n 2, 1) := by decide +kernel
theorem dX5_makeList_66 : decode cX5_makeList 66 = .ok (.iaload, 1) := by decide +kernel
theorem dX5_makeList_67 : decode cX5_makeList 67 = .ok (.istore 4, 2) := by decide +kernel
theorem dX5_makeList_69 : decode cX5_makeList 69 = .ok (.aload_n 0, 1) := by decide +kernel
theorem dX5_makeList_70 : decode cX5_makeList 70 = .ok (.getfield 38, 3) := by decide +kernel
theorem dX5_makeList_73 : decode cX5_makeList 73 = .ok (.iload_n 2, 1) := by decide +kernel
theorem dX5_makeList_74 : decode cX5_makeList 74 = .ok (.iaload, 1) := by decide +kernel
theorem dX5_makeList_75 : decode cX5_makeList 75 = .ok (.istore 5, 2) := by decide +kernel
theorem dX5_makeList_77 : decode cX5_makeList 77 = .ok (.iload 4, 2) := by decide +kernel
theorem dX5_makeList_79 : decode cX5_makeList 79 = .ok (.iload 5, 2) := by decide +kernel
theorem dX5_makeList_81 : decode cX5_makeList 81 = .ok (.if_icmp .ge 76, 3) := by decide +kernel
theorem dX5_makeList_84 : decode cX5_makeList 84 = .ok (.iload 4, 2) := by decide +kernel
theorem dX5_makeList_86 : decode cX5_makeList 86 = .ok (.iload 5, 2) := by decide +kernel
theorem dX5_makeList_88 : decode cX5_makeList 88 = .ok (.iload 4, 2) := by decide +kernel
theorem dX5_makeList_90 : decode cX5_makeList 90 = .ok (.isub, 1) := by decide +kernel
theorem dX5_makeList_91 : decode cX5_makeList 91 = .ok (.iconst 2, 1) := by decide +kernel
theorem dX5_makeList_92 : decode cX5_makeList 92 = .ok (.idiv, 1) := by decide +kernel
theorem dX5_makeList_93 : decode cX5_makeList 93 = .ok (.iadd, 1) := by decide +kernel
theorem dX5_makeList_94 : decode cX5_makeList 94 = .ok (.istore 6, 2) := by decide +kernel
theorem dX5_makeList_96 : decode cX5_makeList 96 = .ok (.aload_n 0, 1) := by decide +kernel
theorem dX5_makeList_97 : decode cX5_makeList 97 = .ok (.getfield 7, 3) := by decide +kernel
theorem dX5_makeList_100 : decode cX5_makeList 100 = .ok (.sipush 486, 3) := by decide +kernel
theorem dX5_makeList_103 : decode cX5_makeList 103 = .ok (.iload_n 3, 1) := by decide +kernel
theorem dX5_makeList_104 : decode cX5_makeList 104 = .ok (.iadd, 1) := by decide +kernel
theorem dX5_makeList_105 : decode cX5_makeList 105 = .ok (.aload_n 0, 1) := by decide +kernel
theorem dX5_makeList_106 : decode cX5_makeList 106 = .ok (.getfield 32, 3) := by decide +kernel
theorem dX5_makeList_109 : decode cX5_makeList 109 = .ok (.iload 6, 2) := by decide +kernel
theorem dX5_makeList_111 : decode cX5_makeList 111 = .ok (.iaload, 1) := by decide +kernel
theorem dX5_makeList_112 : decode cX5_makeList 112 = .ok (.iastore, 1) := by decide +kernel
theorem dX5_makeList_113 : decode cX5_makeList 113 = .ok (.iinc 3 1, 3) := by decide +kernel
theorem dX5_makeList_116 : decode cX5_makeList 116 = .ok (.aload_n 0, 1) := by decide +kernel
theorem dX5_makeList_117 : decode cX5_makeList 117 = .ok (.getfield 35, 3) := by decide +kernel
theorem dX5_makeList_120 : decode cX5_makeList 120 = .ok (.iload_n 2, 1) := by decide +kernel
theorem dX5_makeList_121 : decode cX5_makeList 121 = .ok (.iload 6, 2) := by decide +kernel
theorem dX5_makeList_123 : decode cX5_makeList 123 = .ok (.iconst 1, 1) := by decide +kernel
theorem dX5_makeList_124 : decode cX5_makeList 124 = .ok (.iadd, 1) := by decide +kernel
theorem dX5_makeList_125 : decode cX5_makeList 125 = .ok (.iastore, 1) := by decide +kernel
theorem dX5_makeList_126 : decode cX5_makeList 126 = .ok (.aload_n 0, 1) := by decide +kernel
theorem dX5_makeList_127 : decode cX5_makeList 127 = .ok (.getfield 38, 3) := by decide +kernel
theorem dX5_makeList_130 : decode cX5_makeList 130 = .ok (.iload_n 2, 1) := by decide +kernel
theorem dX5_makeList_131 : decode cX5_makeList 131 = .ok (.iload 5, 2) := by decide +kernel
theorem dX5_makeList_133 : decode cX5_makeList 133 = .ok (.iastore, 1) := by decide +kernel
theorem dX5_makeList_134 : decode cX5_makeList 134 = .ok (.aload_n 0, 1) := by decide +kernel
theorem dX5_makeList_135 : decode cX5_makeList 135 = .ok (.getfield 35, 3) := by decide +kernel
theorem dX5_makeList_138 : decode cX5_makeList 138 = .ok (.iload_n 2, 1) := by decide +kernel
theorem dX5_makeList_139 : decode cX5_makeList 139 = .ok (.iconst 1, 1) := by decide +kernel
theorem dX5_makeList_140 : decode cX5_makeList 140 = .ok (.iadd, 1) := by decide +kernel
theorem dX5_makeList_141 : decode cX5_makeList 141 = .ok (.iload 4, 2) := by decide +kernel
theorem dX5_makeList_143 : decode cX5_makeList 143 = .ok (.iastore, 1) := by decide +kernel
theorem dX5_makeList_144 : decode cX5_makeList 144 = .ok (.aload_n 0, 1) := by decide +kernel
theorem dX5_makeList_145 : decode cX5_makeList 145 = .ok (.getfield 38, 3) := by decide +kernel
theorem dX5_makeList_148 : decode cX5_makeList 148 = .ok (.iload_n 2, 1) := by decide +kernel
theorem dX5_makeList_149 : decode cX5_makeList 149 = .ok (.iconst 1, 1) := by decide +kernel
theorem dX5_makeList_150 : decode cX5_makeList 150 = .ok (.iadd, 1) := by decide +kernel
theorem dX5_makeList_151 : decode cX5_makeList 151 = .ok (.iload 6, 2) := by decide +kernel
theorem dX5_makeList_153 : decode cX5_makeList 153 = .ok (.iastore, 1) := by decide +kernel
theorem dX5_makeList_154 : decode cX5_makeList 154 = .ok (.iinc 2 2, 3) := by decide +kernel
theorem dX5_makeList_157 : decode cX5_makeList 157 = .ok (.goto (-103), 3) := by decide +kernel
theorem dX5_makeList_160 : decode cX5_makeList 160 = .ok (.aload_n 0, 1) := by decide +kernel
theorem dX5_makeList_161 : decode cX5_makeList 161 = .ok (.getfield 7, 3) := by decide +kernel
theorem dX5_makeList_164 : decode cX5_makeList 164 = .ok (.sipush 483, 3) := by decide +kernel
theorem dX5_makeList_167 : decode cX5_makeList 167 = .ok (.iload_n 1, 1) := by decide +kernel
theorem dX5_makeList_168 : decode cX5_makeList 168 = .ok (.iastore, 1) := by decide +kernel
theorem dX5_makeList_169 : decode cX5_makeList 169 = .ok (.return_, 1) := by decide +kernel
set_option maxRecDepth 20000 in
theorem ggX5_beginNow_X5_makeList : GoodIn wsX5_beginNow wsX5_makeList := goodIn_r _ [6, 7, 8, 9, 1, 10, 11, 12, 5, 13, 14, 15, 16, 17, 18, 19, 20, 21, 22, 23, 24, 25, 26, 27, 28, 29, 30, 31, 32, 33, 34, 35, 36, 37, 38] (by decide +kernel) (by decide +kernel)
set_option maxRecDepth 20000 in
theorem gX5_beginNow_X5_makeList : GoodIn wsX5_beginNow (wsV RX5 90 RX5 yX5_makeList wsX5_makeList) := goodIn_app (goodIn_of _ (by decide +kernel)) ggX5_beginNow_X5_makeList
theorem dX5_beginNow_0 : decode cX5_beginNow 0 = .ok (.aload_n 0, 1) := by decide +kernel
theorem dX5_beginNow_1 : decode cX5_beginNow 1 = .ok (.invokevirtual 90, 3) := by decide +kernel
theorem dX5_beginNow_4 : decode cX5_beginNow 4 = .ok (.aload_n 0, 1) := by decide +kernel
theorem dX5_beginNow_5 : decode cX5_beginNow 5 = .ok (.getfield 7, 3) := by decide +kernel
theorem dX5_beginNow_8 : decode cX5_beginNow 8 = .ok (.sipush 482, 3) := by decide +kernel
theorem dX5_beginNow_11 : decode cX5_beginNow 11 = .ok (.iconst 1, 1) := by decide +kernel
theorem dX5_beginNow_12 : decode cX5_beginNow 12 = .ok (.iastore, 1) := by decide +kernel
theorem dX5_beginNow_13 : decode cX5_beginNow 13 = .ok (.aload_n 0, 1) := by decide +kernel
theorem dX5_beginNow_14 : decode cX5_beginNow 14 = .ok (.getfield 7, 3) := by decide +kernel
theorem dX5_beginNow_17 : decode cX5_beginNow 17 = .ok (.sipush 484, 3) := by decide +kernel
theorem dX5_beginNow_20 : decode cX5_beginNow 20 = .ok (.iconst 0, 1) := by decide +kernel
theorem dX5_beginNow_21 : decode cX5_beginNow 21 = .ok (.iastore, 1) := by decide +kernel
theorem dX5_beginNow_22 : decode cX5_beginNow 22 = .ok (.aload_n 0, 1) := by decide +kernel
theorem dX5_beginNow_23 : decode cX5_beginNow 23 = .ok (.getfield 7, 3) := by decide +kernel
theorem dX5_beginNow_26 : decode cX5_beginNow 26 = .ok (.sipush 485, 3) := by decide +kernel
theorem dX5_beginNow_29 : decode cX5_beginNow 29 = .ok (.iconst 0, 1) := by decide +kernel
theorem dX5_beginNow_30 : decode cX5_beginNow 30 = .ok (.iastore, 1) := by decide +kernel
theorem dX5_beginNow_31 : decode cX5_beginNow 31 = .ok (.aload_n 0, 1) := by decide +kernel
theorem dX5_beginNow_32 : decode cX5_beginNow 32 = .ok (.getfield 7, 3) := by decide +kernel
theorem dX5_beginNow_35 : decode cX5_beginNow 35 = .ok (.sipush 241, 3) := by decide +kernel
theorem dX5_beginNow_38 : decode cX5_beginNow 38 = .ok (.iconst 0, 1) := by decide +kernel
theorem dX5_beginNow_39 : decode cX5_beginNow 39 = .ok (.iastore, 1) := by decide +kernel
theorem dX5_beginNow_40 : decode cX5_beginNow 40 = .ok (.aload_n 0, 1) := by decide +kernel
theorem dX5_beginNow_41 : decode cX5_beginNow 41 = .ok (.getfield 7, 3) := by decide +kernel
theorem dX5_beginNow_44 : decode cX5_beginNow 44 = .ok (.sipush 643, 3) := by decide +kernel
theorem dX5_beginNow_47 : decode cX5_beginNow 47 = .ok (.dup2, 1) := by decide +kernel
theorem dX5_beginNow_48 : decode cX5_beginNow 48 = .ok (.iaload, 1) := by decide +kernel
theorem dX5_beginNow_49 : decode cX5_beginNow 49 = .ok (.iconst 1, 1) := by decide +kernel
theorem dX5_beginNow_50 : decode cX5_beginNow 50 = .ok (.iadd, 1) := by decide +kernel
theorem dX5_beginNow_51 : decode cX5_beginNow 51 = .ok (.iastore, 1) := by decide +kernel
theorem dX5_beginNow_52 : decode cX5_beginNow 52 = .ok (.return_, 1) := by decide +kernel
theorem dX5_endNow_0 : decode cX5_endNow 0 = .ok (.aload_n 0, 1) := by decide +kernel
theorem dX5_endNow_1 : decode cX5_endNow 1 = .ok (.getfield 7, 3) := by decide +kernel
theorem dX5_endNow_4 : decode cX5_endNow 4 = .ok (.sipush 482, 3) := by decide +kernel
theorem dX5_endNow_7 : decode cX5_endNow 7 = .ok (.iconst 0, 1) := by decide +kernel
theorem dX5_endNow_8 : decode cX5_endNow 8 = .ok (.iastore, 1) := by decide +kernel
theorem dX5_endNow_9 : decode cX5_endNow 9 = .ok (.aload_n 0, 1) := by decide +kernel
theorem dX5_endNow_10 : decode cX5_endNow 10 = .ok (.getfield 7, 3) := by decide +kernel
theorem dX5_endNow_13 : decode cX5_endNow 13 = .ok (.sipush 483, 3) := by decide +kernel
theorem dX5_endNow_16 : decode cX5_endNow 16 = .ok (.iconst 0, 1) := by decide +kernel
theorem dX5_endNow_17 : decode cX5_endNow 17 = .ok (.iastore, 1) := by decide +kernel
theorem dX5_endNow_18 : decode cX5_endNow 18 = .ok (.aload_n 0, 1) := by decide +kernel
theorem dX5_endNow_19 : decode cX5_endNow 19 = .ok (.getfield 7, 3) := by decide +kernel
theorem dX5_endNow_22 : decode cX5_endNow 22 = .ok (.sipush 484, 3) := by decide +kernel
theorem dX5_endNow_25 : decode cX5_endNow 25 = .ok (.iconst 0, 1) := by decide +kernel
theorem dX5_endNow_26 : decode cX5_endNow 26 = .ok (.iastore, 1) := by decide +kernel
theorem dX5_endNow_27 : decode cX5_endNow 27 = .ok (.aload_n 0, 1) := by decide +kernel
theorem dX5_endNow_28 : decode cX5_endNow 28 = .ok (.getfield 7, 3) := by decide +kernel
theorem dX5_endNow_31 : decode cX5_endNow 31 = .ok (.sipush 485, 3) := by decide +kernel
theorem dX5_endNow_34 : decode cX5_endNow 34 = .ok (.iconst 0, 1) := by decide +kernel
theorem dX5_endNow_35 : decode cX5_endNow 35 = .ok (.iastore, 1) := by decide +kernel
theorem dX5_endNow_36 : decode cX5_endNow 36 = .ok (.aload_n 0, 1) := by decide +kernel
theorem dX5_endNow_37 : decode cX5_endNow 37 = .ok (.getfield 7, 3) := by decide +kernel
theorem dX5_endNow_40 : decode cX5_endNow 40 = .ok (.sipush 241, 3) := by decide +kernel
theorem dX5_endNow_43 : decode cX5_endNow 43 = .ok (.iconst 0, 1) := by decide +kernel
theorem dX5_endNow_44 : decode cX5_endNow 44 = .ok (.iastore, 1) := by decide +kernel
theorem dX5_endNow_45 : decode cX5_endNow 45 = .ok (.return_, 1) := by decide +kernel
set_option maxRecDepth 20000 in
theorem ggX5_replay_X5_put : GoodIn wsX5_replay wsX5_put := goodIn_r _ [6, 1, 7, 8, 9, 5, 10, 15, 16, 17, 18, 19, 20, 21, 22, 23, 24, 25, 26, 27, 28, 29, 30, 31, 32, 33, 34, 35] (by decide +kernel) (by decide +kernel)
set_option maxRecDepth 20000 in
theorem gX5_replay_X5_put : GoodIn wsX5_replay (wsV RX5 93 RX5 yX5_put wsX5_put) := goodIn_app (goodIn_of _ (by decide +kernel)) ggX5_replay_X5_put
set_option maxRecDepth 20000 in
theorem ggX5_replay_X5_mark : GoodIn wsX5_replay wsX5_mark := goodIn_r _ [14, 1, 7, 8, 9, 5, 10, 15, 16, 17, 18, 19, 20, 21, 22, 23, 24, 25, 26, 27, 28, 29, 30, 31, 32, 33, 34, 35] (by decide +kernel) (by decide +kernel)
set_option maxRecDepth 20000 in
theorem gX5_replay_X5_mark : GoodIn wsX5_replay (wsV RX5 96 RX5 yX5_mark wsX5_mark) := goodIn_app (goodIn_of _ (by decide +kernel)) ggX5_replay_X5_mark
theorem dX5_replay_0 : decode cX5_replay 0 = .ok (.aload_n 0, 1) := by decide +kernel
theorem dX5_replay_1 : decode cX5_replay 1 = .ok (.getfield 7, 3) := by decide +kernel
theorem dX5_replay_4 : decode cX5_replay 4 = .ok (.sipush 606, 3) := by decide +kernel
theorem dX5_replay_7 : decode cX5_replay 7 = .ok (.iaload, 1) := by decide +kernel
theorem dX5_replay_8 : decode cX5_replay 8 = .ok (.istore_n 1, 1) := by decide +kernel
theorem dX5_replay_9 : decode cX5_replay 9 = .ok (.aload_n 0, 1) := by decide +kernel
theorem dX5_replay_10 : decode cX5_replay 10 = .ok (.getfield 7, 3) := by decide +kernel
theorem dX5_replay_13 : decode cX5_replay 13 = .ok (.sipush 485, 3) := by decide +kernel
theorem dX5_replay_16 : decode cX5_replay 16 = .ok (.dup2, 1) := by decide +kernel
theorem dX5_replay_17 : decode cX5_replay 17 = .ok (.iaload, 1) := by decide +kernel
theorem dX5_replay_18 : decode cX5_replay 18 = .ok (.iconst 1, 1) := by decide +kernel
theorem dX5_replay_19 : decode cX5_replay 19 = .ok (.isub, 1) := by decide +kernel
theorem dX5_replay_20 : decode cX5_replay 20 = .ok (.iastore, 1) := by decide +kernel
theorem dX5_replay_21 : decode cX5_replay 21 = .ok (.iconst 0, 1) := by decide +kernel
theorem dX5_replay_22 : decode cX5_replay 22 = .ok (.istore_n 2, 1) := by decide +kernel
theorem dX5_replay_23 : decode cX5_replay 23 = .ok (.iload_n 2, 1) := by decide +kernel
theorem dX5_replay_24 : decode cX5_replay 24 = .ok (.aload_n 0, 1) := by decide +kernel
theorem dX5_replay_25 : decode cX5_replay 25 = .ok (.getfield 7, 3) := by decide +kernel
theorem dX5_replay_28 : decode cX5_replay 28 = .ok (.sipush 485, 3) := by decide +kernel
theorem dX5_replay_31 : decode cX5_replay 31 = .ok (.iaload, 1) := by decide +kernel
theorem dX5_replay_32 : decode cX5_replay 32 = .ok (.if_icmp .ge 31, 3) := by decide +kernel
theorem dX5_replay_35 : decode cX5_replay 35 = .ok (.aload_n 0, 1) := by decide +kernel
theorem dX5_replay_36 : decode cX5_replay 36 = .ok (.getfield 7, 3) := by decide +kernel
theorem dX5_replay_39 : decode cX5_replay 39 = .ok (.sipush 606, 3) := by decide +kernel
theorem dX5_replay_42 : decode cX5_replay 42 = .ok (.iload_n 2, 1) := by decide +kernel
theorem dX5_replay_43 : decode cX5_replay 43 = .ok (.iadd, 1) := by decide +kernel
theorem dX5_replay_44 : decode cX5_replay 44 = .ok (.aload_n 0, 1) := by decide +kernel
theorem dX5_replay_45 : decode cX5_replay 45 = .ok (.getfield 7, 3) := by decide +kernel
theorem dX5_replay_48 : decode cX5_replay 48 = .ok (.sipush 606, 3) := by decide +kernel
theorem dX5_replay_51 : decode cX5_replay 51 = .ok (.iload_n 2, 1) := by decide +kernel
theorem dX5_replay_52 : decode cX5_replay 52 = .ok (.iadd, 1) := by decide +kernel
theorem dX5_replay_53 : decode cX5_replay 53 = .ok (.iconst 1, 1) := by decide +kernel
theorem dX5_replay_54 : decode cX5_replay 54 = .ok (.iadd, 1) := by decide +kernel
theorem dX5_replay_55 : decode cX5_replay 55 = .ok (.iaload, 1) := by decide +kernel
theorem dX5_replay_56 : decode cX5_replay 56 = .ok (.iastore, 1) := by decide +kernel
theorem dX5_replay_57 : decode cX5_replay 57 = .ok (.iinc 2 1, 3) := by decide +kernel
theorem dX5_replay_60 : decode cX5_replay 60 = .ok (.goto (-37), 3) := by decide +kernel
theorem dX5_replay_63 : decode cX5_replay 63 = .ok (.iload_n 1, 1) := by decide +kernel
theorem dX5_replay_64 : decode cX5_replay 64 = .ok (.sipush 500, 3) := by decide +kernel
theorem dX5_replay_67 : decode cX5_replay 67 = .ok (.if_icmp .ge 14, 3) := by decide +kernel
theorem dX5_replay_70 : decode cX5_replay 70 = .ok (.aload_n 0, 1) := by decide +kernel
theorem dX5_replay_71 : decode cX5_replay 71 = .ok (.sipush 241, 3) := by decide +kernel
theorem dX5_replay_74 : decode cX5_replay 74 = .ok (.iload_n 1, 1) := by decide +kernel
theorem dX5_replay_75 : decode cX5_replay 75 = .ok (.invokevirtual 93, 3) := by decide +kernel
theorem dX5_replay_78 : decode cX5_replay 78 = .ok (.goto 15, 3) := by decide +kernel
theorem dX5_replay_81 : decode cX5_replay 81 = .ok (.aload_n 0, 1) := by decide +kernel
theorem dX5_replay_82 : decode cX5_replay 82 = .ok (.sipush 241, 3) := by decide +kernel
theorem dX5_replay_85 : decode cX5_replay 85 = .ok (.iload_n 1, 1) := by decide +kernel
theorem dX5_replay_86 : decode cX5_replay 86 = .ok (.sipush 500, 3) := by decide +kernel
theorem dX5_replay_89 : decode cX5_replay 89 = .ok (.isub, 1) := by decide +kernel
theorem dX5_replay_90 : decode cX5_replay 90 = .ok (.invokevirtual 96, 3) := by decide +kernel
theorem dX5_replay_93 : decode cX5_replay 93 = .ok (.return_, 1) := by decide +kernel
set_option maxRecDepth 20000 in
theorem ggX5_makeStep_X5_put : GoodIn wsX5_makeStep wsX5_put := goodIn_r _ [6, 1, 7, 8, 9, 5, 10, 35, 36, 37, 38, 39, 40, 41, 42, 43, 44, 45, 46, 47, 48, 49, 50, 51, 52, 53, 54, 55] (by decide +kernel) (by decide +kernel)
set_option maxRecDepth 20000 in
theorem gX5_makeStep_X5_put : GoodIn wsX5_makeStep (wsV RX5 93 RX5 yX5_put wsX5_put) := goodIn_app (goodIn_of _ (by decide +kernel)) ggX5_makeStep_X5_put
set_option maxRecDepth 20000 in
theorem ggX5_makeStep_X5_depthOf : GoodIn wsX5_makeStep wsX5_depthOf := goodIn_r _ [14, 15, 16, 17, 18, 5, 19, 20, 21, 1, 22, 35, 36, 37, 38, 39, 40, 41, 42, 43, 44, 45, 46, 47, 48, 49, 50, 51, 52, 53, 54, 55] (by decide +kernel) (by decide +kernel)
set_option maxRecDepth 20000 in
theorem gX5_makeStep_X5_depthOf : GoodIn wsX5_makeStep (wsV RX5 83 RX5 yX5_depthOf wsX5_depthOf) := goodIn_app (goodIn_of _ (by decide +kernel)) ggX5_makeStep_X5_depthOf
set_option maxRecDepth 20000 in
theorem ggX5_makeStep_X5_replay : GoodIn wsX5_makeStep wsX5_replay := goodIn_r _ [26, 1, 2, 3, 4, 5, 6, 7, 8, 9, 10, 27, 28, 29, 30, 35, 36, 37, 38, 39, 40, 41, 42, 43, 44, 45, 46, 47, 48, 49, 50, 51, 52, 53, 54, 55] (by decide +kernel) (by decide +kernel)
set_option maxRecDepth 20000 in
theorem gX5_makeStep_X5_replay : GoodIn wsX5_makeStep (wsV RX5 99 RX5 yX5_replay wsX5_replay) := goodIn_app (goodIn_of _ (by decide +kernel)) ggX5_makeStep_X5_replay
set_option maxRecDepth 20000 in
theorem ggX5_makeStep_X5_endNow : GoodIn wsX5_makeStep wsX5_endNow := goodIn_r _ [34, 1, 35, 36, 37, 38, 39, 40, 41, 42, 43, 44, 45, 46, 47, 48, 49, 50, 51, 52, 53, 54, 55] (by decide +kernel) (by decide +kernel)
set_option maxRecDepth 20000 in
theorem gX5_makeStep_X5_endNow : GoodIn wsX5_makeStep (wsV RX5 102 RX5 yX5_endNow wsX5_endNow) := goodIn_app (goodIn_of _ (by decide +kernel)) ggX5_makeStep_X5_endNow
theorem dX5_makeStep_0 : decode cX5_makeStep 0 = .ok (.iconst 0, 1) := by decide +kernel
theorem dX5_makeStep_1 : decode cX5_makeStep 1 = .ok (.istore_n 1, 1) := by decide +kernel
theorem dX5_makeStep_2 : decode cX5_makeStep 2 = .ok (.aload_n 0, 1) := by decide +kernel
theorem dX5_makeStep_3 : decode cX5_makeStep 3 = .ok (.getfield 7, 3) := by decide +kernel
theorem dX5_makeStep_6 : decode cX5_makeStep 6 = .ok (.sipush 484, 3) := by decide +kernel
theorem dX5_makeStep_9 : decode cX5_makeStep 9 = .ok (.iaload, 1) := by decide +kernel
theorem dX5_makeStep_10 : decode cX5_makeStep 10 = .ok (.aload_n 0, 1) := by decide +kernel
theorem dX5_makeStep_11 : decode cX5_makeStep 11 = .ok (.getfield 7, 3) := by decide +kernel
theorem dX5_makeStep_14 : decode cX5_makeStep 14 = .ok (.sipush 483, 3) := by decide +kernel
theorem dX5_makeStep_17 : decode cX5_makeStep 17 = .ok (.iaload, 1) := by decide +kernel
theorem dX5_makeStep_18 : decode cX5_makeStep 18 = .ok (.if_icmp .ge 44, 3) := by decide +kernel
theorem dX5_makeStep_21 : decode cX5_makeStep 21 = .ok (.aload_n 0, 1) := by decide +kernel
theorem dX5_makeStep_22 : decode cX5_makeStep 22 = .ok (.sipush 241, 3) := by decide +kernel
theorem dX5_makeStep_25 : decode cX5_makeStep 25 = .ok (.aload_n 0, 1) := by decide +kernel
theorem dX5_makeStep_26 : decode cX5_makeStep 26 = .ok (.getfield 7, 3) := by decide +kernel
theorem dX5_makeStep_29 : decode cX5_makeStep 29 = .ok (.sipush 486, 3) := by decide +kernel
theorem dX5_makeStep_32 : decode cX5_makeStep 32 = .ok (.aload_n 0, 1) := by decide +kernel
theorem dX5_makeStep_33 : decode cX5_makeStep 33 = .ok (.getfield 7, 3) := by decide +kernel
theorem dX5_makeStep_36 : decode cX5_makeStep 36 = .ok (.sipush 484, 3) := by decide +kernel
theorem dX5_makeStep_39 : decode cX5_makeStep 39 = .ok (.iaload, 1) := by decide +kernel
theorem dX5_makeStep_40 : decode cX5_makeStep 40 = .ok (.iadd, 1) := by decide +kernel
theorem dX5_makeStep_41 : decode cX5_makeStep 41 = .ok (.iaload, 1) := by decide +kernel
theorem dX5_makeStep_42 : decode cX5_makeStep 42 = .ok (.invokevirtual 93, 3) := by decide +kernel
theorem dX5_makeStep_45 : decode cX5_makeStep 45 = .ok (.aload_n 0, 1) := by decide +kernel
theorem dX5_makeStep_46 : decode cX5_makeStep 46 = .ok (.getfield 7, 3) := by decide +kernel
theorem dX5_makeStep_49 : decode cX5_makeStep 49 = .ok (.sipush 484, 3) := by decide +kernel
theorem dX5_makeStep_52 : decode cX5_makeStep 52 = .ok (.dup2, 1) := by decide +kernel
theorem dX5_makeStep_53 : decode cX5_makeStep 53 = .ok (.iaload, 1) := by decide +kernel
theorem dX5_makeStep_54 : decode cX5_makeStep 54 = .ok (.iconst 1, 1) := by decide +kernel
theorem dX5_makeStep_55 : decode cX5_makeStep 55 = .ok (.iadd, 1) := by decide +kernel
theorem dX5_makeStep_56 : decode cX5_makeStep 56 = .ok (.iastore, 1) := by decide +kernel
theorem dX5_makeStep_57 : decode cX5_makeStep 57 = .ok (.iconst 1, 1) := by decide +kernel
theorem dX5_makeStep_58 : decode cX5_makeStep 58 = .ok (.istore_n 1, 1) := by decide +kernel
theorem dX5_makeStep_59 : decode cX5_makeStep 59 = .ok (.goto 38, 3) := by decide +kernel
theorem dX5_makeStep_62 : decode cX5_makeStep 62 = .ok (.aload_n 0, 1) := by decide +kernel
theorem dX5_makeStep_63 : decode cX5_makeStep 63 = .ok (.getfield 7, 3) := by decide +kernel
theorem dX5_makeStep_66 : decode cX5_makeStep 66 = .ok (.sipush 485, 3) := by decide +kernel
theorem dX5_makeStep_69 : decode cX5_makeStep 69 = .ok (.iaload, 1) := by decide +kernel
theorem dX5_makeStep_70 : decode cX5_makeStep 70 = .ok (.ifCond .le 27, 3) := by decide +kernel
theorem dX5_makeStep_73 : decode cX5_makeStep 73 = .ok (.aload_n 0, 1) := by decide +kernel
theorem dX5_makeStep_74 : decode cX5_makeStep 74 = .ok (.sipush 241, 3) := by decide +kernel
theorem dX5_makeStep_77 : decode cX5_makeStep 77 = .ok (.aload_n 0, 1) := by decide +kernel
theorem dX5_makeStep_78 : decode cX5_makeStep 78 = .ok (.getfield 7, 3) := by decide +kernel
theorem dX5_makeStep_81 : decode cX5_makeStep 81 = .ok (.sipush 606, 3) := by decide +kernel
theorem dX5_makeStep_84 : decode cX5_makeStep 84 = .ok (.iaload, 1) := by decide +kernel
theorem dX5_makeStep_85 : decode cX5_makeStep 85 = .ok (.sipush 500, 3) := by decide +kernel
theorem dX5_makeStep_88 : decode cX5_makeStep 88 = .ok (.irem, 1) := by decide +kernel
theorem dX5_makeStep_89 : decode cX5_makeStep 89 = .ok (.invokevirtual 83, 3) := by decide +kernel
theorem dX5_makeStep_92 : decode cX5_makeStep 92 = .ok (.istore_n 1, 1) := by decide +kernel
theorem dX5_makeStep_93 : decode cX5_makeStep 93 = .ok (.aload_n 0, 1) := by decide +kernel
theorem dX5_makeStep_94 : decode cX5_makeStep 94 = .ok (.invokevirtual 99, 3) := by decide +kernel
theorem dX5_makeStep_97 : decode cX5_makeStep 97 = .ok (.aload_n 0, 1) := by decide +kernel
theorem dX5_makeStep_98 : decode cX5_makeStep 98 = .ok (.getfield 7, 3) := by decide +kernel
theorem dX5_makeStep_101 : decode cX5_makeStep 101 = .ok (.sipush 484, 3) := by decide +kernel
theorem dX5_makeStep_104 : decode cX5_makeStep 104 = .ok (.iaload, 1) := by decide +kernel
theorem dX5_makeStep_105 : decode cX5_makeStep 105 = .ok (.aload_n 0, 1) := by decide +kernel
theorem dX5_makeStep_106 : decode cX5_makeStep 106 = .ok (.getfield 7, 3) := by decide +kernel
theorem dX5_makeStep_109 : decode cX5_makeStep 109 = .ok (.sipush 483, 3) := by decide +kernel
theorem dX5_makeStep_112 : decode cX5_makeStep 112 = .ok (.iaload, 1) := by decide +kernel
theorem dX5_makeStep_113 : decode cX5_makeStep 113 = .ok (.if_icmp .ne 63, 3) := by decide +kernel
theorem dX5_makeStep_116 : decode cX5_makeStep 116 = .ok (.aload_n 0, 1) := by decide +kernel
theorem dX5_makeStep_117 : decode cX5_makeStep 117 = .ok (.getfield 7, 3) := by decide +kernel
theorem dX5_makeStep_120 : decode cX5_makeStep 120 = .ok (.sipush 485, 3) := by decide +kernel
theorem dX5_makeStep_123 : decode cX5_makeStep 123 = .ok (.iaload, 1) := by decide +kernel
theorem dX5_makeStep_124 : decode cX5_makeStep 124 = .ok (.ifCond .ne 52, 3) := by decide +kernel
theorem dX5_makeStep_127 : decode cX5_makeStep 127 = .ok (.iconst 0, 1) := by decide +kernel
theorem dX5_makeStep_128 : decode cX5_makeStep 128 = .ok (.istore_n 2, 1) := by decide +kernel
theorem dX5_makeStep_129 : decode cX5_makeStep 129 = .ok (.iload_n 2, 1) := by decide +kernel
theorem dX5_makeStep_130 : decode cX5_makeStep 130 = .ok (.sipush 241, 3) := by decide +kernel
theorem dX5_makeStep_133 : decode cX5_makeStep 133 = .ok (.if_icmp .ge 27, 3) := by decide +kernel
theorem dX5_makeStep_136 : decode cX5_makeStep 136 = .ok (.aload_n 0, 1) := by decide +kernel
theorem dX5_makeStep_137 : decode cX5_makeStep 137 = .ok (.getfield 7, 3) := by decide +kernel
theorem dX5_makeStep_140 : decode cX5_makeStep 140 = .ok (.iconst 0, 1) := by decide +kernel
theorem dX5_makeStep_141 : decode cX5_makeStep 141 = .ok (.iload_n 2, 1) := by decide +kernel
theorem dX5_makeStep_142 : decode cX5_makeStep 142 = .ok (.iadd, 1) := by decide +kernel
theorem dX5_makeStep_143 : decode cX5_makeStep 143 = .ok (.aload_n 0, 1) := by decide +kernel
theorem dX5_makeStep_144 : decode cX5_makeStep 144 = .ok (.getfield 7, 3) := by decide +kernel
theorem dX5_makeStep_147 : decode cX5_makeStep 147 = .ok (.sipush 241, 3) := by decide +kernel
theorem dX5_makeStep_150 : decode cX5_makeStep 150 = .ok (.iload_n 2, 1) := by decide +kernel
theorem dX5_makeStep_151 : decode cX5_makeStep 151 = .ok (.iadd, 1) := by decide +kernel
theorem dX5_makeStep_152 : decode cX5_makeStep 152 = .ok (.iaload, 1) := by decide +kernel
theorem dX5_makeStep_153 : decode cX5_makeStep 153 = .ok (.iastore, 1) := by decide +kernel
theorem dX5_makeStep_154 : decode cX5_makeStep 154 = .ok (.iinc 2 1, 3) := by decide +kernel
theorem dX5_makeStep_157 : decode cX5_makeStep 157 = .ok (.goto (-28), 3) := by decide +kernel
theorem dX5_makeStep_160 : decode cX5_makeStep 160 = .ok (.aload_n 0, 1) := by decide +kernel
theorem dX5_makeStep_161 : decode cX5_makeStep 161 = .ok (.invokevirtual 102, 3) := by decide +kernel
theorem dX5_makeStep_164 : decode cX5_makeStep 164 = .ok (.aload_n 0, 1) := by decide +kernel
theorem dX5_makeStep_165 : decode cX5_makeStep 165 = .ok (.getfield 7, 3) := by decide +kernel
theorem dX5_makeStep_168 : decode cX5_makeStep 168 = .ok (.sipush 644, 3) := by decide +kernel
theorem dX5_makeStep_171 : decode cX5_makeStep 171 = .ok (.dup2, 1) := by decide +kernel
theorem dX5_makeStep_172 : decode cX5_makeStep 172 = .ok (.iaload, 1) := by decide +kernel
theorem dX5_makeStep_173 : decode cX5_makeStep 173 = .ok (.iconst 1, 1) := by decide +kernel
theorem dX5_makeStep_174 : decode cX5_makeStep 174 = .ok (.iadd, 1) := by decide +kernel
theorem dX5_makeStep_175 : decode cX5_makeStep 175 = .ok (.iastore, 1) := by decide +kernel
theorem dX5_makeStep_176 : decode cX5_makeStep 176 = .ok (.iload_n 1, 1) := by decide +kernel
theorem dX5_makeStep_177 : decode cX5_makeStep 177 = .ok (.ireturn, 1) := by decide +kernel
set_option maxRecDepth 20000 in
theorem ggX5_act_X5_isPresent : GoodIn wsX5_act wsX5_isPresent := goodIn_r _ [6, 1, 7, 8, 9, 5, 10, 66, 67, 68, 69, 70, 71, 72, 73, 74, 75, 76, 77, 78, 79, 80, 81, 82, 83, 84, 85, 86] (by decide +kernel) (by decide +kernel)
set_option maxRecDepth 20000 in
theorem gX5_act_X5_isPresent : GoodIn wsX5_act (wsV RX5 86 RX5 yX5_isPresent wsX5_isPresent) := goodIn_app (goodIn_of _ (by decide +kernel)) ggX5_act_X5_isPresent
set_option maxRecDepth 20000 in
theorem ggX5_act_X5_depthOf : GoodIn wsX5_act wsX5_depthOf := goodIn_r _ [14, 15, 16, 17, 18, 5, 19, 20, 21, 1, 22, 66, 67, 68, 69, 70, 71, 72, 73, 74, 75, 76, 77, 78, 79, 80, 81, 82, 83, 84, 85, 86] (by decide +kernel) (by decide +kernel)
set_option maxRecDepth 20000 in
theorem gX5_act_X5_depthOf : GoodIn wsX5_act (wsV RX5 83 RX5 yX5_depthOf wsX5_depthOf) := goodIn_app (goodIn_of _ (by decide +kernel)) ggX5_act_X5_depthOf
set_option maxRecDepth 20000 in
theorem ggX5_act_X5_put : GoodIn wsX5_act wsX5_put := goodIn_r _ [26, 1, 7, 8, 9, 5, 10, 66, 67, 68, 69, 70, 71, 72, 73, 74, 75, 76, 77, 78, 79, 80, 81, 82, 83, 84, 85, 86] (by decide +kernel) (by decide +kernel)
set_option maxRecDepth 20000 in
theorem gX5_act_X5_put : GoodIn wsX5_act (wsV RX5 93 RX5 yX5_put wsX5_put) := goodIn_app (goodIn_of _ (by decide +kernel)) ggX5_act_X5_put
set_option maxRecDepth 20000 in
theorem ggX5_act_X5_mark : GoodIn wsX5_act wsX5_mark := goodIn_r _ [30, 1, 7, 8, 9, 5, 10, 66, 67, 68, 69, 70, 71, 72, 73, 74, 75, 76, 77, 78, 79, 80, 81, 82, 83, 84, 85, 86] (by decide +kernel) (by decide +kernel)
set_option maxRecDepth 20000 in
theorem gX5_act_X5_mark : GoodIn wsX5_act (wsV RX5 96 RX5 yX5_mark wsX5_mark) := goodIn_app (goodIn_of _ (by decide +kernel)) ggX5_act_X5_mark
set_option maxRecDepth 20000 in
theorem ggX5_act_X5_queue : GoodIn wsX5_act wsX5_queue := goodIn_r _ [34, 1, 35, 36, 37, 5, 38, 66, 67, 68, 69, 70, 71, 72, 73, 74, 75, 76, 77, 78, 79, 80, 81, 82, 83, 84, 85, 86] (by decide +kernel) (by decide +kernel)
set_option maxRecDepth 20000 in
theorem gX5_act_X5_queue : GoodIn wsX5_act (wsV RX5 105 RX5 yX5_queue wsX5_queue) := goodIn_app (goodIn_of _ (by decide +kernel)) ggX5_act_X5_queue
set_option maxRecDepth 20000 in
theorem ggX5_act_X5_makeStep : GoodIn wsX5_act wsX5_makeStep := goodIn_r _ [42, 1, 23, 24, 25, 5, 26, 7, 8, 9, 10, 11, 12, 13, 14, 15, 16, 17, 18, 19, 20, 21, 22, 43, 44, 45, 46, 27, 28, 29, 30, 35, 36, 37, 38, 66, 67, 68, 69, 70, 71, 72, 73, 74, 75, 76, 77, 78, 79, 80, 81, 82, 83, 84, 85, 86] (by decide +kernel) (by decide +kernel)
set_option maxRecDepth 20000 in
theorem gX5_act_X5_makeStep : GoodIn wsX5_act (wsV RX5 108 RX5 yX5_makeStep wsX5_makeStep) := goodIn_app (goodIn_of _ (by decide +kernel)) ggX5_act_X5_makeStep
set_option maxRecDepth 20000 in
theorem ggX5_act_X5_markedIn : GoodIn wsX5_act wsX5_markedIn := goodIn_r _ [50, 1, 66, 67, 68, 69, 70, 71, 72, 73, 74, 75, 76, 77, 78, 79, 80, 81, 82, 83, 84, 85, 86] (by decide +kernel) (by decide +kernel)
set_option maxRecDepth 20000 in
theorem gX5_act_X5_markedIn : GoodIn wsX5_act (wsV RX5 75 RX5 yX5_markedIn wsX5_markedIn) := goodIn_app (goodIn_of _ (by decide +kernel)) ggX5_act_X5_markedIn
set_option maxRecDepth 20000 in
theorem ggX5_act_X5_depthIn : GoodIn wsX5_act wsX5_depthIn := goodIn_r _ [54, 1, 11, 12, 13, 5, 14, 15, 16, 17, 18, 19, 20, 21, 22, 66, 67, 68, 69, 70, 71, 72, 73, 74, 75, 76, 77, 78, 79, 80, 81, 82, 83, 84, 85, 86] (by decide +kernel) (by decide +kernel)
set_option maxRecDepth 20000 in
theorem gX5_act_X5_depthIn : GoodIn wsX5_act (wsV RX5 112 RX5 yX5_depthIn wsX5_depthIn) := goodIn_app (goodIn_of _ (by decide +kernel)) ggX5_act_X5_depthIn
set_option maxRecDepth 20000 in
theorem ggX5_act_X5_beginNow : GoodIn wsX5_act wsX5_beginNow := goodIn_r _ [58, 1, 59, 60, 61, 5, 62, 63, 64, 65, 2, 3, 4, 6, 7, 8, 9, 10, 66, 67, 68, 69, 70, 71, 72, 73, 74, 75, 76, 77, 78, 79, 80, 81, 82, 83, 84, 85, 86] (by decide +kernel) (by decide +kernel)
set_option maxRecDepth 20000 in
theorem gX5_act_X5_beginNow : GoodIn wsX5_act (wsV RX5 115 RX5 yX5_beginNow wsX5_beginNow) := goodIn_app (goodIn_of _ (by decide +kernel)) ggX5_act_X5_beginNow
theorem dX5_act_0 : decode cX5_act 0 = .ok (.iconst 0, 1) := by decide +kernel
theorem dX5_act_1 : decode cX5_act 1 = .ok (.istore_n 3, 1) := by decide +kernel
theorem dX5_act_2 : decode cX5_act 2 = .ok (.iload_n 1, 1) := by decide +kernel
theorem dX5_act_3 : decode cX5_act 3 = .ok (.iconst 2, 1) := by decide +kernel
theorem dX5_act_4 : decode cX5_act 4 = .ok (.if_icmp .eq 66, 3) := by decide +kernel
theorem dX5_act_7 : decode cX5_act 7 = .ok (.aload_n 0, 1) := by decide +kernel
theorem dX5_act_8 : decode cX5_act 8 = .ok (.iconst 0, 1) := by decide +kernel
theorem dX5_act_9 : decode cX5_act 9 = .ok (.iload_n 2, 1) := by decide +kernel
theorem dX5_act_10 : decode cX5_act 10 = .ok (.invokevirtual 86, 3) := by decide +kernel
theorem dX5_act_13 : decode cX5_act 13 = .ok (.istore 4, 2) := by decide +kernel
theorem dX5_act_15 : decode cX5_act 15 = .ok (.aload_n 0, 1) := by decide +kernel
theorem dX5_act_16 : decode cX5_act 16 = .ok (.iconst 0, 1) := by decide +kernel
theorem dX5_act_17 : decode cX5_act 17 = .ok (.iload_n 2, 1) := by decide +kernel
theorem dX5_act_18 : decode cX5_act 18 = .ok (.invokevirtual 83, 3) := by decide +kernel
theorem dX5_act_21 : decode cX5_act 21 = .ok (.istore_n 3, 1) := by decide +kernel
theorem dX5_act_22 : decode cX5_act 22 = .ok (.iload_n 1, 1) := by decide +kernel
theorem dX5_act_23 : decode cX5_act 23 = .ok (.ifCond .ne 12, 3) := by decide +kernel
theorem dX5_act_26 : decode cX5_act 26 = .ok (.aload_n 0, 1) := by decide +kernel
theorem dX5_act_27 : decode cX5_act 27 = .ok (.iconst 0, 1) := by decide +kernel
theorem dX5_act_28 : decode cX5_act 28 = .ok (.iload_n 2, 1) := by decide +kernel
theorem dX5_act_29 : decode cX5_act 29 = .ok (.invokevirtual 93, 3) := by decide +kernel
theorem dX5_act_32 : decode cX5_act 32 = .ok (.goto 9, 3) := by decide +kernel
theorem dX5_act_35 : decode cX5_act 35 = .ok (.aload_n 0, 1) := by decide +kernel
theorem dX5_act_36 : decode cX5_act 36 = .ok (.iconst 0, 1) := by decide +kernel
theorem dX5_act_37 : decode cX5_act 37 = .ok (.iload_n 2, 1) := by decide +kernel
theorem dX5_act_38 : decode cX5_act 38 = .ok (.invokevirtual 96, 3) := by decide +kernel
theorem dX5_act_41 : decode cX5_act 41 = .ok (.aload_n 0, 1) := by decide +kernel
theorem dX5_act_42 : decode cX5_act 42 = .ok (.getfield 7, 3) := by decide +kernel
theorem dX5_act_45 : decode cX5_act 45 = .ok (.sipush 482, 3) := by decide +kernel
theorem dX5_act_48 : decode cX5_act 48 = .ok (.iaload, 1) := by decide +kernel
theorem dX5_act_49 : decode cX5_act 49 = .ok (.iconst 1, 1) := by decide +kernel
theorem dX5_act_50 : decode cX5_act 50 = .ok (.if_icmp .ne 20, 3) := by decide +kernel
theorem dX5_act_53 : decode cX5_act 53 = .ok (.aload_n 0, 1) := by decide +kernel
theorem dX5_act_54 : decode cX5_act 54 = .ok (.iconst 0, 1) := by decide +kernel
theorem dX5_act_55 : decode cX5_act 55 = .ok (.iload_n 2, 1) := by decide +kernel
theorem dX5_act_56 : decode cX5_act 56 = .ok (.invokevirtual 86, 3) := by decide +kernel
theorem dX5_act_59 : decode cX5_act 59 = .ok (.iload 4, 2) := by decide +kernel
theorem dX5_act_61 : decode cX5_act 61 = .ok (.if_icmp .eq 9, 3) := by decide +kernel
theorem dX5_act_64 : decode cX5_act 64 = .ok (.aload_n 0, 1) := by decide +kernel
theorem dX5_act_65 : decode cX5_act 65 = .ok (.iload_n 1, 1) := by decide +kernel
theorem dX5_act_66 : decode cX5_act 66 = .ok (.iload_n 2, 1) := by decide +kernel
theorem dX5_act_67 : decode cX5_act 67 = .ok (.invokevirtual 105, 3) := by decide +kernel
theorem dX5_act_70 : decode cX5_act 70 = .ok (.iconst 0, 1) := by decide +kernel
theorem dX5_act_71 : decode cX5_act 71 = .ok (.istore 4, 2) := by decide +kernel
theorem dX5_act_73 : decode cX5_act 73 = .ok (.iload 4, 2) := by decide +kernel
theorem dX5_act_75 : decode cX5_act 75 = .ok (.aload_n 0, 1) := by decide +kernel
theorem dX5_act_76 : decode cX5_act 76 = .ok (.getfield 7, 3) := by decide +kernel
theorem dX5_act_79 : decode cX5_act 79 = .ok (.sipush 638, 3) := by decide +kernel
theorem dX5_act_82 : decode cX5_act 82 = .ok (.iaload, 1) := by decide +kernel
theorem dX5_act_83 : decode cX5_act 83 = .ok (.if_icmp .ge 28, 3) := by decide +kernel
theorem dX5_act_86 : decode cX5_act 86 = .ok (.aload_n 0, 1) := by decide +kernel
theorem dX5_act_87 : decode cX5_act 87 = .ok (.getfield 7, 3) := by decide +kernel
theorem dX5_act_90 : decode cX5_act 90 = .ok (.sipush 482, 3) := by decide +kernel
theorem dX5_act_93 : decode cX5_act 93 = .ok (.iaload, 1) := by decide +kernel
theorem dX5_act_94 : decode cX5_act 94 = .ok (.iconst 1, 1) := by decide +kernel
theorem dX5_act_95 : decode cX5_act 95 = .ok (.if_icmp .ne 16, 3) := by decide +kernel
theorem dX5_act_98 : decode cX5_act 98 = .ok (.iload_n 3, 1) := by decide +kernel
theorem dX5_act_99 : decode cX5_act 99 = .ok (.aload_n 0, 1) := by decide +kernel
theorem dX5_act_100 : decode cX5_act 100 = .ok (.invokevirtual 108, 3) := by decide +kernel
theorem dX5_act_103 : decode cX5_act 103 = .ok (.iadd, 1) := by decide +kernel
theorem dX5_act_104 : decode cX5_act 104 = .ok (.istore_n 3, 1) := by decide +kernel
theorem dX5_act_105 : decode cX5_act 105 = .ok (.iinc 4 1, 3) := by decide +kernel
theorem dX5_act_108 : decode cX5_act 108 = .ok (.goto (-35), 3) := by decide +kernel
theorem dX5_act_111 : decode cX5_act 111 = .ok (.aload_n 0, 1) := by decide +kernel
theorem dX5_act_112 : decode cX5_act 112 = .ok (.getfield 7, 3) := by decide +kernel
theorem dX5_act_115 : decode cX5_act 115 = .ok (.sipush 482, 3) := by decide +kernel
theorem dX5_act_118 : decode cX5_act 118 = .ok (.iaload, 1) := by decide +kernel
theorem dX5_act_119 : decode cX5_act 119 = .ok (.ifCond .ne 49, 3) := by decide +kernel
theorem dX5_act_122 : decode cX5_act 122 = .ok (.bipush 100, 2) := by decide +kernel
theorem dX5_act_124 : decode cX5_act 124 = .ok (.aload_n 0, 1) := by decide +kernel
theorem dX5_act_125 : decode cX5_act 125 = .ok (.iconst 0, 1) := by decide +kernel
theorem dX5_act_126 : decode cX5_act 126 = .ok (.invokevirtual 75, 3) := by decide +kernel
theorem dX5_act_129 : decode cX5_act 129 = .ok (.imul, 1) := by decide +kernel
theorem dX5_act_130 : decode cX5_act 130 = .ok (.aload_n 0, 1) := by decide +kernel
theorem dX5_act_131 : decode cX5_act 131 = .ok (.getfield 7, 3) := by decide +kernel
theorem dX5_act_134 : decode cX5_act 134 = .ok (.sipush 636, 3) := by decide +kernel
theorem dX5_act_137 : decode cX5_act 137 = .ok (.iaload, 1) := by decide +kernel
theorem dX5_act_138 : decode cX5_act 138 = .ok (.aload_n 0, 1) := by decide +kernel
theorem dX5_act_139 : decode cX5_act 139 = .ok (.getfield 7, 3) := by decide +kernel
theorem dX5_act_142 : decode cX5_act 142 = .ok (.iconst 0, 1) := by decide +kernel
theorem dX5_act_143 : decode cX5_act 143 = .ok (.iaload, 1) := by decide +kernel
theorem dX5_act_144 : decode cX5_act 144 = .ok (.imul, 1) := by decide +kernel
theorem dX5_act_145 : decode cX5_act 145 = .ok (.if_icmp .gt 19, 3) := by decide +kernel
theorem dX5_act_148 : decode cX5_act 148 = .ok (.aload_n 0, 1) := by decide +kernel
theorem dX5_act_149 : decode cX5_act 149 = .ok (.iconst 0, 1) := by decide +kernel
theorem dX5_act_150 : decode cX5_act 150 = .ok (.invokevirtual 112, 3) := by decide +kernel
theorem dX5_act_153 : decode cX5_act 153 = .ok (.aload_n 0, 1) := by decide +kernel
theorem dX5_act_154 : decode cX5_act 154 = .ok (.getfield 7, 3) := by decide +kernel
theorem dX5_act_157 : decode cX5_act 157 = .ok (.sipush 637, 3) := by decide +kernel
theorem dX5_act_160 : decode cX5_act 160 = .ok (.iaload, 1) := by decide +kernel
theorem dX5_act_161 : decode cX5_act 161 = .ok (.if_icmp .le 7, 3) := by decide +kernel
theorem dX5_act_164 : decode cX5_act 164 = .ok (.aload_n 0, 1) := by decide +kernel
theorem dX5_act_165 : decode cX5_act 165 = .ok (.invokevirtual 115, 3) := by decide +kernel
theorem dX5_act_168 : decode cX5_act 168 = .ok (.aload_n 0, 1) := by decide +kernel
theorem dX5_act_169 : decode cX5_act 169 = .ok (.getfield 7, 3) := by decide +kernel
theorem dX5_act_172 : decode cX5_act 172 = .ok (.sipush 639, 3) := by decide +kernel
theorem dX5_act_175 : decode cX5_act 175 = .ok (.iload_n 3, 1) := by decide +kernel
theorem dX5_act_176 : decode cX5_act 176 = .ok (.iastore, 1) := by decide +kernel
theorem dX5_act_177 : decode cX5_act 177 = .ok (.aload_n 0, 1) := by decide +kernel
theorem dX5_act_178 : decode cX5_act 178 = .ok (.getfield 7, 3) := by decide +kernel
theorem dX5_act_181 : decode cX5_act 181 = .ok (.sipush 640, 3) := by decide +kernel
theorem dX5_act_184 : decode cX5_act 184 = .ok (.iload_n 3, 1) := by decide +kernel
theorem dX5_act_185 : decode cX5_act 185 = .ok (.aload_n 0, 1) := by decide +kernel
theorem dX5_act_186 : decode cX5_act 186 = .ok (.getfield 7, 3) := by decide +kernel
theorem dX5_act_189 : decode cX5_act 189 = .ok (.sipush 640, 3) := by decide +kernel
theorem dX5_act_192 : decode cX5_act 192 = .ok (.iaload, 1) := by decide +kernel
theorem dX5_act_193 : decode cX5_act 193 = .ok (.if_icmp .le 7, 3) := by decide +kernel
theorem dX5_act_196 : decode cX5_act 196 = .ok (.iload_n 3, 1) := by decide +kernel
theorem dX5_act_197 : decode cX5_act 197 = .ok (.goto 11, 3) := by decide +kernel
theorem dX5_act_200 : decode cX5_act 200 = .ok (.aload_n 0, 1) := by decide +kernel
theorem dX5_act_201 : decode cX5_act 201 = .ok (.getfield 7, 3) := by decide +kernel
theorem dX5_act_204 : decode cX5_act 204 = .ok (.sipush 640, 3) := by decide +kernel
theorem dX5_act_207 : decode cX5_act 207 = .ok (.iaload, 1) := by decide +kernel
theorem dX5_act_208 : decode cX5_act 208 = .ok (.iastore, 1) := by decide +kernel
theorem dX5_act_209 : decode cX5_act 209 = .ok (.aload_n 0, 1) := by decide +kernel
theorem dX5_act_210 : decode cX5_act 210 = .ok (.getfield 7, 3) := by decide +kernel
theorem dX5_act_213 : decode cX5_act 213 = .ok (.sipush 641, 3) := by decide +kernel
theorem dX5_act_216 : decode cX5_act 216 = .ok (.dup2, 1) := by decide +kernel
theorem dX5_act_217 : decode cX5_act 217 = .ok (.iaload, 1) := by decide +kernel
theorem dX5_act_218 : decode cX5_act 218 = .ok (.iload_n 3, 1) := by decide +kernel
theorem dX5_act_219 : decode cX5_act 219 = .ok (.iadd, 1) := by decide +kernel
theorem dX5_act_220 : decode cX5_act 220 = .ok (.iastore, 1) := by decide +kernel
theorem dX5_act_221 : decode cX5_act 221 = .ok (.aload_n 0, 1) := by decide +kernel
theorem dX5_act_222 : decode cX5_act 222 = .ok (.getfield 7, 3) := by decide +kernel
theorem dX5_act_225 : decode cX5_act 225 = .ok (.sipush 642, 3) := by decide +kernel
theorem dX5_act_228 : decode cX5_act 228 = .ok (.dup2, 1) := by decide +kernel
theorem dX5_act_229 : decode cX5_act 229 = .ok (.iaload, 1) := by decide +kernel
theorem dX5_act_230 : decode cX5_act 230 = .ok (.iconst 1, 1) := by decide +kernel
theorem dX5_act_231 : decode cX5_act 231 = .ok (.iadd, 1) := by decide +kernel
theorem dX5_act_232 : decode cX5_act 232 = .ok (.iastore, 1) := by decide +kernel
theorem dX5_act_233 : decode cX5_act 233 = .ok (.iload_n 3, 1) := by decide +kernel
theorem dX5_act_234 : decode cX5_act 234 = .ok (.ireturn, 1) := by decide +kernel
set_option maxRecDepth 20000 in
theorem ggX5_queue_X5_endNow : GoodIn wsX5_queue wsX5_endNow := goodIn_r _ [6, 1, 7, 8, 9, 10, 11, 12, 13, 14, 15, 16, 17, 18, 19, 20, 21, 22, 23, 24, 25, 26, 27] (by decide +kernel) (by decide +kernel)
set_option maxRecDepth 20000 in
theorem gX5_queue_X5_endNow : GoodIn wsX5_queue (wsV RX5 102 RX5 yX5_endNow wsX5_endNow) := goodIn_app (goodIn_of _ (by decide +kernel)) ggX5_queue_X5_endNow
theorem dX5_queue_0 : decode cX5_queue 0 = .ok (.aload_n 0, 1) := by decide +kernel
theorem dX5_queue_1 : decode cX5_queue 1 = .ok (.getfield 7, 3) := by decide +kernel
theorem dX5_queue_4 : decode cX5_queue 4 = .ok (.sipush 485, 3) := by decide +kernel
theorem dX5_queue_7 : decode cX5_queue 7 = .ok (.iaload, 1) := by decide +kernel
theorem dX5_queue_8 : decode cX5_queue 8 = .ok (.bipush 30, 2) := by decide +kernel
theorem dX5_queue_10 : decode cX5_queue 10 = .ok (.if_icmp .ne 20, 3) := by decide +kernel
theorem dX5_queue_13 : decode cX5_queue 13 = .ok (.aload_n 0, 1) := by decide +kernel
theorem dX5_queue_14 : decode cX5_queue 14 = .ok (.invokevirtual 102, 3) := by decide +kernel
theorem dX5_queue_17 : decode cX5_queue 17 = .ok (.aload_n 0, 1) := by decide +kernel
theorem dX5_queue_18 : decode cX5_queue 18 = .ok (.getfield 7, 3) := by decide +kernel
theorem dX5_queue_21 : decode cX5_queue 21 = .ok (.sipush 645, 3) := by decide +kernel
theorem dX5_queue_24 : decode cX5_queue 24 = .ok (.dup2, 1) := by decide +kernel
theorem dX5_queue_25 : decode cX5_queue 25 = .ok (.iaload, 1) := by decide +kernel
theorem dX5_queue_26 : decode cX5_queue 26 = .ok (.iconst 1, 1) := by decide +kernel
theorem dX5_queue_27 : decode cX5_queue 27 = .ok (.iadd, 1) := by decide +kernel
theorem dX5_queue_28 : decode cX5_queue 28 = .ok (.iastore, 1) := by decide +kernel
theorem dX5_queue_29 : decode cX5_queue 29 = .ok (.return_, 1) := by decide +kernel
theorem dX5_queue_30 : decode cX5_queue 30 = .ok (.aload_n 0, 1) := by decide +kernel
theorem dX5_queue_31 : decode cX5_queue 31 = .ok (.getfield 7, 3) := by decide +kernel
theorem dX5_queue_34 : decode cX5_queue 34 = .ok (.sipush 606, 3) := by decide +kernel
theorem dX5_queue_37 : decode cX5_queue 37 = .ok (.aload_n 0, 1) := by decide +kernel
theorem dX5_queue_38 : decode cX5_queue 38 = .ok (.getfield 7, 3) := by decide +kernel
theorem dX5_queue_41 : decode cX5_queue 41 = .ok (.sipush 485, 3) := by decide +kernel
theorem dX5_queue_44 : decode cX5_queue 44 = .ok (.iaload, 1) := by decide +kernel
theorem dX5_queue_45 : decode cX5_queue 45 = .ok (.iadd, 1) := by decide +kernel
theorem dX5_queue_46 : decode cX5_queue 46 = .ok (.iload_n 1, 1) := by decide +kernel
theorem dX5_queue_47 : decode cX5_queue 47 = .ok (.ifCond .ne 7, 3) := by decide +kernel
theorem dX5_queue_50 : decode cX5_queue 50 = .ok (.iload_n 2, 1) := by decide +kernel
theorem dX5_queue_51 : decode cX5_queue 51 = .ok (.goto 8, 3) := by decide +kernel
theorem dX5_queue_54 : decode cX5_queue 54 = .ok (.sipush 500, 3) := by decide +kernel
theorem dX5_queue_57 : decode cX5_queue 57 = .ok (.iload_n 2, 1) := by decide +kernel
theorem dX5_queue_58 : decode cX5_queue 58 = .ok (.iadd, 1) := by decide +kernel
theorem dX5_queue_59 : decode cX5_queue 59 = .ok (.iastore, 1) := by decide +kernel
theorem dX5_queue_60 : decode cX5_queue 60 = .ok (.aload_n 0, 1) := by decide +kernel
theorem dX5_queue_61 : decode cX5_queue 61 = .ok (.getfield 7, 3) := by decide +kernel
theorem dX5_queue_64 : decode cX5_queue 64 = .ok (.sipush 485, 3) := by decide +kernel
theorem dX5_queue_67 : decode cX5_queue 67 = .ok (.dup2, 1) := by decide +kernel
theorem dX5_queue_68 : decode cX5_queue 68 = .ok (.iaload, 1) := by decide +kernel
theorem dX5_queue_69 : decode cX5_queue 69 = .ok (.iconst 1, 1) := by decide +kernel
theorem dX5_queue_70 : decode cX5_queue 70 = .ok (.iadd, 1) := by decide +kernel
theorem dX5_queue_71 : decode cX5_queue 71 = .ok (.iastore, 1) := by decide +kernel
theorem dX5_queue_72 : decode cX5_queue 72 = .ok (.return_, 1) := by decide +kernel
set_option maxRecDepth 20000 in
theorem ggX5_hasRoom_X5_placeOf : GoodIn wsX5_hasRoom wsX5_placeOf := goodIn_r _ [6, 1, 7, 8, 9, 10, 11, 12, 13, 14, 15, 16, 17, 18, 19, 20, 21, 22, 23, 24, 25, 26, 27] (by decide +kernel) (by decide +kernel)
set_option maxRecDepth 20000 in
theorem gX5_hasRoom_X5_placeOf : GoodIn wsX5_hasRoom (wsV RX5 62 RX5 yX5_placeOf wsX5_placeOf) := goodIn_app (goodIn_of _ (by decide +kernel)) ggX5_hasRoom_X5_placeOf
theorem dX5_hasRoom_0 : decode cX5_hasRoom 0 = .ok (.aload_n 0, 1) := by decide +kernel
theorem dX5_hasRoom_1 : decode cX5_hasRoom 1 = .ok (.getfield 7, 3) := by decide +kernel
theorem dX5_hasRoom_4 : decode cX5_hasRoom 4 = .ok (.iconst 0, 1) := by decide +kernel
theorem dX5_hasRoom_5 : decode cX5_hasRoom 5 = .ok (.iaload, 1) := by decide +kernel
theorem dX5_hasRoom_6 : decode cX5_hasRoom 6 = .ok (.bipush 120, 2) := by decide +kernel
theorem dX5_hasRoom_8 : decode cX5_hasRoom 8 = .ok (.if_icmp .lt 13, 3) := by decide +kernel
theorem dX5_hasRoom_11 : decode cX5_hasRoom 11 = .ok (.aload_n 0, 1) := by decide +kernel
theorem dX5_hasRoom_12 : decode cX5_hasRoom 12 = .ok (.iconst 0, 1) := by decide +kernel
theorem dX5_hasRoom_13 : decode cX5_hasRoom 13 = .ok (.iload_n 1, 1) := by decide +kernel
theorem dX5_hasRoom_14 : decode cX5_hasRoom 14 = .ok (.invokevirtual 62, 3) := by decide +kernel
theorem dX5_hasRoom_17 : decode cX5_hasRoom 17 = .ok (.iconst (-1), 1) := by decide +kernel
theorem dX5_hasRoom_18 : decode cX5_hasRoom 18 = .ok (.if_icmp .eq 7, 3) := by decide +kernel
theorem dX5_hasRoom_21 : decode cX5_hasRoom 21 = .ok (.iconst 1, 1) := by decide +kernel
theorem dX5_hasRoom_22 : decode cX5_hasRoom 22 = .ok (.goto 4, 3) := by decide +kernel
theorem dX5_hasRoom_25 : decode cX5_hasRoom 25 = .ok (.iconst 0, 1) := by decide +kernel
theorem dX5_hasRoom_26 : decode cX5_hasRoom 26 = .ok (.ireturn, 1) := by decide +kernel
set_option maxRecDepth 20000 in
theorem ggX5_add_X5_isKey : GoodIn wsX5_add wsX5_isKey := goodIn_r _ [4, 5, 6, 3, 7] (by decide +kernel) (by decide +kernel)
set_option maxRecDepth 20000 in
theorem gX5_add_X5_isKey : GoodIn wsX5_add (va_wsS RX5 118 yX5_isKey wsX5_isKey) := goodIn_app (goodIn_of _ (by decide +kernel)) ggX5_add_X5_isKey
set_option maxRecDepth 20000 in
theorem ggX5_add_X5_hasRoom : GoodIn wsX5_add wsX5_hasRoom := goodIn_r _ [11, 12, 13, 14, 15, 3, 16, 94, 95, 96, 97, 98, 99, 100, 101, 102, 103, 104, 105, 106, 107, 108, 109, 110, 111, 112, 113, 114] (by decide +kernel) (by decide +kernel)
set_option maxRecDepth 20000 in
theorem gX5_add_X5_hasRoom : GoodIn wsX5_add (wsV RX5 122 RX5 yX5_hasRoom wsX5_hasRoom) := goodIn_app (goodIn_of _ (by decide +kernel)) ggX5_add_X5_hasRoom
set_option maxRecDepth 20000 in
theorem ggX5_add_X5_refused : GoodIn wsX5_add wsX5_refused := goodIn_r _ [20, 21, 94, 95, 96, 97, 98, 99, 100, 101, 102, 103, 104, 105, 106, 107, 108, 109, 110, 111, 112, 113, 114] (by decide +kernel) (by decide +kernel)
set_option maxRecDepth 20000 in
theorem gX5_add_X5_refused : GoodIn wsX5_add (wsV RX5 125 RX5 yX5_refused wsX5_refused) := goodIn_app (goodIn_of _ (by decide +kernel)) ggX5_add_X5_refused
set_option maxRecDepth 20000 in
theorem ggX5_add_X5_saveState : GoodIn wsX5_add wsX5_saveState := goodIn_r _ [25, 26, 27, 12, 28, 29, 3, 30, 94, 95, 96, 97, 98, 99, 100, 101, 102, 103, 104, 105, 106, 107, 108, 109, 110, 111, 112, 113, 114] (by decide +kernel) (by decide +kernel)
set_option maxRecDepth 20000 in
theorem gX5_add_X5_saveState : GoodIn wsX5_add (wsV RX5 128 RX5 yX5_saveState wsX5_saveState) := goodIn_app (goodIn_of _ (by decide +kernel)) ggX5_add_X5_saveState
set_option maxRecDepth 20000 in
theorem ggX5_add_X5_isPresent : GoodIn wsX5_add wsX5_isPresent := goodIn_r _ [34, 12, 13, 14, 15, 3, 16, 94, 95, 96, 97, 98, 99, 100, 101, 102, 103, 104, 105, 106, 107, 108, 109, 110, 111, 112, 113, 114] (by decide +kernel) (by decide +kernel)
set_option maxRecDepth 20000 in
theorem gX5_add_X5_isPresent : GoodIn wsX5_add (wsV RX5 86 RX5 yX5_isPresent wsX5_isPresent) := goodIn_app (goodIn_of _ (by decide +kernel)) ggX5_add_X5_isPresent
set_option maxRecDepth 20000 in
theorem ggX5_add_X5_act : GoodIn wsX5_add wsX5_act := goodIn_r _ [38, 12, 31, 32, 33, 3, 34, 13, 14, 15, 16, 39, 40, 41, 42, 43, 44, 45, 46, 47, 48, 49, 50, 51, 52, 53, 54, 55, 56, 57, 58, 59, 60, 61, 62, 63, 64, 65, 66, 67, 68, 69, 70, 71, 72, 73, 74, 75, 76, 77, 78, 79, 80, 81, 82, 83, 84, 85, 86, 87, 88, 89, 90, 91, 92, 93, 94, 95, 96, 97, 98, 99, 100, 101, 102, 103, 104, 105, 106, 107, 108, 109, 110, 111, 112, 113, 114] (by decide +kernel) (by decide +kernel)
set_option maxRecDepth 20000 in
theorem gX5_add_X5_act : GoodIn wsX5_add (wsV RX5 131 RX5 yX5_act wsX5_act) := goodIn_app (goodIn_of _ (by decide +kernel)) ggX5_add_X5_act
theorem dX5_add_0 : decode cX5_add 0 = .ok (.aload_n 0, 1) := by decide +kernel
theorem dX5_add_1 : decode cX5_add 1 = .ok (.iload_n 1, 1) := by decide +kernel
theorem dX5_add_2 : decode cX5_add 2 = .ok (.invokestatic 118, 3) := by decide +kernel
theorem dX5_add_5 : decode cX5_add 5 = .ok (.ifCond .ne 7, 3) := by decide +kernel
theorem dX5_add_8 : decode cX5_add 8 = .ok (.iconst 1, 1) := by decide +kernel
theorem dX5_add_9 : decode cX5_add 9 = .ok (.goto 16, 3) := by decide +kernel
theorem dX5_add_12 : decode cX5_add 12 = .ok (.aload_n 0, 1) := by decide +kernel
theorem dX5_add_13 : decode cX5_add 13 = .ok (.iload_n 1, 1) := by decide +kernel
theorem dX5_add_14 : decode cX5_add 14 = .ok (.invokevirtual 122, 3) := by decide +kernel
theorem dX5_add_17 : decode cX5_add 17 = .ok (.ifCond .eq 7, 3) := by decide +kernel
theorem dX5_add_20 : decode cX5_add 20 = .ok (.iconst 0, 1) := by decide +kernel
theorem dX5_add_21 : decode cX5_add 21 = .ok (.goto 4, 3) := by decide +kernel
theorem dX5_add_24 : decode cX5_add 24 = .ok (.iconst 2, 1) := by decide +kernel
theorem dX5_add_25 : decode cX5_add 25 = .ok (.invokevirtual 125, 3) := by decide +kernel
theorem dX5_add_28 : decode cX5_add 28 = .ok (.ifCond .eq 5, 3) := by decide +kernel
theorem dX5_add_31 : decode cX5_add 31 = .ok (.iconst 0, 1) := by decide +kernel
theorem dX5_add_32 : decode cX5_add 32 = .ok (.ireturn, 1) := by decide +kernel
theorem dX5_add_33 : decode cX5_add 33 = .ok (.aload_n 0, 1) := by decide +kernel
theorem dX5_add_34 : decode cX5_add 34 = .ok (.invokevirtual 128, 3) := by decide +kernel
theorem dX5_add_37 : decode cX5_add 37 = .ok (.aload_n 0, 1) := by decide +kernel
theorem dX5_add_38 : decode cX5_add 38 = .ok (.iconst 0, 1) := by decide +kernel
theorem dX5_add_39 : decode cX5_add 39 = .ok (.iload_n 1, 1) := by decide +kernel
theorem dX5_add_40 : decode cX5_add 40 = .ok (.invokevirtual 86, 3) := by decide +kernel
theorem dX5_add_43 : decode cX5_add 43 = .ok (.ifCond .eq 7, 3) := by decide +kernel
theorem dX5_add_46 : decode cX5_add 46 = .ok (.iconst 0, 1) := by decide +kernel
theorem dX5_add_47 : decode cX5_add 47 = .ok (.goto 4, 3) := by decide +kernel
theorem dX5_add_50 : decode cX5_add 50 = .ok (.iconst 1, 1) := by decide +kernel
theorem dX5_add_51 : decode cX5_add 51 = .ok (.istore_n 2, 1) := by decide +kernel
theorem dX5_add_52 : decode cX5_add 52 = .ok (.aload_n 0, 1) := by decide +kernel
theorem dX5_add_53 : decode cX5_add 53 = .ok (.iconst 0, 1) := by decide +kernel
theorem dX5_add_54 : decode cX5_add 54 = .ok (.iload_n 1, 1) := by decide +kernel
theorem dX5_add_55 : decode cX5_add 55 = .ok (.invokevirtual 131, 3) := by decide +kernel
theorem dX5_add_58 : decode cX5_add 58 = .ok (.pop, 1) := by decide +kernel
theorem dX5_add_59 : decode cX5_add 59 = .ok (.iload_n 2, 1) := by decide +kernel
theorem dX5_add_60 : decode cX5_add 60 = .ok (.ireturn, 1) := by decide +kernel
set_option maxRecDepth 20000 in
theorem ggX5_remove_X5_isKey : GoodIn wsX5_remove wsX5_isKey := goodIn_r _ [4, 5, 6, 3, 7] (by decide +kernel) (by decide +kernel)
set_option maxRecDepth 20000 in
theorem gX5_remove_X5_isKey : GoodIn wsX5_remove (va_wsS RX5 118 yX5_isKey wsX5_isKey) := goodIn_app (goodIn_of _ (by decide +kernel)) ggX5_remove_X5_isKey
set_option maxRecDepth 20000 in
theorem ggX5_remove_X5_refused : GoodIn wsX5_remove wsX5_refused := goodIn_r _ [11, 12, 90, 91, 92, 93, 94, 95, 96, 97, 98, 99, 100, 101, 102, 103, 104, 105, 106, 107, 108, 109, 110] (by decide +kernel) (by decide +kernel)
set_option maxRecDepth 20000 in
theorem gX5_remove_X5_refused : GoodIn wsX5_remove (wsV RX5 125 RX5 yX5_refused wsX5_refused) := goodIn_app (goodIn_of _ (by decide +kernel)) ggX5_remove_X5_refused
set_option maxRecDepth 20000 in
theorem ggX5_remove_X5_saveState : GoodIn wsX5_remove wsX5_saveState := goodIn_r _ [16, 17, 18, 19, 20, 21, 3, 22, 90, 91, 92, 93, 94, 95, 96, 97, 98, 99, 100, 101, 102, 103, 104, 105, 106, 107, 108, 109, 110] (by decide +kernel) (by decide +kernel)
set_option maxRecDepth 20000 in
theorem gX5_remove_X5_saveState : GoodIn wsX5_remove (wsV RX5 128 RX5 yX5_saveState wsX5_saveState) := goodIn_app (goodIn_of _ (by decide +kernel)) ggX5_remove_X5_saveState
set_option maxRecDepth 20000 in
theorem ggX5_remove_X5_isPresent : GoodIn wsX5_remove wsX5_isPresent := goodIn_r _ [26, 19, 27, 28, 29, 3, 30, 90, 91, 92, 93, 94, 95, 96, 97, 98, 99, 100, 101, 102, 103, 104, 105, 106, 107, 108, 109, 110] (by decide +kernel) (by decide +kernel)
set_option maxRecDepth 20000 in
theorem gX5_remove_X5_isPresent : GoodIn wsX5_remove (wsV RX5 86 RX5 yX5_isPresent wsX5_isPresent) := goodIn_app (goodIn_of _ (by decide +kernel)) ggX5_remove_X5_isPresent
set_option maxRecDepth 20000 in
theorem ggX5_remove_X5_act : GoodIn wsX5_remove wsX5_act := goodIn_r _ [34, 19, 23, 24, 25, 3, 26, 27, 28, 29, 30, 35, 36, 37, 38, 39, 40, 41, 42, 43, 44, 45, 46, 47, 48, 49, 50, 51, 52, 53, 54, 55, 56, 57, 58, 59, 60, 61, 62, 63, 64, 65, 66, 67, 68, 69, 70, 71, 72, 73, 74, 75, 76, 77, 78, 79, 80, 81, 82, 83, 84, 85, 86, 87, 88, 89, 90, 91, 92, 93, 94, 95, 96, 97, 98, 99, 100, 101, 102, 103, 104, 105, 106, 107, 108, 109, 110] (by decide +kernel) (by decide +kernel)
set_option maxRecDepth 20000 in
theorem gX5_remove_X5_act : GoodIn wsX5_remove (wsV RX5 131 RX5 yX5_act wsX5_act) := goodIn_app (goodIn_of _ (by decide +kernel)) ggX5_remove_X5_act
theorem dX5_remove_0 : decode cX5_remove 0 = .ok (.aload_n 0, 1) := by decide +kernel
theorem dX5_remove_1 : decode cX5_remove 1 = .ok (.iload_n 1, 1) := by decide +kernel
theorem dX5_remove_2 : decode cX5_remove 2 = .ok (.invokestatic 118, 3) := by decide +kernel
theorem dX5_remove_5 : decode cX5_remove 5 = .ok (.ifCond .eq 7, 3) := by decide +kernel
theorem dX5_remove_8 : decode cX5_remove 8 = .ok (.iconst 0, 1) := by decide +kernel
theorem dX5_remove_9 : decode cX5_remove 9 = .ok (.goto 4, 3) := by decide +kernel
theorem dX5_remove_12 : decode cX5_remove 12 = .ok (.iconst 1, 1) := by decide +kernel
theorem dX5_remove_13 : decode cX5_remove 13 = .ok (.invokevirtual 125, 3) := by decide +kernel
theorem dX5_remove_16 : decode cX5_remove 16 = .ok (.ifCond .eq 5, 3) := by decide +kernel
theorem dX5_remove_19 : decode cX5_remove 19 = .ok (.iconst 0, 1) := by decide +kernel
theorem dX5_remove_20 : decode cX5_remove 20 = .ok (.ireturn, 1) := by decide +kernel
theorem dX5_remove_21 : decode cX5_remove 21 = .ok (.aload_n 0, 1) := by decide +kernel
theorem dX5_remove_22 : decode cX5_remove 22 = .ok (.invokevirtual 128, 3) := by decide +kernel
theorem dX5_remove_25 : decode cX5_remove 25 = .ok (.aload_n 0, 1) := by decide +kernel
theorem dX5_remove_26 : decode cX5_remove 26 = .ok (.iconst 0, 1) := by decide +kernel
theorem dX5_remove_27 : decode cX5_remove 27 = .ok (.iload_n 1, 1) := by decide +kernel
theorem dX5_remove_28 : decode cX5_remove 28 = .ok (.invokevirtual 86, 3) := by decide +kernel
theorem dX5_remove_31 : decode cX5_remove 31 = .ok (.ifCond .eq 7, 3) := by decide +kernel
theorem dX5_remove_34 : decode cX5_remove 34 = .ok (.iconst 1, 1) := by decide +kernel
theorem dX5_remove_35 : decode cX5_remove 35 = .ok (.goto 4, 3) := by decide +kernel
theorem dX5_remove_38 : decode cX5_remove 38 = .ok (.iconst 0, 1) := by decide +kernel
theorem dX5_remove_39 : decode cX5_remove 39 = .ok (.istore_n 2, 1) := by decide +kernel
theorem dX5_remove_40 : decode cX5_remove 40 = .ok (.aload_n 0, 1) := by decide +kernel
theorem dX5_remove_41 : decode cX5_remove 41 = .ok (.iconst 1, 1) := by decide +kernel
theorem dX5_remove_42 : decode cX5_remove 42 = .ok (.iload_n 1, 1) := by decide +kernel
theorem dX5_remove_43 : decode cX5_remove 43 = .ok (.invokevirtual 131, 3) := by decide +kernel
theorem dX5_remove_46 : decode cX5_remove 46 = .ok (.pop, 1) := by decide +kernel
theorem dX5_remove_47 : decode cX5_remove 47 = .ok (.iload_n 2, 1) := by decide +kernel
theorem dX5_remove_48 : decode cX5_remove 48 = .ok (.ireturn, 1) := by decide +kernel
set_option maxRecDepth 20000 in
theorem ggX5_idle_X5_saveState : GoodIn wsX5_idle wsX5_saveState := goodIn_r _ [6, 7, 8, 9, 10, 11, 5, 12, 80, 81, 82, 83, 84, 85, 86, 87, 88, 89, 90, 91, 92, 93, 94, 95, 96, 97, 98, 99, 100] (by decide +kernel) (by decide +kernel)
set_option maxRecDepth 20000 in
theorem gX5_idle_X5_saveState : GoodIn wsX5_idle (wsV RX5 128 RX5 yX5_saveState wsX5_saveState) := goodIn_app (goodIn_of _ (by decide +kernel)) ggX5_idle_X5_saveState
set_option maxRecDepth 20000 in
theorem ggX5_idle_X5_act : GoodIn wsX5_idle wsX5_act := goodIn_r _ [16, 9, 17, 18, 19, 5, 20, 21, 22, 23, 24, 25, 26, 27, 28, 29, 30, 31, 32, 33, 34, 35, 36, 37, 38, 39, 40, 41, 42, 43, 44, 45, 46, 47, 48, 49, 50, 51, 52, 53, 54, 55, 56, 57, 58, 59, 60, 61, 62, 63, 64, 65, 66, 67, 68, 69, 70, 71, 72, 73, 74, 75, 76, 77, 78, 79, 80, 81, 82, 83, 84, 85, 86, 87, 88, 89, 90, 91, 92, 93, 94, 95, 96, 97, 98, 99, 100] (by decide +kernel) (by decide +kernel)
set_option maxRecDepth 20000 in
theorem gX5_idle_X5_act : GoodIn wsX5_idle (wsV RX5 131 RX5 yX5_act wsX5_act) := goodIn_app (goodIn_of _ (by decide +kernel)) ggX5_idle_X5_act
theorem dX5_idle_0 : decode cX5_idle 0 = .ok (.aload_n 0, 1) := by decide +kernel
theorem dX5_idle_1 : decode cX5_idle 1 = .ok (.iconst 0, 1) := by decide +kernel
theorem dX5_idle_2 : decode cX5_idle 2 = .ok (.putfield 47, 3) := by decide +kernel
theorem dX5_idle_5 : decode cX5_idle 5 = .ok (.aload_n 0, 1) := by decide +kernel
theorem dX5_idle_6 : decode cX5_idle 6 = .ok (.invokevirtual 128, 3) := by decide +kernel
theorem dX5_idle_9 : decode cX5_idle 9 = .ok (.aload_n 0, 1) := by decide +kernel
theorem dX5_idle_10 : decode cX5_idle 10 = .ok (.iconst 2, 1) := by decide +kernel
theorem dX5_idle_11 : decode cX5_idle 11 = .ok (.iconst 0, 1) := by decide +kernel
theorem dX5_idle_12 : decode cX5_idle 12 = .ok (.invokevirtual 131, 3) := by decide +kernel
theorem dX5_idle_15 : decode cX5_idle 15 = .ok (.ireturn, 1) := by decide +kernel
set_option maxRecDepth 20000 in
theorem ggX5_begin_X5_refused : GoodIn wsX5_begin wsX5_refused := goodIn_r _ [6, 7, 36, 37, 38, 39, 40, 41, 42, 43, 44, 45, 46, 47, 48, 49, 50, 51, 52, 53, 54, 55, 56] (by decide +kernel) (by decide +kernel)
set_option maxRecDepth 20000 in
theorem gX5_begin_X5_refused : GoodIn wsX5_begin (wsV RX5 125 RX5 yX5_refused wsX5_refused) := goodIn_app (goodIn_of _ (by decide +kernel)) ggX5_begin_X5_refused
set_option maxRecDepth 20000 in
theorem ggX5_begin_X5_saveState : GoodIn wsX5_begin wsX5_saveState := goodIn_r _ [11, 12, 13, 1, 14, 15, 5, 16, 36, 37, 38, 39, 40, 41, 42, 43, 44, 45, 46, 47, 48, 49, 50, 51, 52, 53, 54, 55, 56] (by decide +kernel) (by decide +kernel)
set_option maxRecDepth 20000 in
theorem gX5_begin_X5_saveState : GoodIn wsX5_begin (wsV RX5 128 RX5 yX5_saveState wsX5_saveState) := goodIn_app (goodIn_of _ (by decide +kernel)) ggX5_begin_X5_saveState
set_option maxRecDepth 20000 in
theorem ggX5_begin_X5_beginNow : GoodIn wsX5_begin wsX5_beginNow := goodIn_r _ [20, 1, 21, 22, 23, 5, 24, 25, 26, 27, 28, 29, 30, 31, 32, 33, 34, 35, 36, 37, 38, 39, 40, 41, 42, 43, 44, 45, 46, 47, 48, 49, 50, 51, 52, 53, 54, 55, 56] (by decide +kernel) (by decide +kernel)
set_option maxRecDepth 20000 in
theorem gX5_begin_X5_beginNow : GoodIn wsX5_begin (wsV RX5 115 RX5 yX5_beginNow wsX5_beginNow) := goodIn_app (goodIn_of _ (by decide +kernel)) ggX5_begin_X5_beginNow
theorem dX5_begin_0 : decode cX5_begin 0 = .ok (.aload_n 0, 1) := by decide +kernel
theorem dX5_begin_1 : decode cX5_begin 1 = .ok (.aload_n 0, 1) := by decide +kernel
theorem dX5_begin_2 : decode cX5_begin 2 = .ok (.getfield 7, 3) := by decide +kernel
theorem dX5_begin_5 : decode cX5_begin 5 = .ok (.sipush 482, 3) := by decide +kernel
theorem dX5_begin_8 : decode cX5_begin 8 = .ok (.iaload, 1) := by decide +kernel
theorem dX5_begin_9 : decode cX5_begin 9 = .ok (.iconst 1, 1) := by decide +kernel
theorem dX5_begin_10 : decode cX5_begin 10 = .ok (.if_icmp .ne 7, 3) := by decide +kernel
theorem dX5_begin_13 : decode cX5_begin 13 = .ok (.iconst 1, 1) := by decide +kernel
theorem dX5_begin_14 : decode cX5_begin 14 = .ok (.goto 4, 3) := by decide +kernel
theorem dX5_begin_17 : decode cX5_begin 17 = .ok (.iconst 0, 1) := by decide +kernel
theorem dX5_begin_18 : decode cX5_begin 18 = .ok (.invokevirtual 125, 3) := by decide +kernel
theorem dX5_begin_21 : decode cX5_begin 21 = .ok (.ifCond .eq 5, 3) := by decide +kernel
theorem dX5_begin_24 : decode cX5_begin 24 = .ok (.iconst 0, 1) := by decide +kernel
theorem dX5_begin_25 : decode cX5_begin 25 = .ok (.ireturn, 1) := by decide +kernel
theorem dX5_begin_26 : decode cX5_begin 26 = .ok (.aload_n 0, 1) := by decide +kernel
theorem dX5_begin_27 : decode cX5_begin 27 = .ok (.invokevirtual 128, 3) := by decide +kernel
theorem dX5_begin_30 : decode cX5_begin 30 = .ok (.aload_n 0, 1) := by decide +kernel
theorem dX5_begin_31 : decode cX5_begin 31 = .ok (.invokevirtual 115, 3) := by decide +kernel
theorem dX5_begin_34 : decode cX5_begin 34 = .ok (.aload_n 0, 1) := by decide +kernel
theorem dX5_begin_35 : decode cX5_begin 35 = .ok (.getfield 7, 3) := by decide +kernel
theorem dX5_begin_38 : decode cX5_begin 38 = .ok (.sipush 483, 3) := by decide +kernel
theorem dX5_begin_41 : decode cX5_begin 41 = .ok (.iaload, 1) := by decide +kernel
theorem dX5_begin_42 : decode cX5_begin 42 = .ok (.ireturn, 1) := by decide +kernel
set_option maxRecDepth 20000 in
theorem ggX5_abandon_X5_refused : GoodIn wsX5_abandon wsX5_refused := goodIn_r _ [6, 7, 21, 22, 23, 24, 25, 26, 27, 28, 29, 30, 31, 32, 33, 34, 35, 36, 37, 38, 39, 40, 41] (by decide +kernel) (by decide +kernel)
set_option maxRecDepth 20000 in
theorem gX5_abandon_X5_refused : GoodIn wsX5_abandon (wsV RX5 125 RX5 yX5_refused wsX5_refused) := goodIn_app (goodIn_of _ (by decide +kernel)) ggX5_abandon_X5_refused
set_option maxRecDepth 20000 in
theorem ggX5_abandon_X5_saveState : GoodIn wsX5_abandon wsX5_saveState := goodIn_r _ [11, 12, 13, 1, 14, 15, 5, 16, 21, 22, 23, 24, 25, 26, 27, 28, 29, 30, 31, 32, 33, 34, 35, 36, 37, 38, 39, 40, 41] (by decide +kernel) (by decide +kernel)
set_option maxRecDepth 20000 in
theorem gX5_abandon_X5_saveState : GoodIn wsX5_abandon (wsV RX5 128 RX5 yX5_saveState wsX5_saveState) := goodIn_app (goodIn_of _ (by decide +kernel)) ggX5_abandon_X5_saveState
set_option maxRecDepth 20000 in
theorem ggX5_abandon_X5_endNow : GoodIn wsX5_abandon wsX5_endNow := goodIn_r _ [20, 1, 21, 22, 23, 24, 25, 26, 27, 28, 29, 30, 31, 32, 33, 34, 35, 36, 37, 38, 39, 40, 41] (by decide +kernel) (by decide +kernel)
set_option maxRecDepth 20000 in
theorem gX5_abandon_X5_endNow : GoodIn wsX5_abandon (wsV RX5 102 RX5 yX5_endNow wsX5_endNow) := goodIn_app (goodIn_of _ (by decide +kernel)) ggX5_abandon_X5_endNow
theorem dX5_abandon_0 : decode cX5_abandon 0 = .ok (.aload_n 0, 1) := by decide +kernel
theorem dX5_abandon_1 : decode cX5_abandon 1 = .ok (.aload_n 0, 1) := by decide +kernel
theorem dX5_abandon_2 : decode cX5_abandon 2 = .ok (.getfield 7, 3) := by decide +kernel
theorem dX5_abandon_5 : decode cX5_abandon 5 = .ok (.sipush 482, 3) := by decide +kernel
theorem dX5_abandon_8 : decode cX5_abandon 8 = .ok (.iaload, 1) := by decide +kernel
theorem dX5_abandon_9 : decode cX5_abandon 9 = .ok (.ifCond .ne 7, 3) := by decide +kernel
theorem dX5_abandon_12 : decode cX5_abandon 12 = .ok (.iconst 1, 1) := by decide +kernel
theorem dX5_abandon_13 : decode cX5_abandon 13 = .ok (.goto 4, 3) := by decide +kernel
theorem dX5_abandon_16 : decode cX5_abandon 16 = .ok (.iconst 0, 1) := by decide +kernel
theorem dX5_abandon_17 : decode cX5_abandon 17 = .ok (.invokevirtual 125, 3) := by decide +kernel
theorem dX5_abandon_20 : decode cX5_abandon 20 = .ok (.ifCond .eq 5, 3) := by decide +kernel
theorem dX5_abandon_23 : decode cX5_abandon 23 = .ok (.iconst 0, 1) := by decide +kernel
theorem dX5_abandon_24 : decode cX5_abandon 24 = .ok (.ireturn, 1) := by decide +kernel
theorem dX5_abandon_25 : decode cX5_abandon 25 = .ok (.aload_n 0, 1) := by decide +kernel
theorem dX5_abandon_26 : decode cX5_abandon 26 = .ok (.invokevirtual 128, 3) := by decide +kernel
theorem dX5_abandon_29 : decode cX5_abandon 29 = .ok (.aload_n 0, 1) := by decide +kernel
theorem dX5_abandon_30 : decode cX5_abandon 30 = .ok (.getfield 7, 3) := by decide +kernel
theorem dX5_abandon_33 : decode cX5_abandon 33 = .ok (.sipush 484, 3) := by decide +kernel
theorem dX5_abandon_36 : decode cX5_abandon 36 = .ok (.iaload, 1) := by decide +kernel
theorem dX5_abandon_37 : decode cX5_abandon 37 = .ok (.istore_n 1, 1) := by decide +kernel
theorem dX5_abandon_38 : decode cX5_abandon 38 = .ok (.aload_n 0, 1) := by decide +kernel
theorem dX5_abandon_39 : decode cX5_abandon 39 = .ok (.invokevirtual 102, 3) := by decide +kernel
theorem dX5_abandon_42 : decode cX5_abandon 42 = .ok (.aload_n 0, 1) := by decide +kernel
theorem dX5_abandon_43 : decode cX5_abandon 43 = .ok (.getfield 7, 3) := by decide +kernel
theorem dX5_abandon_46 : decode cX5_abandon 46 = .ok (.sipush 645, 3) := by decide +kernel
theorem dX5_abandon_49 : decode cX5_abandon 49 = .ok (.dup2, 1) := by decide +kernel
theorem dX5_abandon_50 : decode cX5_abandon 50 = .ok (.iaload, 1) := by decide +kernel
theorem dX5_abandon_51 : decode cX5_abandon 51 = .ok (.iconst 1, 1) := by decide +kernel
theorem dX5_abandon_52 : decode cX5_abandon 52 = .ok (.iadd, 1) := by decide +kernel
theorem dX5_abandon_53 : decode cX5_abandon 53 = .ok (.iastore, 1) := by decide +kernel
theorem dX5_abandon_54 : decode cX5_abandon 54 = .ok (.iload_n 1, 1) := by decide +kernel
theorem dX5_abandon_55 : decode cX5_abandon 55 = .ok (.ireturn, 1) := by decide +kernel
set_option maxRecDepth 20000 in
theorem ggX5_isValue_X5_in : GoodIn wsX5_isValue wsX5_in := goodIn_r _ [4] (by decide +kernel) (by decide +kernel)
set_option maxRecDepth 20000 in
theorem gX5_isValue_X5_in : GoodIn wsX5_isValue (va_wsS RX5 51 yX5_in wsX5_in) := goodIn_app (goodIn_of _ (by decide +kernel)) ggX5_isValue_X5_in
theorem dX5_isValue_0 : decode cX5_isValue 0 = .ok (.iload_n 0, 1) := by decide +kernel
theorem dX5_isValue_1 : decode cX5_isValue 1 = .ok (.ifCond .ne 14, 3) := by decide +kernel
theorem dX5_isValue_4 : decode cX5_isValue 4 = .ok (.iload_n 1, 1) := by decide +kernel
theorem dX5_isValue_5 : decode cX5_isValue 5 = .ok (.bipush 10, 2) := by decide +kernel
theorem dX5_isValue_7 : decode cX5_isValue 7 = .ok (.bipush 100, 2) := by decide +kernel
theorem dX5_isValue_9 : decode cX5_isValue 9 = .ok (.invokestatic 51, 3) := by decide +kernel
theorem dX5_isValue_12 : decode cX5_isValue 12 = .ok (.goto 25, 3) := by decide +kernel
theorem dX5_isValue_15 : decode cX5_isValue 15 = .ok (.iload_n 0, 1) := by decide +kernel
theorem dX5_isValue_16 : decode cX5_isValue 16 = .ok (.iconst 1, 1) := by decide +kernel
theorem dX5_isValue_17 : decode cX5_isValue 17 = .ok (.if_icmp .ne 13, 3) := by decide +kernel
theorem dX5_isValue_20 : decode cX5_isValue 20 = .ok (.iload_n 1, 1) := by decide +kernel
theorem dX5_isValue_21 : decode cX5_isValue 21 = .ok (.iconst 3, 1) := by decide +kernel
theorem dX5_isValue_22 : decode cX5_isValue 22 = .ok (.bipush 40, 2) := by decide +kernel
theorem dX5_isValue_24 : decode cX5_isValue 24 = .ok (.invokestatic 51, 3) := by decide +kernel
theorem dX5_isValue_27 : decode cX5_isValue 27 = .ok (.goto 10, 3) := by decide +kernel
theorem dX5_isValue_30 : decode cX5_isValue 30 = .ok (.iload_n 1, 1) := by decide +kernel
theorem dX5_isValue_31 : decode cX5_isValue 31 = .ok (.iconst 1, 1) := by decide +kernel
theorem dX5_isValue_32 : decode cX5_isValue 32 = .ok (.bipush 8, 2) := by decide +kernel
theorem dX5_isValue_34 : decode cX5_isValue 34 = .ok (.invokestatic 51, 3) := by decide +kernel
theorem dX5_isValue_37 : decode cX5_isValue 37 = .ok (.ireturn, 1) := by decide +kernel
set_option maxRecDepth 20000 in
theorem ggX5_set_X5_in : GoodIn wsX5_set wsX5_in := goodIn_r _ [5] (by decide +kernel) (by decide +kernel)
set_option maxRecDepth 20000 in
theorem gX5_set_X5_in : GoodIn wsX5_set (va_wsS RX5 51 yX5_in wsX5_in) := goodIn_app (goodIn_of _ (by decide +kernel)) ggX5_set_X5_in
set_option maxRecDepth 20000 in
theorem ggX5_set_X5_isValue : GoodIn wsX5_set wsX5_isValue := goodIn_r _ [8, 2, 3, 4, 5] (by decide +kernel) (by decide +kernel)
set_option maxRecDepth 20000 in
theorem gX5_set_X5_isValue : GoodIn wsX5_set (va_wsS RX5 134 yX5_isValue wsX5_isValue) := goodIn_app (goodIn_of _ (by decide +kernel)) ggX5_set_X5_isValue
set_option maxRecDepth 20000 in
theorem ggX5_set_X5_refused : GoodIn wsX5_set wsX5_refused := goodIn_r _ [12, 13, 23, 24, 25, 26, 27, 28, 29, 30, 31, 32, 33, 34, 35, 36, 37, 38, 39, 40, 41, 42, 43] (by decide +kernel) (by decide +kernel)
set_option maxRecDepth 20000 in
theorem gX5_set_X5_refused : GoodIn wsX5_set (wsV RX5 125 RX5 yX5_refused wsX5_refused) := goodIn_app (goodIn_of _ (by decide +kernel)) ggX5_set_X5_refused
set_option maxRecDepth 20000 in
theorem ggX5_set_X5_saveState : GoodIn wsX5_set wsX5_saveState := goodIn_r _ [17, 18, 19, 1, 20, 21, 4, 22, 23, 24, 25, 26, 27, 28, 29, 30, 31, 32, 33, 34, 35, 36, 37, 38, 39, 40, 41, 42, 43] (by decide +kernel) (by decide +kernel)
set_option maxRecDepth 20000 in
theorem gX5_set_X5_saveState : GoodIn wsX5_set (wsV RX5 128 RX5 yX5_saveState wsX5_saveState) := goodIn_app (goodIn_of _ (by decide +kernel)) ggX5_set_X5_saveState
theorem dX5_set_0 : decode cX5_set 0 = .ok (.aload_n 0, 1) := by decide +kernel
theorem dX5_set_1 : decode cX5_set 1 = .ok (.iload_n 1, 1) := by decide +kernel
theorem dX5_set_2 : decode cX5_set 2 = .ok (.iconst 0, 1) := by decide +kernel
theorem dX5_set_3 : decode cX5_set 3 = .ok (.iconst 2, 1) := by decide +kernel
theorem dX5_set_4 : decode cX5_set 4 = .ok (.invokestatic 51, 3) := by decide +kernel
theorem dX5_set_7 : decode cX5_set 7 = .ok (.ifCond .ne 7, 3) := by decide +kernel
theorem dX5_set_10 : decode cX5_set 10 = .ok (.iconst 1, 1) := by decide +kernel
theorem dX5_set_11 : decode cX5_set 11 = .ok (.goto 16, 3) := by decide +kernel
theorem dX5_set_14 : decode cX5_set 14 = .ok (.iload_n 1, 1) := by decide +kernel
theorem dX5_set_15 : decode cX5_set 15 = .ok (.iload_n 2, 1) := by decide +kernel
theorem dX5_set_16 : decode cX5_set 16 = .ok (.invokestatic 134, 3) := by decide +kernel
theorem dX5_set_19 : decode cX5_set 19 = .ok (.ifCond .eq 7, 3) := by decide +kernel
theorem dX5_set_22 : decode cX5_set 22 = .ok (.iconst 0, 1) := by decide +kernel
theorem dX5_set_23 : decode cX5_set 23 = .ok (.goto 4, 3) := by decide +kernel
theorem dX5_set_26 : decode cX5_set 26 = .ok (.iconst 2, 1) := by decide +kernel
theorem dX5_set_27 : decode cX5_set 27 = .ok (.invokevirtual 125, 3) := by decide +kernel
theorem dX5_set_30 : decode cX5_set 30 = .ok (.ifCond .eq 5, 3) := by decide +kernel
theorem dX5_set_33 : decode cX5_set 33 = .ok (.iconst 0, 1) := by decide +kernel
theorem dX5_set_34 : decode cX5_set 34 = .ok (.ireturn, 1) := by decide +kernel
theorem dX5_set_35 : decode cX5_set 35 = .ok (.aload_n 0, 1) := by decide +kernel
theorem dX5_set_36 : decode cX5_set 36 = .ok (.invokevirtual 128, 3) := by decide +kernel
theorem dX5_set_39 : decode cX5_set 39 = .ok (.aload_n 0, 1) := by decide +kernel
theorem dX5_set_40 : decode cX5_set 40 = .ok (.getfield 7, 3) := by decide +kernel
theorem dX5_set_43 : decode cX5_set 43 = .ok (.sipush 636, 3) := by decide +kernel
theorem dX5_set_46 : decode cX5_set 46 = .ok (.iload_n 1, 1) := by decide +kernel
theorem dX5_set_47 : decode cX5_set 47 = .ok (.iadd, 1) := by decide +kernel
theorem dX5_set_48 : decode cX5_set 48 = .ok (.iaload, 1) := by decide +kernel
theorem dX5_set_49 : decode cX5_set 49 = .ok (.istore_n 3, 1) := by decide +kernel
theorem dX5_set_50 : decode cX5_set 50 = .ok (.aload_n 0, 1) := by decide +kernel
theorem dX5_set_51 : decode cX5_set 51 = .ok (.getfield 7, 3) := by decide +kernel
theorem dX5_set_54 : decode cX5_set 54 = .ok (.sipush 636, 3) := by decide +kernel
theorem dX5_set_57 : decode cX5_set 57 = .ok (.iload_n 1, 1) := by decide +kernel
theorem dX5_set_58 : decode cX5_set 58 = .ok (.iadd, 1) := by decide +kernel
theorem dX5_set_59 : decode cX5_set 59 = .ok (.iload_n 2, 1) := by decide +kernel
theorem dX5_set_60 : decode cX5_set 60 = .ok (.iastore, 1) := by decide +kernel
theorem dX5_set_61 : decode cX5_set 61 = .ok (.iload_n 3, 1) := by decide +kernel
theorem dX5_set_62 : decode cX5_set 62 = .ok (.ireturn, 1) := by decide +kernel
set_option maxRecDepth 20000 in
theorem ggX5_append_X5_in : GoodIn wsX5_append wsX5_in := goodIn_r _ [6] (by decide +kernel) (by decide +kernel)
set_option maxRecDepth 20000 in
theorem gX5_append_X5_in : GoodIn wsX5_append (va_wsS RX5 51 yX5_in wsX5_in) := goodIn_app (goodIn_of _ (by decide +kernel)) ggX5_append_X5_in
set_option maxRecDepth 20000 in
theorem ggX5_append_X5_refused : GoodIn wsX5_append wsX5_refused := goodIn_r _ [10, 11, 12, 13, 14, 15, 16, 17, 18, 19, 20, 21, 22, 23, 24, 25, 26, 27, 28, 29, 30, 31, 32] (by decide +kernel) (by decide +kernel)
set_option maxRecDepth 20000 in
theorem gX5_append_X5_refused : GoodIn wsX5_append (wsV RX5 125 RX5 yX5_refused wsX5_refused) := goodIn_app (goodIn_of _ (by decide +kernel)) ggX5_append_X5_refused
theorem dX5_append_0 : decode cX5_append 0 = .ok (.aload_n 0, 1) := by decide +kernel
theorem dX5_append_1 : decode cX5_append 1 = .ok (.iload_n 1, 1) := by decide +kernel
theorem dX5_append_2 : decode cX5_append 2 = .ok (.bipush 33, 2) := by decide +kernel
theorem dX5_append_4 : decode cX5_append 4 = .ok (.bipush 126, 2) := by decide +kernel
theorem dX5_append_6 : decode cX5_append 6 = .ok (.invokestatic 51, 3) := by decide +kernel
theorem dX5_append_9 : decode cX5_append 9 = .ok (.ifCond .ne 7, 3) := by decide +kernel
theorem dX5_append_12 : decode cX5_append 12 = .ok (.iconst 1, 1) := by decide +kernel
theorem dX5_append_13 : decode cX5_append 13 = .ok (.goto 17, 3) := by decide +kernel
theorem dX5_append_16 : decode cX5_append 16 = .ok (.aload_n 0, 1) := by decide +kernel
theorem dX5_append_17 : decode cX5_append 17 = .ok (.getfield 137, 3) := by decide +kernel
theorem dX5_append_20 : decode cX5_append 20 = .ok (.bipush 60, 2) := by decide +kernel
theorem dX5_append_22 : decode cX5_append 22 = .ok (.if_icmp .ne 7, 3) := by decide +kernel
theorem dX5_append_25 : decode cX5_append 25 = .ok (.iconst 2, 1) := by decide +kernel
theorem dX5_append_26 : decode cX5_append 26 = .ok (.goto 4, 3) := by decide +kernel
theorem dX5_append_29 : decode cX5_append 29 = .ok (.iconst 0, 1) := by decide +kernel
theorem dX5_append_30 : decode cX5_append 30 = .ok (.invokevirtual 125, 3) := by decide +kernel
theorem dX5_append_33 : decode cX5_append 33 = .ok (.ifCond .eq 5, 3) := by decide +kernel
theorem dX5_append_36 : decode cX5_append 36 = .ok (.iconst 0, 1) := by decide +kernel
theorem dX5_append_37 : decode cX5_append 37 = .ok (.ireturn, 1) := by decide +kernel
theorem dX5_append_38 : decode cX5_append 38 = .ok (.aload_n 0, 1) := by decide +kernel
theorem dX5_append_39 : decode cX5_append 39 = .ok (.getfield 26, 3) := by decide +kernel
theorem dX5_append_42 : decode cX5_append 42 = .ok (.aload_n 0, 1) := by decide +kernel
theorem dX5_append_43 : decode cX5_append 43 = .ok (.getfield 137, 3) := by decide +kernel
theorem dX5_append_46 : decode cX5_append 46 = .ok (.iload_n 1, 1) := by decide +kernel
theorem dX5_append_47 : decode cX5_append 47 = .ok (.iastore, 1) := by decide +kernel
theorem dX5_append_48 : decode cX5_append 48 = .ok (.aload_n 0, 1) := by decide +kernel
theorem dX5_append_49 : decode cX5_append 49 = .ok (.dup, 1) := by decide +kernel
theorem dX5_append_50 : decode cX5_append 50 = .ok (.getfield 137, 3) := by decide +kernel
theorem dX5_append_53 : decode cX5_append 53 = .ok (.iconst 1, 1) := by decide +kernel
theorem dX5_append_54 : decode cX5_append 54 = .ok (.iadd, 1) := by decide +kernel
theorem dX5_append_55 : decode cX5_append 55 = .ok (.putfield 137, 3) := by decide +kernel
theorem dX5_append_58 : decode cX5_append 58 = .ok (.aload_n 0, 1) := by decide +kernel
theorem dX5_append_59 : decode cX5_append 59 = .ok (.getfield 137, 3) := by decide +kernel
theorem dX5_append_62 : decode cX5_append 62 = .ok (.ireturn, 1) := by decide +kernel
theorem dX5_clearBuffer_0 : decode cX5_clearBuffer 0 = .ok (.aload_n 0, 1) := by decide +kernel
theorem dX5_clearBuffer_1 : decode cX5_clearBuffer 1 = .ok (.iconst 0, 1) := by decide +kernel
theorem dX5_clearBuffer_2 : decode cX5_clearBuffer 2 = .ok (.putfield 47, 3) := by decide +kernel
theorem dX5_clearBuffer_5 : decode cX5_clearBuffer 5 = .ok (.aload_n 0, 1) := by decide +kernel
theorem dX5_clearBuffer_6 : decode cX5_clearBuffer 6 = .ok (.getfield 137, 3) := by decide +kernel
theorem dX5_clearBuffer_9 : decode cX5_clearBuffer 9 = .ok (.istore_n 1, 1) := by decide +kernel
theorem dX5_clearBuffer_10 : decode cX5_clearBuffer 10 = .ok (.aload_n 0, 1) := by decide +kernel
theorem dX5_clearBuffer_11 : decode cX5_clearBuffer 11 = .ok (.iconst 0, 1) := by decide +kernel
theorem dX5_clearBuffer_12 : decode cX5_clearBuffer 12 = .ok (.putfield 137, 3) := by decide +kernel
theorem dX5_clearBuffer_15 : decode cX5_clearBuffer 15 = .ok (.iload_n 1, 1) := by decide +kernel
theorem dX5_clearBuffer_16 : decode cX5_clearBuffer 16 = .ok (.ireturn, 1) := by decide +kernel
set_option maxRecDepth 20000 in
theorem ggX5_sees_X5_in : GoodIn wsX5_sees wsX5_in := goodIn_r _ [7] (by decide +kernel) (by decide +kernel)
set_option maxRecDepth 20000 in
theorem gX5_sees_X5_in : GoodIn wsX5_sees (va_wsS RX5 51 yX5_in wsX5_in) := goodIn_app (goodIn_of _ (by decide +kernel)) ggX5_sees_X5_in
theorem dX5_sees_0 : decode cX5_sees 0 = .ok (.aload_n 0, 1) := by decide +kernel
theorem dX5_sees_1 : decode cX5_sees 1 = .ok (.getfield 140, 3) := by decide +kernel
theorem dX5_sees_4 : decode cX5_sees 4 = .ok (.aload_n 0, 1) := by decide +kernel
theorem dX5_sees_5 : decode cX5_sees 5 = .ok (.getfield 137, 3) := by decide +kernel
theorem dX5_sees_8 : decode cX5_sees 8 = .ok (.if_icmp .ge 24, 3) := by decide +kernel
theorem dX5_sees_11 : decode cX5_sees 11 = .ok (.aload_n 0, 1) := by decide +kernel
theorem dX5_sees_12 : decode cX5_sees 12 = .ok (.getfield 26, 3) := by decide +kernel
theorem dX5_sees_15 : decode cX5_sees 15 = .ok (.aload_n 0, 1) := by decide +kernel
theorem dX5_sees_16 : decode cX5_sees 16 = .ok (.getfield 140, 3) := by decide +kernel
theorem dX5_sees_19 : decode cX5_sees 19 = .ok (.iaload, 1) := by decide +kernel
theorem dX5_sees_20 : decode cX5_sees 20 = .ok (.iload_n 1, 1) := by decide +kernel
theorem dX5_sees_21 : decode cX5_sees 21 = .ok (.iload_n 2, 1) := by decide +kernel
theorem dX5_sees_22 : decode cX5_sees 22 = .ok (.invokestatic 51, 3) := by decide +kernel
theorem dX5_sees_25 : decode cX5_sees 25 = .ok (.ifCond .eq 7, 3) := by decide +kernel
theorem dX5_sees_28 : decode cX5_sees 28 = .ok (.iconst 1, 1) := by decide +kernel
theorem dX5_sees_29 : decode cX5_sees 29 = .ok (.goto 4, 3) := by decide +kernel
theorem dX5_sees_32 : decode cX5_sees 32 = .ok (.iconst 0, 1) := by decide +kernel
theorem dX5_sees_33 : decode cX5_sees 33 = .ok (.ireturn, 1) := by decide +kernel
set_option maxRecDepth 20000 in
theorem ggX5_takes_X5_sees : GoodIn wsX5_takes wsX5_sees := goodIn_r _ [6, 1, 7, 8, 9, 10, 5, 11, 12, 13, 14, 15, 16, 17, 18, 19, 20, 21, 22, 23, 24, 25, 26, 27, 28, 29, 30, 31, 32] (by decide +kernel) (by decide +kernel)
set_option maxRecDepth 20000 in
theorem gX5_takes_X5_sees : GoodIn wsX5_takes (wsV RX5 143 RX5 yX5_sees wsX5_sees) := goodIn_app (goodIn_of _ (by decide +kernel)) ggX5_takes_X5_sees
theorem dX5_takes_0 : decode cX5_takes 0 = .ok (.aload_n 0, 1) := by decide +kernel
theorem dX5_takes_1 : decode cX5_takes 1 = .ok (.iload_n 1, 1) := by decide +kernel
theorem dX5_takes_2 : decode cX5_takes 2 = .ok (.iload_n 1, 1) := by decide +kernel
theorem dX5_takes_3 : decode cX5_takes 3 = .ok (.invokevirtual 143, 3) := by decide +kernel
theorem dX5_takes_6 : decode cX5_takes 6 = .ok (.istore_n 2, 1) := by decide +kernel
theorem dX5_takes_7 : decode cX5_takes 7 = .ok (.aload_n 0, 1) := by decide +kernel
theorem dX5_takes_8 : decode cX5_takes 8 = .ok (.dup, 1) := by decide +kernel
theorem dX5_takes_9 : decode cX5_takes 9 = .ok (.getfield 140, 3) := by decide +kernel
theorem dX5_takes_12 : decode cX5_takes 12 = .ok (.iload_n 2, 1) := by decide +kernel
theorem dX5_takes_13 : decode cX5_takes 13 = .ok (.ifCond .eq 7, 3) := by decide +kernel
theorem dX5_takes_16 : decode cX5_takes 16 = .ok (.iconst 1, 1) := by decide +kernel
theorem dX5_takes_17 : decode cX5_takes 17 = .ok (.goto 4, 3) := by decide +kernel
theorem dX5_takes_20 : decode cX5_takes 20 = .ok (.iconst 0, 1) := by decide +kernel
theorem dX5_takes_21 : decode cX5_takes 21 = .ok (.iadd, 1) := by decide +kernel
theorem dX5_takes_22 : decode cX5_takes 22 = .ok (.putfield 140, 3) := by decide +kernel
theorem dX5_takes_25 : decode cX5_takes 25 = .ok (.iload_n 2, 1) := by decide +kernel
theorem dX5_takes_26 : decode cX5_takes 26 = .ok (.ireturn, 1) := by decide +kernel
set_option maxRecDepth 20000 in
theorem ggX5_readKey_X5_sees : GoodIn wsX5_readKey wsX5_sees := goodIn_r _ [7, 2, 8, 1, 9, 10, 6, 11, 12, 13, 14, 15, 16, 17, 18, 19, 20, 21, 22, 23, 24, 25, 26, 27, 28, 29, 30, 31, 32] (by decide +kernel) (by decide +kernel)
set_option maxRecDepth 20000 in
theorem gX5_readKey_X5_sees : GoodIn wsX5_readKey (wsV RX5 143 RX5 yX5_sees wsX5_sees) := goodIn_app (goodIn_of _ (by decide +kernel)) ggX5_readKey_X5_sees
theorem dX5_readKey_0 : decode cX5_readKey 0 = .ok (.iconst (-1), 1) := by decide +kernel
theorem dX5_readKey_1 : decode cX5_readKey 1 = .ok (.istore_n 1, 1) := by decide +kernel
theorem dX5_readKey_2 : decode cX5_readKey 2 = .ok (.aload_n 0, 1) := by decide +kernel
theorem dX5_readKey_3 : decode cX5_readKey 3 = .ok (.bipush 48, 2) := by decide +kernel
theorem dX5_readKey_5 : decode cX5_readKey 5 = .ok (.bipush 57, 2) := by decide +kernel
theorem dX5_readKey_7 : decode cX5_readKey 7 = .ok (.invokevirtual 143, 3) := by decide +kernel
theorem dX5_readKey_10 : decode cX5_readKey 10 = .ok (.ifCond .eq 86, 3) := by decide +kernel
theorem dX5_readKey_13 : decode cX5_readKey 13 = .ok (.iload_n 1, 1) := by decide +kernel
theorem dX5_readKey_14 : decode cX5_readKey 14 = .ok (.iconst (-1), 1) := by decide +kernel
theorem dX5_readKey_15 : decode cX5_readKey 15 = .ok (.if_icmp .eq 30, 3) := by decide +kernel
theorem dX5_readKey_18 : decode cX5_readKey 18 = .ok (.iload_n 1, 1) := by decide +kernel
theorem dX5_readKey_19 : decode cX5_readKey 19 = .ok (.ifCond .le 77, 3) := by decide +kernel
theorem dX5_readKey_22 : decode cX5_readKey 22 = .ok (.bipush 10, 2) := by decide +kernel
theorem dX5_readKey_24 : decode cX5_readKey 24 = .ok (.iload_n 1, 1) := by decide +kernel
theorem dX5_readKey_25 : decode cX5_readKey 25 = .ok (.imul, 1) := by decide +kernel
theorem dX5_readKey_26 : decode cX5_readKey 26 = .ok (.aload_n 0, 1) := by decide +kernel
theorem dX5_readKey_27 : decode cX5_readKey 27 = .ok (.getfield 26, 3) := by decide +kernel
theorem dX5_readKey_30 : decode cX5_readKey 30 = .ok (.aload_n 0, 1) := by decide +kernel
theorem dX5_readKey_31 : decode cX5_readKey 31 = .ok (.getfield 140, 3) := by decide +kernel
theorem dX5_readKey_34 : decode cX5_readKey 34 = .ok (.iaload, 1) := by decide +kernel
theorem dX5_readKey_35 : decode cX5_readKey 35 = .ok (.iadd, 1) := by decide +kernel
theorem dX5_readKey_36 : decode cX5_readKey 36 = .ok (.bipush 48, 2) := by decide +kernel
theorem dX5_readKey_38 : decode cX5_readKey 38 = .ok (.isub, 1) := by decide +kernel
theorem dX5_readKey_39 : decode cX5_readKey 39 = .ok (.sipush 500, 3) := by decide +kernel
theorem dX5_readKey_42 : decode cX5_readKey 42 = .ok (.if_icmp .ge 54, 3) := by decide +kernel
theorem dX5_readKey_45 : decode cX5_readKey 45 = .ok (.iload_n 1, 1) := by decide +kernel
theorem dX5_readKey_46 : decode cX5_readKey 46 = .ok (.iconst (-1), 1) := by decide +kernel
theorem dX5_readKey_47 : decode cX5_readKey 47 = .ok (.if_icmp .ne 18, 3) := by decide +kernel
theorem dX5_readKey_50 : decode cX5_readKey 50 = .ok (.aload_n 0, 1) := by decide +kernel
theorem dX5_readKey_51 : decode cX5_readKey 51 = .ok (.getfield 26, 3) := by decide +kernel
theorem dX5_readKey_54 : decode cX5_readKey 54 = .ok (.aload_n 0, 1) := by decide +kernel
theorem dX5_readKey_55 : decode cX5_readKey 55 = .ok (.getfield 140, 3) := by decide +kernel
theorem dX5_readKey_58 : decode cX5_readKey 58 = .ok (.iaload, 1) := by decide +kernel
theorem dX5_readKey_59 : decode cX5_readKey 59 = .ok (.bipush 48, 2) := by decide +kernel
theorem dX5_readKey_61 : decode cX5_readKey 61 = .ok (.isub, 1) := by decide +kernel
theorem dX5_readKey_62 : decode cX5_readKey 62 = .ok (.goto 20, 3) := by decide +kernel
theorem dX5_readKey_65 : decode cX5_readKey 65 = .ok (.bipush 10, 2) := by decide +kernel
theorem dX5_readKey_67 : decode cX5_readKey 67 = .ok (.iload_n 1, 1) := by decide +kernel
theorem dX5_readKey_68 : decode cX5_readKey 68 = .ok (.imul, 1) := by decide +kernel
theorem dX5_readKey_69 : decode cX5_readKey 69 = .ok (.aload_n 0, 1) := by decide +kernel
theorem dX5_readKey_70 : decode cX5_readKey 70 = .ok (.getfield 26, 3) := by decide +kernel
theorem dX5_readKey_73 : decode cX5_readKey 73 = .ok (.aload_n 0, 1) := by decide +kernel
theorem dX5_readKey_74 : decode cX5_readKey 74 = .ok (.getfield 140, 3) := by decide +kernel
theorem dX5_readKey_77 : decode cX5_readKey 77 = .ok (.iaload, 1) := by decide +kernel
theorem dX5_readKey_78 : decode cX5_readKey 78 = .ok (.iadd, 1) := by decide +kernel
theorem dX5_readKey_79 : decode cX5_readKey 79 = .ok (.bipush 48, 2) := by decide +kernel
theorem dX5_readKey_81 : decode cX5_readKey 81 = .ok (.isub, 1) := by decide +kernel
theorem dX5_readKey_82 : decode cX5_readKey 82 = .ok (.istore_n 1, 1) := by decide +kernel
theorem dX5_readKey_83 : decode cX5_readKey 83 = .ok (.aload_n 0, 1) := by decide +kernel
theorem dX5_readKey_84 : decode cX5_readKey 84 = .ok (.dup, 1) := by decide +kernel
theorem dX5_readKey_85 : decode cX5_readKey 85 = .ok (.getfield 140, 3) := by decide +kernel
theorem dX5_readKey_88 : decode cX5_readKey 88 = .ok (.iconst 1, 1) := by decide +kernel
theorem dX5_readKey_89 : decode cX5_readKey 89 = .ok (.iadd, 1) := by decide +kernel
theorem dX5_readKey_90 : decode cX5_readKey 90 = .ok (.putfield 140, 3) := by decide +kernel
theorem dX5_readKey_93 : decode cX5_readKey 93 = .ok (.goto (-91), 3) := by decide +kernel
theorem dX5_readKey_96 : decode cX5_readKey 96 = .ok (.iload_n 1, 1) := by decide +kernel
theorem dX5_readKey_97 : decode cX5_readKey 97 = .ok (.ireturn, 1) := by decide +kernel
set_option maxRecDepth 20000 in
theorem ggX5_readAct_X5_takes : GoodIn wsX5_readAct wsX5_takes := goodIn_r _ [8, 9, 10, 11, 12, 7, 13, 14, 15, 16, 17, 18, 23, 24, 25, 26, 27, 28, 29, 30, 31, 32, 33, 34, 35, 36, 37, 38, 39, 40, 41, 42, 43] (by decide +kernel) (by decide +kernel)
set_option maxRecDepth 20000 in
theorem gX5_readAct_X5_takes : GoodIn wsX5_readAct (wsV RX5 146 RX5 yX5_takes wsX5_takes) := goodIn_app (goodIn_of _ (by decide +kernel)) ggX5_readAct_X5_takes
set_option maxRecDepth 20000 in
theorem ggX5_readAct_X5_readKey : GoodIn wsX5_readAct wsX5_readKey := goodIn_r _ [22, 15, 9, 10, 11, 12, 7, 13, 14, 16, 17, 18, 23, 24, 25, 26, 27, 28, 29, 30, 31, 32, 33, 34, 35, 36, 37, 38, 39, 40, 41, 42, 43] (by decide +kernel) (by decide +kernel)
set_option maxRecDepth 20000 in
theorem gX5_readAct_X5_readKey : GoodIn wsX5_readAct (wsV RX5 149 RX5 yX5_readKey wsX5_readKey) := goodIn_app (goodIn_of _ (by decide +kernel)) ggX5_readAct_X5_readKey
theorem dX5_readAct_0 : decode cX5_readAct 0 = .ok (.aload_n 0, 1) := by decide +kernel
theorem dX5_readAct_1 : decode cX5_readAct 1 = .ok (.bipush 43, 2) := by decide +kernel
theorem dX5_readAct_3 : decode cX5_readAct 3 = .ok (.invokevirtual 146, 3) := by decide +kernel
theorem dX5_readAct_6 : decode cX5_readAct 6 = .ok (.istore_n 1, 1) := by decide +kernel
theorem dX5_readAct_7 : decode cX5_readAct 7 = .ok (.iload_n 1, 1) := by decide +kernel
theorem dX5_readAct_8 : decode cX5_readAct 8 = .ok (.ifCond .ne 16, 3) := by decide +kernel
theorem dX5_readAct_11 : decode cX5_readAct 11 = .ok (.aload_n 0, 1) := by decide +kernel
theorem dX5_readAct_12 : decode cX5_readAct 12 = .ok (.bipush 45, 2) := by decide +kernel
theorem dX5_readAct_14 : decode cX5_readAct 14 = .ok (.invokevirtual 146, 3) := by decide +kernel
theorem dX5_readAct_17 : decode cX5_readAct 17 = .ok (.ifCond .eq 7, 3) := by decide +kernel
theorem dX5_readAct_20 : decode cX5_readAct 20 = .ok (.iconst 1, 1) := by decide +kernel
theorem dX5_readAct_21 : decode cX5_readAct 21 = .ok (.goto 4, 3) := by decide +kernel
theorem dX5_readAct_24 : decode cX5_readAct 24 = .ok (.iconst 0, 1) := by decide +kernel
theorem dX5_readAct_25 : decode cX5_readAct 25 = .ok (.istore_n 2, 1) := by decide +kernel
theorem dX5_readAct_26 : decode cX5_readAct 26 = .ok (.iload_n 1, 1) := by decide +kernel
theorem dX5_readAct_27 : decode cX5_readAct 27 = .ok (.ifCond .ne 20, 3) := by decide +kernel
theorem dX5_readAct_30 : decode cX5_readAct 30 = .ok (.iload_n 2, 1) := by decide +kernel
theorem dX5_readAct_31 : decode cX5_readAct 31 = .ok (.ifCond .ne 16, 3) := by decide +kernel
theorem dX5_readAct_34 : decode cX5_readAct 34 = .ok (.aload_n 0, 1) := by decide +kernel
theorem dX5_readAct_35 : decode cX5_readAct 35 = .ok (.bipush 46, 2) := by decide +kernel
theorem dX5_readAct_37 : decode cX5_readAct 37 = .ok (.invokevirtual 146, 3) := by decide +kernel
theorem dX5_readAct_40 : decode cX5_readAct 40 = .ok (.ifCond .eq 7, 3) := by decide +kernel
theorem dX5_readAct_43 : decode cX5_readAct 43 = .ok (.iconst 1, 1) := by decide +kernel
theorem dX5_readAct_44 : decode cX5_readAct 44 = .ok (.goto 4, 3) := by decide +kernel
theorem dX5_readAct_47 : decode cX5_readAct 47 = .ok (.iconst 0, 1) := by decide +kernel
theorem dX5_readAct_48 : decode cX5_readAct 48 = .ok (.istore_n 3, 1) := by decide +kernel
theorem dX5_readAct_49 : decode cX5_readAct 49 = .ok (.iload_n 1, 1) := by decide +kernel
theorem dX5_readAct_50 : decode cX5_readAct 50 = .ok (.ifCond .ne 13, 3) := by decide +kernel
theorem dX5_readAct_53 : decode cX5_readAct 53 = .ok (.iload_n 2, 1) := by decide +kernel
theorem dX5_readAct_54 : decode cX5_readAct 54 = .ok (.ifCond .ne 9, 3) := by decide +kernel
theorem dX5_readAct_57 : decode cX5_readAct 57 = .ok (.iload_n 3, 1) := by decide +kernel
theorem dX5_readAct_58 : decode cX5_readAct 58 = .ok (.ifCond .ne 5, 3) := by decide +kernel
theorem dX5_readAct_61 : decode cX5_readAct 61 = .ok (.iconst 0, 1) := by decide +kernel
theorem dX5_readAct_62 : decode cX5_readAct 62 = .ok (.ireturn, 1) := by decide +kernel
theorem dX5_readAct_63 : decode cX5_readAct 63 = .ok (.iload_n 3, 1) := by decide +kernel
theorem dX5_readAct_64 : decode cX5_readAct 64 = .ok (.ifCond .eq 7, 3) := by decide +kernel
theorem dX5_readAct_67 : decode cX5_readAct 67 = .ok (.iconst 0, 1) := by decide +kernel
theorem dX5_readAct_68 : decode cX5_readAct 68 = .ok (.goto 7, 3) := by decide +kernel
theorem dX5_readAct_71 : decode cX5_readAct 71 = .ok (.aload_n 0, 1) := by decide +kernel
theorem dX5_readAct_72 : decode cX5_readAct 72 = .ok (.invokevirtual 149, 3) := by decide +kernel
theorem dX5_readAct_75 : decode cX5_readAct 75 = .ok (.istore 4, 2) := by decide +kernel
theorem dX5_readAct_77 : decode cX5_readAct 77 = .ok (.iload 4, 2) := by decide +kernel
theorem dX5_readAct_79 : decode cX5_readAct 79 = .ok (.iconst (-1), 1) := by decide +kernel
theorem dX5_readAct_80 : decode cX5_readAct 80 = .ok (.if_icmp .ne 5, 3) := by decide +kernel
theorem dX5_readAct_83 : decode cX5_readAct 83 = .ok (.iconst 0, 1) := by decide +kernel
theorem dX5_readAct_84 : decode cX5_readAct 84 = .ok (.ireturn, 1) := by decide +kernel
theorem dX5_readAct_85 : decode cX5_readAct 85 = .ok (.aload_n 0, 1) := by decide +kernel
theorem dX5_readAct_86 : decode cX5_readAct 86 = .ok (.getfield 41, 3) := by decide +kernel
theorem dX5_readAct_89 : decode cX5_readAct 89 = .ok (.aload_n 0, 1) := by decide +kernel
theorem dX5_readAct_90 : decode cX5_readAct 90 = .ok (.getfield 152, 3) := by decide +kernel
theorem dX5_readAct_93 : decode cX5_readAct 93 = .ok (.iload_n 1, 1) := by decide +kernel
theorem dX5_readAct_94 : decode cX5_readAct 94 = .ok (.ifCond .eq 7, 3) := by decide +kernel
theorem dX5_readAct_97 : decode cX5_readAct 97 = .ok (.iconst 0, 1) := by decide +kernel
theorem dX5_readAct_98 : decode cX5_readAct 98 = .ok (.goto 12, 3) := by decide +kernel
theorem dX5_readAct_101 : decode cX5_readAct 101 = .ok (.iload_n 2, 1) := by decide +kernel
theorem dX5_readAct_102 : decode cX5_readAct 102 = .ok (.ifCond .eq 7, 3) := by decide +kernel
theorem dX5_readAct_105 : decode cX5_readAct 105 = .ok (.iconst 1, 1) := by decide +kernel
theorem dX5_readAct_106 : decode cX5_readAct 106 = .ok (.goto 4, 3) := by decide +kernel
theorem dX5_readAct_109 : decode cX5_readAct 109 = .ok (.iconst 2, 1) := by decide +kernel
theorem dX5_readAct_110 : decode cX5_readAct 110 = .ok (.iastore, 1) := by decide +kernel
theorem dX5_readAct_111 : decode cX5_readAct 111 = .ok (.aload_n 0, 1) := by decide +kernel
theorem dX5_readAct_112 : decode cX5_readAct 112 = .ok (.getfield 44, 3) := by decide +kernel
theorem dX5_readAct_115 : decode cX5_readAct 115 = .ok (.aload_n 0, 1) := by decide +kernel
theorem dX5_readAct_116 : decode cX5_readAct 116 = .ok (.getfield 152, 3) := by decide +kernel
theorem dX5_readAct_119 : decode cX5_readAct 119 = .ok (.iload 4, 2) := by decide +kernel
theorem dX5_readAct_121 : decode cX5_readAct 121 = .ok (.iastore, 1) := by decide +kernel
theorem dX5_readAct_122 : decode cX5_readAct 122 = .ok (.aload_n 0, 1) := by decide +kernel
theorem dX5_readAct_123 : decode cX5_readAct 123 = .ok (.dup, 1) := by decide +kernel
theorem dX5_readAct_124 : decode cX5_readAct 124 = .ok (.getfield 152, 3) := by decide +kernel
theorem dX5_readAct_127 : decode cX5_readAct 127 = .ok (.iconst 1, 1) := by decide +kernel
theorem dX5_readAct_128 : decode cX5_readAct 128 = .ok (.iadd, 1) := by decide +kernel
theorem dX5_readAct_129 : decode cX5_readAct 129 = .ok (.putfield 152, 3) := by decide +kernel
theorem dX5_readAct_132 : decode cX5_readAct 132 = .ok (.iconst 1, 1) := by decide +kernel
theorem dX5_readAct_133 : decode cX5_readAct 133 = .ok (.ireturn, 1) := by decide +kernel
set_option maxRecDepth 20000 in
theorem ggX5_readText_X5_readAct : GoodIn wsX5_readText wsX5_readAct := goodIn_r _ [8, 9, 2, 10, 11, 12, 13, 7, 14, 1, 15, 16, 17, 18, 3, 19, 20, 21, 22, 23, 24, 25, 26, 27, 28, 29, 30, 31, 32, 33, 34, 35, 36, 37, 38, 39, 40, 41, 42, 43, 44, 45, 46, 47] (by decide +kernel) (by decide +kernel)
set_option maxRecDepth 20000 in
theorem gX5_readText_X5_readAct : GoodIn wsX5_readText (wsV RX5 155 RX5 yX5_readAct wsX5_readAct) := goodIn_app (goodIn_of _ (by decide +kernel)) ggX5_readText_X5_readAct
set_option maxRecDepth 20000 in
theorem ggX5_readText_X5_takes : GoodIn wsX5_readText wsX5_takes := goodIn_r _ [14, 1, 15, 16, 17, 7, 18, 3, 19, 20, 21, 22, 27, 28, 29, 30, 31, 32, 33, 34, 35, 36, 37, 38, 39, 40, 41, 42, 43, 44, 45, 46, 47] (by decide +kernel) (by decide +kernel)
set_option maxRecDepth 20000 in
theorem gX5_readText_X5_takes : GoodIn wsX5_readText (wsV RX5 146 RX5 yX5_takes wsX5_takes) := goodIn_app (goodIn_of _ (by decide +kernel)) ggX5_readText_X5_takes
theorem dX5_readText_0 : decode cX5_readText 0 = .ok (.aload_n 0, 1) := by decide +kernel
theorem dX5_readText_1 : decode cX5_readText 1 = .ok (.iconst 0, 1) := by decide +kernel
theorem dX5_readText_2 : decode cX5_readText 2 = .ok (.putfield 140, 3) := by decide +kernel
theorem dX5_readText_5 : decode cX5_readText 5 = .ok (.aload_n 0, 1) := by decide +kernel
theorem dX5_readText_6 : decode cX5_readText 6 = .ok (.iconst 0, 1) := by decide +kernel
theorem dX5_readText_7 : decode cX5_readText 7 = .ok (.putfield 152, 3) := by decide +kernel
theorem dX5_readText_10 : decode cX5_readText 10 = .ok (.aload_n 0, 1) := by decide +kernel
theorem dX5_readText_11 : decode cX5_readText 11 = .ok (.invokevirtual 155, 3) := by decide +kernel
theorem dX5_readText_14 : decode cX5_readText 14 = .ok (.istore_n 1, 1) := by decide +kernel
theorem dX5_readText_15 : decode cX5_readText 15 = .ok (.iload_n 1, 1) := by decide +kernel
theorem dX5_readText_16 : decode cX5_readText 16 = .ok (.ifCond .eq 20, 3) := by decide +kernel
theorem dX5_readText_19 : decode cX5_readText 19 = .ok (.aload_n 0, 1) := by decide +kernel
theorem dX5_readText_20 : decode cX5_readText 20 = .ok (.bipush 59, 2) := by decide +kernel
theorem dX5_readText_22 : decode cX5_readText 22 = .ok (.invokevirtual 146, 3) := by decide +kernel
theorem dX5_readText_25 : decode cX5_readText 25 = .ok (.ifCond .eq 11, 3) := by decide +kernel
theorem dX5_readText_28 : decode cX5_readText 28 = .ok (.aload_n 0, 1) := by decide +kernel
theorem dX5_readText_29 : decode cX5_readText 29 = .ok (.invokevirtual 155, 3) := by decide +kernel
theorem dX5_readText_32 : decode cX5_readText 32 = .ok (.istore_n 1, 1) := by decide +kernel
theorem dX5_readText_33 : decode cX5_readText 33 = .ok (.goto (-18), 3) := by decide +kernel
theorem dX5_readText_36 : decode cX5_readText 36 = .ok (.iload_n 1, 1) := by decide +kernel
theorem dX5_readText_37 : decode cX5_readText 37 = .ok (.ifCond .eq 18, 3) := by decide +kernel
theorem dX5_readText_40 : decode cX5_readText 40 = .ok (.aload_n 0, 1) := by decide +kernel
theorem dX5_readText_41 : decode cX5_readText 41 = .ok (.getfield 140, 3) := by decide +kernel
theorem dX5_readText_44 : decode cX5_readText 44 = .ok (.aload_n 0, 1) := by decide +kernel
theorem dX5_readText_45 : decode cX5_readText 45 = .ok (.getfield 137, 3) := by decide +kernel
theorem dX5_readText_48 : decode cX5_readText 48 = .ok (.if_icmp .ne 7, 3) := by decide +kernel
theorem dX5_readText_51 : decode cX5_readText 51 = .ok (.iconst 1, 1) := by decide +kernel
theorem dX5_readText_52 : decode cX5_readText 52 = .ok (.goto 4, 3) := by decide +kernel
theorem dX5_readText_55 : decode cX5_readText 55 = .ok (.iconst 0, 1) := by decide +kernel
theorem dX5_readText_56 : decode cX5_readText 56 = .ok (.ireturn, 1) := by decide +kernel
set_option maxRecDepth 20000 in
theorem ggX5_firstError_X5_readText : GoodIn wsX5_firstError wsX5_readText := goodIn_r _ [8, 3, 9, 2, 10, 11, 12, 7, 13, 14, 15, 16, 17, 18, 19, 20, 21, 22, 23, 24, 25, 26, 27, 28, 29, 30, 31, 32, 33, 34, 35, 36, 37, 38, 39, 40, 41, 42, 43, 44, 45, 46, 47, 48, 49, 50, 51, 52] (by decide +kernel) (by decide +kernel)
set_option maxRecDepth 20000 in
theorem gX5_firstError_X5_readText : GoodIn wsX5_firstError (wsV RX5 159 RX5 yX5_readText wsX5_readText) := goodIn_app (goodIn_of _ (by decide +kernel)) ggX5_firstError_X5_readText
theorem dX5_firstError_0 : decode cX5_firstError 0 = .ok (.aload_n 0, 1) := by decide +kernel
theorem dX5_firstError_1 : decode cX5_firstError 1 = .ok (.iconst 0, 1) := by decide +kernel
theorem dX5_firstError_2 : decode cX5_firstError 2 = .ok (.putfield 47, 3) := by decide +kernel
theorem dX5_firstError_5 : decode cX5_firstError 5 = .ok (.aload_n 0, 1) := by decide +kernel
theorem dX5_firstError_6 : decode cX5_firstError 6 = .ok (.invokevirtual 159, 3) := by decide +kernel
theorem dX5_firstError_9 : decode cX5_firstError 9 = .ok (.ifCond .eq 10, 3) := by decide +kernel
theorem dX5_firstError_12 : decode cX5_firstError 12 = .ok (.aload_n 0, 1) := by decide +kernel
theorem dX5_firstError_13 : decode cX5_firstError 13 = .ok (.getfield 137, 3) := by decide +kernel
theorem dX5_firstError_16 : decode cX5_firstError 16 = .ok (.goto 7, 3) := by decide +kernel
theorem dX5_firstError_19 : decode cX5_firstError 19 = .ok (.aload_n 0, 1) := by decide +kernel
theorem dX5_firstError_20 : decode cX5_firstError 20 = .ok (.getfield 140, 3) := by decide +kernel
theorem dX5_firstError_23 : decode cX5_firstError 23 = .ok (.ireturn, 1) := by decide +kernel
set_option maxRecDepth 20000 in
theorem ggX5_execute_X5_readText : GoodIn wsX5_execute wsX5_readText := goodIn_r _ [9, 10, 1, 4, 11, 12, 13, 8, 14, 2, 3, 15, 16, 17, 18, 19, 20, 21, 22, 23, 24, 25, 26, 27, 28, 29, 30, 117, 118, 119, 120, 121, 122, 123, 124, 125, 126, 127, 128, 129, 130, 131, 132, 133, 134, 135, 136, 137] (by decide +kernel) (by decide +kernel)
set_option maxRecDepth 20000 in
theorem gX5_execute_X5_readText : GoodIn wsX5_execute (wsV RX5 159 RX5 yX5_readText wsX5_readText) := goodIn_app (goodIn_of _ (by decide +kernel)) ggX5_execute_X5_readText
set_option maxRecDepth 20000 in
theorem ggX5_execute_X5_refused : GoodIn wsX5_execute wsX5_refused := goodIn_r _ [34, 35, 117, 118, 119, 120, 121, 122, 123, 124, 125, 126, 127, 128, 129, 130, 131, 132, 133, 134, 135, 136, 137] (by decide +kernel) (by decide +kernel)
set_option maxRecDepth 20000 in
theorem gX5_execute_X5_refused : GoodIn wsX5_execute (wsV RX5 125 RX5 yX5_refused wsX5_refused) := goodIn_app (goodIn_of _ (by decide +kernel)) ggX5_execute_X5_refused
set_option maxRecDepth 20000 in
theorem ggX5_execute_X5_saveState : GoodIn wsX5_execute wsX5_saveState := goodIn_r _ [39, 40, 41, 42, 43, 44, 8, 45, 117, 118, 119, 120, 121, 122, 123, 124, 125, 126, 127, 128, 129, 130, 131, 132, 133, 134, 135, 136, 137] (by decide +kernel) (by decide +kernel)
set_option maxRecDepth 20000 in
theorem gX5_execute_X5_saveState : GoodIn wsX5_execute (wsV RX5 128 RX5 yX5_saveState wsX5_saveState) := goodIn_app (goodIn_of _ (by decide +kernel)) ggX5_execute_X5_saveState
set_option maxRecDepth 20000 in
theorem ggX5_execute_X5_hasRoom : GoodIn wsX5_execute wsX5_hasRoom := goodIn_r _ [49, 42, 50, 51, 52, 8, 53, 117, 118, 119, 120, 121, 122, 123, 124, 125, 126, 127, 128, 129, 130, 131, 132, 133, 134, 135, 136, 137] (by decide +kernel) (by decide +kernel)
set_option maxRecDepth 20000 in
theorem gX5_execute_X5_hasRoom : GoodIn wsX5_execute (wsV RX5 122 RX5 yX5_hasRoom wsX5_hasRoom) := goodIn_app (goodIn_of _ (by decide +kernel)) ggX5_execute_X5_hasRoom
set_option maxRecDepth 20000 in
theorem ggX5_execute_X5_act : GoodIn wsX5_execute wsX5_act := goodIn_r _ [57, 42, 58, 59, 60, 8, 61, 50, 51, 52, 53, 62, 63, 64, 65, 66, 67, 68, 69, 70, 71, 72, 73, 74, 75, 76, 77, 78, 79, 80, 81, 82, 83, 84, 85, 86, 87, 88, 89, 90, 91, 92, 93, 94, 95, 96, 97, 98, 99, 100, 101, 102, 103, 104, 105, 106, 107, 108, 109, 110, 111, 112, 113, 114, 115, 116, 117, 118, 119, 120, 121, 122, 123, 124, 125, 126, 127, 128, 129, 130, 131, 132, 133, 134, 135, 136, 137] (by decide +kernel) (by decide +kernel)
set_option maxRecDepth 20000 in
theorem gX5_execute_X5_act : GoodIn wsX5_execute (wsV RX5 131 RX5 yX5_act wsX5_act) := goodIn_app (goodIn_of _ (by decide +kernel)) ggX5_execute_X5_act
theorem dX5_execute_0 : decode cX5_execute 0 = .ok (.aload_n 0, 1) := by decide +kernel
theorem dX5_execute_1 : decode cX5_execute 1 = .ok (.aload_n 0, 1) := by decide +kernel
theorem dX5_execute_2 : decode cX5_execute 2 = .ok (.invokevirtual 159, 3) := by decide +kernel
theorem dX5_execute_5 : decode cX5_execute 5 = .ok (.ifCond .eq 7, 3) := by decide +kernel
theorem dX5_execute_8 : decode cX5_execute 8 = .ok (.iconst 0, 1) := by decide +kernel
theorem dX5_execute_9 : decode cX5_execute 9 = .ok (.goto 4, 3) := by decide +kernel
theorem dX5_execute_12 : decode cX5_execute 12 = .ok (.iconst 1, 1) := by decide +kernel
theorem dX5_execute_13 : decode cX5_execute 13 = .ok (.invokevirtual 125, 3) := by decide +kernel
theorem dX5_execute_16 : decode cX5_execute 16 = .ok (.ifCond .eq 5, 3) := by decide +kernel
theorem dX5_execute_19 : decode cX5_execute 19 = .ok (.iconst 0, 1) := by decide +kernel
theorem dX5_execute_20 : decode cX5_execute 20 = .ok (.ireturn, 1) := by decide +kernel
theorem dX5_execute_21 : decode cX5_execute 21 = .ok (.aload_n 0, 1) := by decide +kernel
theorem dX5_execute_22 : decode cX5_execute 22 = .ok (.invokevirtual 128, 3) := by decide +kernel
theorem dX5_execute_25 : decode cX5_execute 25 = .ok (.iconst 0, 1) := by decide +kernel
theorem dX5_execute_26 : decode cX5_execute 26 = .ok (.istore_n 1, 1) := by decide +kernel
theorem dX5_execute_27 : decode cX5_execute 27 = .ok (.iload_n 1, 1) := by decide +kernel
theorem dX5_execute_28 : decode cX5_execute 28 = .ok (.aload_n 0, 1) := by decide +kernel
theorem dX5_execute_29 : decode cX5_execute 29 = .ok (.getfield 152, 3) := by decide +kernel
theorem dX5_execute_32 : decode cX5_execute 32 = .ok (.if_icmp .ge 48, 3) := by decide +kernel
theorem dX5_execute_35 : decode cX5_execute 35 = .ok (.aload_n 0, 1) := by decide +kernel
theorem dX5_execute_36 : decode cX5_execute 36 = .ok (.getfield 41, 3) := by decide +kernel
theorem dX5_execute_39 : decode cX5_execute 39 = .ok (.iload_n 1, 1) := by decide +kernel
theorem dX5_execute_40 : decode cX5_execute 40 = .ok (.iaload, 1) := by decide +kernel
theorem dX5_execute_41 : decode cX5_execute 41 = .ok (.ifCond .ne 16, 3) := by decide +kernel
theorem dX5_execute_44 : decode cX5_execute 44 = .ok (.aload_n 0, 1) := by decide +kernel
theorem dX5_execute_45 : decode cX5_execute 45 = .ok (.aload_n 0, 1) := by decide +kernel
theorem dX5_execute_46 : decode cX5_execute 46 = .ok (.getfield 44, 3) := by decide +kernel
theorem dX5_execute_49 : decode cX5_execute 49 = .ok (.iload_n 1, 1) := by decide +kernel
theorem dX5_execute_50 : decode cX5_execute 50 = .ok (.iaload, 1) := by decide +kernel
theorem dX5_execute_51 : decode cX5_execute 51 = .ok (.invokevirtual 122, 3) := by decide +kernel
theorem dX5_execute_54 : decode cX5_execute 54 = .ok (.ifCond .eq 26, 3) := by decide +kernel
theorem dX5_execute_57 : decode cX5_execute 57 = .ok (.aload_n 0, 1) := by decide +kernel
theorem dX5_execute_58 : decode cX5_execute 58 = .ok (.aload_n 0, 1) := by decide +kernel
theorem dX5_execute_59 : decode cX5_execute 59 = .ok (.getfield 41, 3) := by decide +kernel
theorem dX5_execute_62 : decode cX5_execute 62 = .ok (.iload_n 1, 1) := by decide +kernel
theorem dX5_execute_63 : decode cX5_execute 63 = .ok (.iaload, 1) := by decide +kernel
theorem dX5_execute_64 : decode cX5_execute 64 = .ok (.aload_n 0, 1) := by decide +kernel
theorem dX5_execute_65 : decode cX5_execute 65 = .ok (.getfield 44, 3) := by decide +kernel
theorem dX5_execute_68 : decode cX5_execute 68 = .ok (.iload_n 1, 1) := by decide +kernel
theorem dX5_execute_69 : decode cX5_execute 69 = .ok (.iaload, 1) := by decide +kernel
theorem dX5_execute_70 : decode cX5_execute 70 = .ok (.invokevirtual 131, 3) := by decide +kernel
theorem dX5_execute_73 : decode cX5_execute 73 = .ok (.pop, 1) := by decide +kernel
theorem dX5_execute_74 : decode cX5_execute 74 = .ok (.iinc 1 1, 3) := by decide +kernel
theorem dX5_execute_77 : decode cX5_execute 77 = .ok (.goto (-50), 3) := by decide +kernel
theorem dX5_execute_80 : decode cX5_execute 80 = .ok (.aload_n 0, 1) := by decide +kernel
theorem dX5_execute_81 : decode cX5_execute 81 = .ok (.iconst 0, 1) := by decide +kernel
theorem dX5_execute_82 : decode cX5_execute 82 = .ok (.putfield 137, 3) := by decide +kernel
theorem dX5_execute_85 : decode cX5_execute 85 = .ok (.iload_n 1, 1) := by decide +kernel
theorem dX5_execute_86 : decode cX5_execute 86 = .ok (.ireturn, 1) := by decide +kernel
set_option maxRecDepth 20000 in
theorem ggX5_undo_X5_refused : GoodIn wsX5_undo wsX5_refused := goodIn_r _ [8, 9, 13, 14, 15, 16, 17, 18, 19, 20, 21, 22, 23, 24, 25, 26, 27, 28, 29, 30, 31, 32, 33] (by decide +kernel) (by decide +kernel)
set_option maxRecDepth 20000 in
theorem gX5_undo_X5_refused : GoodIn wsX5_undo (wsV RX5 125 RX5 yX5_refused wsX5_refused) := goodIn_app (goodIn_of _ (by decide +kernel)) ggX5_undo_X5_refused
set_option maxRecDepth 20000 in
theorem ggX5_undo_X5_copyState : GoodIn wsX5_undo wsX5_copyState := goodIn_r _ [12] (by decide +kernel) (by decide +kernel)
set_option maxRecDepth 20000 in
theorem gX5_undo_X5_copyState : GoodIn wsX5_undo (va_wsS RX5 58 yX5_copyState wsX5_copyState) := goodIn_app (goodIn_of _ (by decide +kernel)) ggX5_undo_X5_copyState
theorem dX5_undo_0 : decode cX5_undo 0 = .ok (.aload_n 0, 1) := by decide +kernel
theorem dX5_undo_1 : decode cX5_undo 1 = .ok (.aload_n 0, 1) := by decide +kernel
theorem dX5_undo_2 : decode cX5_undo 2 = .ok (.getfield 55, 3) := by decide +kernel
theorem dX5_undo_5 : decode cX5_undo 5 = .ok (.ifCond .ne 7, 3) := by decide +kernel
theorem dX5_undo_8 : decode cX5_undo 8 = .ok (.iconst 1, 1) := by decide +kernel
theorem dX5_undo_9 : decode cX5_undo 9 = .ok (.goto 4, 3) := by decide +kernel
theorem dX5_undo_12 : decode cX5_undo 12 = .ok (.iconst 0, 1) := by decide +kernel
theorem dX5_undo_13 : decode cX5_undo 13 = .ok (.invokevirtual 125, 3) := by decide +kernel
theorem dX5_undo_16 : decode cX5_undo 16 = .ok (.ifCond .eq 5, 3) := by decide +kernel
theorem dX5_undo_19 : decode cX5_undo 19 = .ok (.iconst 0, 1) := by decide +kernel
theorem dX5_undo_20 : decode cX5_undo 20 = .ok (.ireturn, 1) := by decide +kernel
theorem dX5_undo_21 : decode cX5_undo 21 = .ok (.aload_n 0, 1) := by decide +kernel
theorem dX5_undo_22 : decode cX5_undo 22 = .ok (.dup, 1) := by decide +kernel
theorem dX5_undo_23 : decode cX5_undo 23 = .ok (.getfield 55, 3) := by decide +kernel
theorem dX5_undo_26 : decode cX5_undo 26 = .ok (.iconst 1, 1) := by decide +kernel
theorem dX5_undo_27 : decode cX5_undo 27 = .ok (.isub, 1) := by decide +kernel
theorem dX5_undo_28 : decode cX5_undo 28 = .ok (.putfield 55, 3) := by decide +kernel
theorem dX5_undo_31 : decode cX5_undo 31 = .ok (.aload_n 0, 1) := by decide +kernel
theorem dX5_undo_32 : decode cX5_undo 32 = .ok (.getfield 16, 3) := by decide +kernel
theorem dX5_undo_35 : decode cX5_undo 35 = .ok (.sipush 646, 3) := by decide +kernel
theorem dX5_undo_38 : decode cX5_undo 38 = .ok (.aload_n 0, 1) := by decide +kernel
theorem dX5_undo_39 : decode cX5_undo 39 = .ok (.getfield 55, 3) := by decide +kernel
theorem dX5_undo_42 : decode cX5_undo 42 = .ok (.imul, 1) := by decide +kernel
theorem dX5_undo_43 : decode cX5_undo 43 = .ok (.aload_n 0, 1) := by decide +kernel
theorem dX5_undo_44 : decode cX5_undo 44 = .ok (.getfield 7, 3) := by decide +kernel
theorem dX5_undo_47 : decode cX5_undo 47 = .ok (.iconst 0, 1) := by decide +kernel
theorem dX5_undo_48 : decode cX5_undo 48 = .ok (.invokestatic 58, 3) := by decide +kernel
theorem dX5_undo_51 : decode cX5_undo 51 = .ok (.aload_n 0, 1) := by decide +kernel
theorem dX5_undo_52 : decode cX5_undo 52 = .ok (.getfield 55, 3) := by decide +kernel
theorem dX5_undo_55 : decode cX5_undo 55 = .ok (.ireturn, 1) := by decide +kernel
set_option maxRecDepth 20000 in
theorem ggX5_keep_X5_in : GoodIn wsX5_keep wsX5_in := goodIn_r _ [7] (by decide +kernel) (by decide +kernel)
set_option maxRecDepth 20000 in
theorem gX5_keep_X5_in : GoodIn wsX5_keep (va_wsS RX5 51 yX5_in wsX5_in) := goodIn_app (goodIn_of _ (by decide +kernel)) ggX5_keep_X5_in
set_option maxRecDepth 20000 in
theorem ggX5_keep_X5_refused : GoodIn wsX5_keep wsX5_refused := goodIn_r _ [11, 12, 24, 25, 26, 27, 28, 29, 30, 31, 32, 33, 34, 35, 36, 37, 38, 39, 40, 41, 42, 43, 44] (by decide +kernel) (by decide +kernel)
set_option maxRecDepth 20000 in
theorem gX5_keep_X5_refused : GoodIn wsX5_keep (wsV RX5 125 RX5 yX5_refused wsX5_refused) := goodIn_app (goodIn_of _ (by decide +kernel)) ggX5_keep_X5_refused
set_option maxRecDepth 20000 in
theorem ggX5_keep_X5_copyState : GoodIn wsX5_keep wsX5_copyState := goodIn_r _ [15] (by decide +kernel) (by decide +kernel)
set_option maxRecDepth 20000 in
theorem gX5_keep_X5_copyState : GoodIn wsX5_keep (va_wsS RX5 58 yX5_copyState wsX5_copyState) := goodIn_app (goodIn_of _ (by decide +kernel)) ggX5_keep_X5_copyState
set_option maxRecDepth 20000 in
theorem ggX5_keep_X5_presentIn : GoodIn wsX5_keep wsX5_presentIn := goodIn_r _ [19, 1, 20, 21, 22, 6, 23, 24, 25, 26, 27, 28, 29, 30, 31, 32, 33, 34, 35, 36, 37, 38, 39, 40, 41, 42, 43, 44] (by decide +kernel) (by decide +kernel)
set_option maxRecDepth 20000 in
theorem gX5_keep_X5_presentIn : GoodIn wsX5_keep (wsV RX5 162 RX5 yX5_presentIn wsX5_presentIn) := goodIn_app (goodIn_of _ (by decide +kernel)) ggX5_keep_X5_presentIn
theorem dX5_keep_0 : decode cX5_keep 0 = .ok (.aload_n 0, 1) := by decide +kernel
theorem dX5_keep_1 : decode cX5_keep 1 = .ok (.iload_n 1, 1) := by decide +kernel
theorem dX5_keep_2 : decode cX5_keep 2 = .ok (.iconst 0, 1) := by decide +kernel
theorem dX5_keep_3 : decode cX5_keep 3 = .ok (.iconst 1, 1) := by decide +kernel
theorem dX5_keep_4 : decode cX5_keep 4 = .ok (.invokestatic 51, 3) := by decide +kernel
theorem dX5_keep_7 : decode cX5_keep 7 = .ok (.ifCond .eq 7, 3) := by decide +kernel
theorem dX5_keep_10 : decode cX5_keep 10 = .ok (.iconst 0, 1) := by decide +kernel
theorem dX5_keep_11 : decode cX5_keep 11 = .ok (.goto 4, 3) := by decide +kernel
theorem dX5_keep_14 : decode cX5_keep 14 = .ok (.iconst 1, 1) := by decide +kernel
theorem dX5_keep_15 : decode cX5_keep 15 = .ok (.invokevirtual 125, 3) := by decide +kernel
theorem dX5_keep_18 : decode cX5_keep 18 = .ok (.ifCond .eq 5, 3) := by decide +kernel
theorem dX5_keep_21 : decode cX5_keep 21 = .ok (.iconst 0, 1) := by decide +kernel
theorem dX5_keep_22 : decode cX5_keep 22 = .ok (.ireturn, 1) := by decide +kernel
theorem dX5_keep_23 : decode cX5_keep 23 = .ok (.aload_n 0, 1) := by decide +kernel
theorem dX5_keep_24 : decode cX5_keep 24 = .ok (.getfield 7, 3) := by decide +kernel
theorem dX5_keep_27 : decode cX5_keep 27 = .ok (.iconst 0, 1) := by decide +kernel
theorem dX5_keep_28 : decode cX5_keep 28 = .ok (.aload_n 0, 1) := by decide +kernel
theorem dX5_keep_29 : decode cX5_keep 29 = .ok (.getfield 19, 3) := by decide +kernel
theorem dX5_keep_32 : decode cX5_keep 32 = .ok (.sipush 646, 3) := by decide +kernel
theorem dX5_keep_35 : decode cX5_keep 35 = .ok (.iload_n 1, 1) := by decide +kernel
theorem dX5_keep_36 : decode cX5_keep 36 = .ok (.imul, 1) := by decide +kernel
theorem dX5_keep_37 : decode cX5_keep 37 = .ok (.invokestatic 58, 3) := by decide +kernel
theorem dX5_keep_40 : decode cX5_keep 40 = .ok (.aload_n 0, 1) := by decide +kernel
theorem dX5_keep_41 : decode cX5_keep 41 = .ok (.getfield 22, 3) := by decide +kernel
theorem dX5_keep_44 : decode cX5_keep 44 = .ok (.iload_n 1, 1) := by decide +kernel
theorem dX5_keep_45 : decode cX5_keep 45 = .ok (.iconst 1, 1) := by decide +kernel
theorem dX5_keep_46 : decode cX5_keep 46 = .ok (.bastore, 1) := by decide +kernel
theorem dX5_keep_47 : decode cX5_keep 47 = .ok (.aload_n 0, 1) := by decide +kernel
theorem dX5_keep_48 : decode cX5_keep 48 = .ok (.iconst 0, 1) := by decide +kernel
theorem dX5_keep_49 : decode cX5_keep 49 = .ok (.invokevirtual 162, 3) := by decide +kernel
theorem dX5_keep_52 : decode cX5_keep 52 = .ok (.ireturn, 1) := by decide +kernel
set_option maxRecDepth 20000 in
theorem ggX5_goBack_X5_in : GoodIn wsX5_goBack wsX5_in := goodIn_r _ [7] (by decide +kernel) (by decide +kernel)
set_option maxRecDepth 20000 in
theorem gX5_goBack_X5_in : GoodIn wsX5_goBack (va_wsS RX5 51 yX5_in wsX5_in) := goodIn_app (goodIn_of _ (by decide +kernel)) ggX5_goBack_X5_in
set_option maxRecDepth 20000 in
theorem ggX5_goBack_X5_refused : GoodIn wsX5_goBack wsX5_refused := goodIn_r _ [11, 12, 30, 31, 32, 33, 34, 35, 36, 37, 38, 39, 40, 41, 42, 43, 44, 45, 46, 47, 48, 49, 50] (by decide +kernel) (by decide +kernel)
set_option maxRecDepth 20000 in
theorem gX5_goBack_X5_refused : GoodIn wsX5_goBack (wsV RX5 125 RX5 yX5_refused wsX5_refused) := goodIn_app (goodIn_of _ (by decide +kernel)) ggX5_goBack_X5_refused
set_option maxRecDepth 20000 in
theorem ggX5_goBack_X5_saveState : GoodIn wsX5_goBack wsX5_saveState := goodIn_r _ [16, 17, 18, 3, 19, 20, 6, 21, 30, 31, 32, 33, 34, 35, 36, 37, 38, 39, 40, 41, 42, 43, 44, 45, 46, 47, 48, 49, 50] (by decide +kernel) (by decide +kernel)
set_option maxRecDepth 20000 in
theorem gX5_goBack_X5_saveState : GoodIn wsX5_goBack (wsV RX5 128 RX5 yX5_saveState wsX5_saveState) := goodIn_app (goodIn_of _ (by decide +kernel)) ggX5_goBack_X5_saveState
set_option maxRecDepth 20000 in
theorem ggX5_goBack_X5_copyState : GoodIn wsX5_goBack wsX5_copyState := goodIn_r _ [21] (by decide +kernel) (by decide +kernel)
set_option maxRecDepth 20000 in
theorem gX5_goBack_X5_copyState : GoodIn wsX5_goBack (va_wsS RX5 58 yX5_copyState wsX5_copyState) := goodIn_app (goodIn_of _ (by decide +kernel)) ggX5_goBack_X5_copyState
set_option maxRecDepth 20000 in
theorem ggX5_goBack_X5_presentIn : GoodIn wsX5_goBack wsX5_presentIn := goodIn_r _ [25, 3, 26, 27, 28, 6, 29, 30, 31, 32, 33, 34, 35, 36, 37, 38, 39, 40, 41, 42, 43, 44, 45, 46, 47, 48, 49, 50] (by decide +kernel) (by decide +kernel)
set_option maxRecDepth 20000 in
theorem gX5_goBack_X5_presentIn : GoodIn wsX5_goBack (wsV RX5 162 RX5 yX5_presentIn wsX5_presentIn) := goodIn_app (goodIn_of _ (by decide +kernel)) ggX5_goBack_X5_presentIn
theorem dX5_goBack_0 : decode cX5_goBack 0 = .ok (.aload_n 0, 1) := by decide +kernel
theorem dX5_goBack_1 : decode cX5_goBack 1 = .ok (.iload_n 1, 1) := by decide +kernel
theorem dX5_goBack_2 : decode cX5_goBack 2 = .ok (.iconst 0, 1) := by decide +kernel
theorem dX5_goBack_3 : decode cX5_goBack 3 = .ok (.iconst 1, 1) := by decide +kernel
theorem dX5_goBack_4 : decode cX5_goBack 4 = .ok (.invokestatic 51, 3) := by decide +kernel
theorem dX5_goBack_7 : decode cX5_goBack 7 = .ok (.ifCond .ne 7, 3) := by decide +kernel
theorem dX5_goBack_10 : decode cX5_goBack 10 = .ok (.iconst 1, 1) := by decide +kernel
theorem dX5_goBack_11 : decode cX5_goBack 11 = .ok (.goto 17, 3) := by decide +kernel
theorem dX5_goBack_14 : decode cX5_goBack 14 = .ok (.aload_n 0, 1) := by decide +kernel
theorem dX5_goBack_15 : decode cX5_goBack 15 = .ok (.getfield 22, 3) := by decide +kernel
theorem dX5_goBack_18 : decode cX5_goBack 18 = .ok (.iload_n 1, 1) := by decide +kernel
theorem dX5_goBack_19 : decode cX5_goBack 19 = .ok (.baload, 1) := by decide +kernel
theorem dX5_goBack_20 : decode cX5_goBack 20 = .ok (.ifCond .eq 7, 3) := by decide +kernel
theorem dX5_goBack_23 : decode cX5_goBack 23 = .ok (.iconst 0, 1) := by decide +kernel
theorem dX5_goBack_24 : decode cX5_goBack 24 = .ok (.goto 4, 3) := by decide +kernel
theorem dX5_goBack_27 : decode cX5_goBack 27 = .ok (.iconst 2, 1) := by decide +kernel
theorem dX5_goBack_28 : decode cX5_goBack 28 = .ok (.invokevirtual 125, 3) := by decide +kernel
theorem dX5_goBack_31 : decode cX5_goBack 31 = .ok (.ifCond .eq 5, 3) := by decide +kernel
theorem dX5_goBack_34 : decode cX5_goBack 34 = .ok (.iconst 0, 1) := by decide +kernel
theorem dX5_goBack_35 : decode cX5_goBack 35 = .ok (.ireturn, 1) := by decide +kernel
theorem dX5_goBack_36 : decode cX5_goBack 36 = .ok (.aload_n 0, 1) := by decide +kernel
theorem dX5_goBack_37 : decode cX5_goBack 37 = .ok (.invokevirtual 128, 3) := by decide +kernel
theorem dX5_goBack_40 : decode cX5_goBack 40 = .ok (.aload_n 0, 1) := by decide +kernel
theorem dX5_goBack_41 : decode cX5_goBack 41 = .ok (.getfield 19, 3) := by decide +kernel
theorem dX5_goBack_44 : decode cX5_goBack 44 = .ok (.sipush 646, 3) := by decide +kernel
theorem dX5_goBack_47 : decode cX5_goBack 47 = .ok (.iload_n 1, 1) := by decide +kernel
theorem dX5_goBack_48 : decode cX5_goBack 48 = .ok (.imul, 1) := by decide +kernel
theorem dX5_goBack_49 : decode cX5_goBack 49 = .ok (.aload_n 0, 1) := by decide +kernel
theorem dX5_goBack_50 : decode cX5_goBack 50 = .ok (.getfield 7, 3) := by decide +kernel
theorem dX5_goBack_53 : decode cX5_goBack 53 = .ok (.iconst 0, 1) := by decide +kernel
theorem dX5_goBack_54 : decode cX5_goBack 54 = .ok (.invokestatic 58, 3) := by decide +kernel
theorem dX5_goBack_57 : decode cX5_goBack 57 = .ok (.aload_n 0, 1) := by decide +kernel
theorem dX5_goBack_58 : decode cX5_goBack 58 = .ok (.iconst 0, 1) := by decide +kernel
theorem dX5_goBack_59 : decode cX5_goBack 59 = .ok (.invokevirtual 162, 3) := by decide +kernel
theorem dX5_goBack_62 : decode cX5_goBack 62 = .ok (.ireturn, 1) := by decide +kernel
set_option maxRecDepth 20000 in
theorem ggX5_contains_X5_isKey : GoodIn wsX5_contains wsX5_isKey := goodIn_r _ [4, 5, 6, 3, 7] (by decide +kernel) (by decide +kernel)
set_option maxRecDepth 20000 in
theorem gX5_contains_X5_isKey : GoodIn wsX5_contains (va_wsS RX5 118 yX5_isKey wsX5_isKey) := goodIn_app (goodIn_of _ (by decide +kernel)) ggX5_contains_X5_isKey
set_option maxRecDepth 20000 in
theorem ggX5_contains_X5_refused : GoodIn wsX5_contains wsX5_refused := goodIn_r _ [11, 12, 22, 23, 24, 25, 26, 27, 28, 29, 30, 31, 32, 33, 34, 35, 36, 37, 38, 39, 40, 41, 42] (by decide +kernel) (by decide +kernel)
set_option maxRecDepth 20000 in
theorem gX5_contains_X5_refused : GoodIn wsX5_contains (wsV RX5 125 RX5 yX5_refused wsX5_refused) := goodIn_app (goodIn_of _ (by decide +kernel)) ggX5_contains_X5_refused
set_option maxRecDepth 20000 in
theorem ggX5_contains_X5_isPresent : GoodIn wsX5_contains wsX5_isPresent := goodIn_r _ [16, 17, 18, 19, 20, 3, 21, 22, 23, 24, 25, 26, 27, 28, 29, 30, 31, 32, 33, 34, 35, 36, 37, 38, 39, 40, 41, 42] (by decide +kernel) (by decide +kernel)
set_option maxRecDepth 20000 in
theorem gX5_contains_X5_isPresent : GoodIn wsX5_contains (wsV RX5 86 RX5 yX5_isPresent wsX5_isPresent) := goodIn_app (goodIn_of _ (by decide +kernel)) ggX5_contains_X5_isPresent
theorem dX5_contains_0 : decode cX5_contains 0 = .ok (.aload_n 0, 1) := by decide +kernel
theorem dX5_contains_1 : decode cX5_contains 1 = .ok (.iload_n 1, 1) := by decide +kernel
theorem dX5_contains_2 : decode cX5_contains 2 = .ok (.invokestatic 118, 3) := by decide +kernel
theorem dX5_contains_5 : decode cX5_contains 5 = .ok (.ifCond .eq 7, 3) := by decide +kernel
theorem dX5_contains_8 : decode cX5_contains 8 = .ok (.iconst 0, 1) := by decide +kernel
theorem dX5_contains_9 : decode cX5_contains 9 = .ok (.goto 4, 3) := by decide +kernel
theorem dX5_contains_12 : decode cX5_contains 12 = .ok (.iconst 1, 1) := by decide +kernel
theorem dX5_contains_13 : decode cX5_contains 13 = .ok (.invokevirtual 125, 3) := by decide +kernel
theorem dX5_contains_16 : decode cX5_contains 16 = .ok (.ifCond .ne 16, 3) := by decide +kernel
theorem dX5_contains_19 : decode cX5_contains 19 = .ok (.aload_n 0, 1) := by decide +kernel
theorem dX5_contains_20 : decode cX5_contains 20 = .ok (.iconst 0, 1) := by decide +kernel
theorem dX5_contains_21 : decode cX5_contains 21 = .ok (.iload_n 1, 1) := by decide +kernel
theorem dX5_contains_22 : decode cX5_contains 22 = .ok (.invokevirtual 86, 3) := by decide +kernel
theorem dX5_contains_25 : decode cX5_contains 25 = .ok (.ifCond .eq 7, 3) := by decide +kernel
theorem dX5_contains_28 : decode cX5_contains 28 = .ok (.iconst 1, 1) := by decide +kernel
theorem dX5_contains_29 : decode cX5_contains 29 = .ok (.goto 4, 3) := by decide +kernel
theorem dX5_contains_32 : decode cX5_contains 32 = .ok (.iconst 0, 1) := by decide +kernel
theorem dX5_contains_33 : decode cX5_contains 33 = .ok (.ireturn, 1) := by decide +kernel
set_option maxRecDepth 20000 in
theorem ggX5_near_X5_isKey : GoodIn wsX5_near wsX5_isKey := goodIn_r _ [4, 5, 6, 3, 7] (by decide +kernel) (by decide +kernel)
set_option maxRecDepth 20000 in
theorem gX5_near_X5_isKey : GoodIn wsX5_near (va_wsS RX5 118 yX5_isKey wsX5_isKey) := goodIn_app (goodIn_of _ (by decide +kernel)) ggX5_near_X5_isKey
set_option maxRecDepth 20000 in
theorem ggX5_near_X5_in : GoodIn wsX5_near wsX5_in := goodIn_r _ [7] (by decide +kernel) (by decide +kernel)
set_option maxRecDepth 20000 in
theorem gX5_near_X5_in : GoodIn wsX5_near (va_wsS RX5 51 yX5_in wsX5_in) := goodIn_app (goodIn_of _ (by decide +kernel)) ggX5_near_X5_in
set_option maxRecDepth 20000 in
theorem ggX5_near_X5_refused : GoodIn wsX5_near wsX5_refused := goodIn_r _ [11, 12, 22, 23, 24, 25, 26, 27, 28, 29, 30, 31, 32, 33, 34, 35, 36, 37, 38, 39, 40, 41, 42] (by decide +kernel) (by decide +kernel)
set_option maxRecDepth 20000 in
theorem gX5_near_X5_refused : GoodIn wsX5_near (wsV RX5 125 RX5 yX5_refused wsX5_refused) := goodIn_app (goodIn_of _ (by decide +kernel)) ggX5_near_X5_refused
set_option maxRecDepth 20000 in
theorem ggX5_near_X5_isPresent : GoodIn wsX5_near wsX5_isPresent := goodIn_r _ [16, 17, 18, 19, 20, 3, 21, 22, 23, 24, 25, 26, 27, 28, 29, 30, 31, 32, 33, 34, 35, 36, 37, 38, 39, 40, 41, 42] (by decide +kernel) (by decide +kernel)
set_option maxRecDepth 20000 in
theorem gX5_near_X5_isPresent : GoodIn wsX5_near (wsV RX5 86 RX5 yX5_isPresent wsX5_isPresent) := goodIn_app (goodIn_of _ (by decide +kernel)) ggX5_near_X5_isPresent
theorem dX5_near_0 : decode cX5_near 0 = .ok (.aload_n 0, 1) := by decide +kernel
theorem dX5_near_1 : decode cX5_near 1 = .ok (.iload_n 1, 1) := by decide +kernel
theorem dX5_near_2 : decode cX5_near 2 = .ok (.invokestatic 118, 3) := by decide +kernel
theorem dX5_near_5 : decode cX5_near 5 = .ok (.ifCond .eq 16, 3) := by decide +kernel
theorem dX5_near_8 : decode cX5_near 8 = .ok (.iload_n 2, 1) := by decide +kernel
theorem dX5_near_9 : decode cX5_near 9 = .ok (.iconst 0, 1) := by decide +kernel
theorem dX5_near_10 : decode cX5_near 10 = .ok (.iconst 3, 1) := by decide +kernel
theorem dX5_near_11 : decode cX5_near 11 = .ok (.invokestatic 51, 3) := by decide +kernel
theorem dX5_near_14 : decode cX5_near 14 = .ok (.ifCond .eq 7, 3) := by decide +kernel
theorem dX5_near_17 : decode cX5_near 17 = .ok (.iconst 0, 1) := by decide +kernel
theorem dX5_near_18 : decode cX5_near 18 = .ok (.goto 4, 3) := by decide +kernel
theorem dX5_near_21 : decode cX5_near 21 = .ok (.iconst 1, 1) := by decide +kernel
theorem dX5_near_22 : decode cX5_near 22 = .ok (.invokevirtual 125, 3) := by decide +kernel
theorem dX5_near_25 : decode cX5_near 25 = .ok (.ifCond .eq 5, 3) := by decide +kernel
theorem dX5_near_28 : decode cX5_near 28 = .ok (.iconst 0, 1) := by decide +kernel
theorem dX5_near_29 : decode cX5_near 29 = .ok (.ireturn, 1) := by decide +kernel
theorem dX5_near_30 : decode cX5_near 30 = .ok (.iload_n 2, 1) := by decide +kernel
theorem dX5_near_31 : decode cX5_near 31 = .ok (.iconst 2, 1) := by decide +kernel
theorem dX5_near_32 : decode cX5_near 32 = .ok (.irem, 1) := by decide +kernel
theorem dX5_near_33 : decode cX5_near 33 = .ok (.ifCond .ne 7, 3) := by decide +kernel
theorem dX5_near_36 : decode cX5_near 36 = .ok (.iconst (-1), 1) := by decide +kernel
theorem dX5_near_37 : decode cX5_near 37 = .ok (.goto 4, 3) := by decide +kernel
theorem dX5_near_40 : decode cX5_near 40 = .ok (.iconst 1, 1) := by decide +kernel
theorem dX5_near_41 : decode cX5_near 41 = .ok (.istore_n 3, 1) := by decide +kernel
theorem dX5_near_42 : decode cX5_near 42 = .ok (.iload_n 2, 1) := by decide +kernel
theorem dX5_near_43 : decode cX5_near 43 = .ok (.iconst 2, 1) := by decide +kernel
theorem dX5_near_44 : decode cX5_near 44 = .ok (.if_icmp .ge 7, 3) := by decide +kernel
theorem dX5_near_47 : decode cX5_near 47 = .ok (.iload_n 1, 1) := by decide +kernel
theorem dX5_near_48 : decode cX5_near 48 = .ok (.goto 6, 3) := by decide +kernel
theorem dX5_near_51 : decode cX5_near 51 = .ok (.iload_n 1, 1) := by decide +kernel
theorem dX5_near_52 : decode cX5_near 52 = .ok (.iload_n 3, 1) := by decide +kernel
theorem dX5_near_53 : decode cX5_near 53 = .ok (.iadd, 1) := by decide +kernel
theorem dX5_near_54 : decode cX5_near 54 = .ok (.istore 4, 2) := by decide +kernel
theorem dX5_near_56 : decode cX5_near 56 = .ok (.iload 4, 2) := by decide +kernel
theorem dX5_near_58 : decode cX5_near 58 = .ok (.invokestatic 118, 3) := by decide +kernel
theorem dX5_near_61 : decode cX5_near 61 = .ok (.ifCond .eq 22, 3) := by decide +kernel
theorem dX5_near_64 : decode cX5_near 64 = .ok (.aload_n 0, 1) := by decide +kernel
theorem dX5_near_65 : decode cX5_near 65 = .ok (.iconst 0, 1) := by decide +kernel
theorem dX5_near_66 : decode cX5_near 66 = .ok (.iload 4, 2) := by decide +kernel
theorem dX5_near_68 : decode cX5_near 68 = .ok (.invokevirtual 86, 3) := by decide +kernel
theorem dX5_near_71 : decode cX5_near 71 = .ok (.ifCond .ne 12, 3) := by decide +kernel
theorem dX5_near_74 : decode cX5_near 74 = .ok (.iload 4, 2) := by decide +kernel
theorem dX5_near_76 : decode cX5_near 76 = .ok (.iload_n 3, 1) := by decide +kernel
theorem dX5_near_77 : decode cX5_near 77 = .ok (.iadd, 1) := by decide +kernel
theorem dX5_near_78 : decode cX5_near 78 = .ok (.istore 4, 2) := by decide +kernel
theorem dX5_near_80 : decode cX5_near 80 = .ok (.goto (-24), 3) := by decide +kernel
theorem dX5_near_83 : decode cX5_near 83 = .ok (.iload 4, 2) := by decide +kernel
theorem dX5_near_85 : decode cX5_near 85 = .ok (.invokestatic 118, 3) := by decide +kernel
theorem dX5_near_88 : decode cX5_near 88 = .ok (.ifCond .eq 8, 3) := by decide +kernel
theorem dX5_near_91 : decode cX5_near 91 = .ok (.iload 4, 2) := by decide +kernel
theorem dX5_near_93 : decode cX5_near 93 = .ok (.goto 4, 3) := by decide +kernel
theorem dX5_near_96 : decode cX5_near 96 = .ok (.iconst (-1), 1) := by decide +kernel
theorem dX5_near_97 : decode cX5_near 97 = .ok (.ireturn, 1) := by decide +kernel
theorem dX5_rankOf_0 : decode cX5_rankOf 0 = .ok (.iconst 0, 1) := by decide +kernel
theorem dX5_rankOf_1 : decode cX5_rankOf 1 = .ok (.istore_n 3, 1) := by decide +kernel
theorem dX5_rankOf_2 : decode cX5_rankOf 2 = .ok (.iconst 0, 1) := by decide +kernel
theorem dX5_rankOf_3 : decode cX5_rankOf 3 = .ok (.istore 4, 2) := by decide +kernel
theorem dX5_rankOf_5 : decode cX5_rankOf 5 = .ok (.iload 4, 2) := by decide +kernel
theorem dX5_rankOf_7 : decode cX5_rankOf 7 = .ok (.aload_n 0, 1) := by decide +kernel
theorem dX5_rankOf_8 : decode cX5_rankOf 8 = .ok (.getfield 7, 3) := by decide +kernel
theorem dX5_rankOf_11 : decode cX5_rankOf 11 = .ok (.iload_n 1, 1) := by decide +kernel
theorem dX5_rankOf_12 : decode cX5_rankOf 12 = .ok (.iaload, 1) := by decide +kernel
theorem dX5_rankOf_13 : decode cX5_rankOf 13 = .ok (.if_icmp .ge 47, 3) := by decide +kernel
theorem dX5_rankOf_16 : decode cX5_rankOf 16 = .ok (.iload_n 3, 1) := by decide +kernel
theorem dX5_rankOf_17 : decode cX5_rankOf 17 = .ok (.aload_n 0, 1) := by decide +kernel
theorem dX5_rankOf_18 : decode cX5_rankOf 18 = .ok (.getfield 7, 3) := by decide +kernel
theorem dX5_rankOf_21 : decode cX5_rankOf 21 = .ok (.iload_n 1, 1) := by decide +kernel
theorem dX5_rankOf_22 : decode cX5_rankOf 22 = .ok (.iconst 1, 1) := by decide +kernel
theorem dX5_rankOf_23 : decode cX5_rankOf 23 = .ok (.iadd, 1) := by decide +kernel
theorem dX5_rankOf_24 : decode cX5_rankOf 24 = .ok (.iload 4, 2) := by decide +kernel
theorem dX5_rankOf_26 : decode cX5_rankOf 26 = .ok (.iadd, 1) := by decide +kernel
theorem dX5_rankOf_27 : decode cX5_rankOf 27 = .ok (.iaload, 1) := by decide +kernel
theorem dX5_rankOf_28 : decode cX5_rankOf 28 = .ok (.iload_n 2, 1) := by decide +kernel
theorem dX5_rankOf_29 : decode cX5_rankOf 29 = .ok (.if_icmp .ge 22, 3) := by decide +kernel
theorem dX5_rankOf_32 : decode cX5_rankOf 32 = .ok (.aload_n 0, 1) := by decide +kernel
theorem dX5_rankOf_33 : decode cX5_rankOf 33 = .ok (.getfield 7, 3) := by decide +kernel
theorem dX5_rankOf_36 : decode cX5_rankOf 36 = .ok (.iload_n 1, 1) := by decide +kernel
theorem dX5_rankOf_37 : decode cX5_rankOf 37 = .ok (.bipush 121, 2) := by decide +kernel
theorem dX5_rankOf_39 : decode cX5_rankOf 39 = .ok (.iadd, 1) := by decide +kernel
theorem dX5_rankOf_40 : decode cX5_rankOf 40 = .ok (.iload 4, 2) := by decide +kernel
theorem dX5_rankOf_42 : decode cX5_rankOf 42 = .ok (.iadd, 1) := by decide +kernel
theorem dX5_rankOf_43 : decode cX5_rankOf 43 = .ok (.iaload, 1) := by decide +kernel
theorem dX5_rankOf_44 : decode cX5_rankOf 44 = .ok (.ifCond .ne 7, 3) := by decide +kernel
theorem dX5_rankOf_47 : decode cX5_rankOf 47 = .ok (.iconst 1, 1) := by decide +kernel
theorem dX5_rankOf_48 : decode cX5_rankOf 48 = .ok (.goto 4, 3) := by decide +kernel
theorem dX5_rankOf_51 : decode cX5_rankOf 51 = .ok (.iconst 0, 1) := by decide +kernel
theorem dX5_rankOf_52 : decode cX5_rankOf 52 = .ok (.iadd, 1) := by decide +kernel
theorem dX5_rankOf_53 : decode cX5_rankOf 53 = .ok (.istore_n 3, 1) := by decide +kernel
theorem dX5_rankOf_54 : decode cX5_rankOf 54 = .ok (.iinc 4 1, 3) := by decide +kernel
theorem dX5_rankOf_57 : decode cX5_rankOf 57 = .ok (.goto (-52), 3) := by decide +kernel
theorem dX5_rankOf_60 : decode cX5_rankOf 60 = .ok (.iload_n 3, 1) := by decide +kernel
theorem dX5_rankOf_61 : decode cX5_rankOf 61 = .ok (.ireturn, 1) := by decide +kernel
set_option maxRecDepth 20000 in
theorem ggX5_rank_X5_isKey : GoodIn wsX5_rank wsX5_isKey := goodIn_r _ [4, 5, 6, 3, 7] (by decide +kernel) (by decide +kernel)
set_option maxRecDepth 20000 in
theorem gX5_rank_X5_isKey : GoodIn wsX5_rank (va_wsS RX5 118 yX5_isKey wsX5_isKey) := goodIn_app (goodIn_of _ (by decide +kernel)) ggX5_rank_X5_isKey
set_option maxRecDepth 20000 in
theorem ggX5_rank_X5_refused : GoodIn wsX5_rank wsX5_refused := goodIn_r _ [11, 12, 18, 19, 20, 21, 22, 23, 24, 25, 26, 27, 28, 29, 30, 31, 32, 33, 34, 35, 36, 37, 38] (by decide +kernel) (by decide +kernel)
set_option maxRecDepth 20000 in
theorem gX5_rank_X5_refused : GoodIn wsX5_rank (wsV RX5 125 RX5 yX5_refused wsX5_refused) := goodIn_app (goodIn_of _ (by decide +kernel)) ggX5_rank_X5_refused
set_option maxRecDepth 20000 in
theorem ggX5_rank_X5_rankOf : GoodIn wsX5_rank wsX5_rankOf := goodIn_r _ [16, 17, 18, 19, 20, 21, 22, 23, 24, 25, 26, 27, 28, 29, 30, 31, 32, 33, 34, 35, 36, 37, 38] (by decide +kernel) (by decide +kernel)
set_option maxRecDepth 20000 in
theorem gX5_rank_X5_rankOf : GoodIn wsX5_rank (wsV RX5 165 RX5 yX5_rankOf wsX5_rankOf) := goodIn_app (goodIn_of _ (by decide +kernel)) ggX5_rank_X5_rankOf
theorem dX5_rank_0 : decode cX5_rank 0 = .ok (.aload_n 0, 1) := by decide +kernel
theorem dX5_rank_1 : decode cX5_rank 1 = .ok (.iload_n 1, 1) := by decide +kernel
theorem dX5_rank_2 : decode cX5_rank 2 = .ok (.invokestatic 118, 3) := by decide +kernel
theorem dX5_rank_5 : decode cX5_rank 5 = .ok (.ifCond .eq 7, 3) := by decide +kernel
theorem dX5_rank_8 : decode cX5_rank 8 = .ok (.iconst 0, 1) := by decide +kernel
theorem dX5_rank_9 : decode cX5_rank 9 = .ok (.goto 4, 3) := by decide +kernel
theorem dX5_rank_12 : decode cX5_rank 12 = .ok (.iconst 1, 1) := by decide +kernel
theorem dX5_rank_13 : decode cX5_rank 13 = .ok (.invokevirtual 125, 3) := by decide +kernel
theorem dX5_rank_16 : decode cX5_rank 16 = .ok (.ifCond .eq 7, 3) := by decide +kernel
theorem dX5_rank_19 : decode cX5_rank 19 = .ok (.iconst 0, 1) := by decide +kernel
theorem dX5_rank_20 : decode cX5_rank 20 = .ok (.goto 9, 3) := by decide +kernel
theorem dX5_rank_23 : decode cX5_rank 23 = .ok (.aload_n 0, 1) := by decide +kernel
theorem dX5_rank_24 : decode cX5_rank 24 = .ok (.iconst 0, 1) := by decide +kernel
theorem dX5_rank_25 : decode cX5_rank 25 = .ok (.iload_n 1, 1) := by decide +kernel
theorem dX5_rank_26 : decode cX5_rank 26 = .ok (.invokevirtual 165, 3) := by decide +kernel
theorem dX5_rank_29 : decode cX5_rank 29 = .ok (.ireturn, 1) := by decide +kernel
set_option maxRecDepth 20000 in
theorem ggX5_keyAt_X5_refused : GoodIn wsX5_keyAt wsX5_refused := goodIn_r _ [6, 7, 12, 13, 14, 15, 16, 17, 18, 19, 20, 21, 22, 23, 24, 25, 26, 27, 28, 29, 30, 31, 32] (by decide +kernel) (by decide +kernel)
set_option maxRecDepth 20000 in
theorem gX5_keyAt_X5_refused : GoodIn wsX5_keyAt (wsV RX5 125 RX5 yX5_refused wsX5_refused) := goodIn_app (goodIn_of _ (by decide +kernel)) ggX5_keyAt_X5_refused
set_option maxRecDepth 20000 in
theorem ggX5_keyAt_X5_rankOf : GoodIn wsX5_keyAt wsX5_rankOf := goodIn_r _ [11, 1, 12, 13, 14, 15, 16, 17, 18, 19, 20, 21, 22, 23, 24, 25, 26, 27, 28, 29, 30, 31, 32] (by decide +kernel) (by decide +kernel)
set_option maxRecDepth 20000 in
theorem gX5_keyAt_X5_rankOf : GoodIn wsX5_keyAt (wsV RX5 165 RX5 yX5_rankOf wsX5_rankOf) := goodIn_app (goodIn_of _ (by decide +kernel)) ggX5_keyAt_X5_rankOf
theorem dX5_keyAt_0 : decode cX5_keyAt 0 = .ok (.aload_n 0, 1) := by decide +kernel
theorem dX5_keyAt_1 : decode cX5_keyAt 1 = .ok (.iload_n 1, 1) := by decide +kernel
theorem dX5_keyAt_2 : decode cX5_keyAt 2 = .ok (.ifCond .ge 7, 3) := by decide +kernel
theorem dX5_keyAt_5 : decode cX5_keyAt 5 = .ok (.iconst 1, 1) := by decide +kernel
theorem dX5_keyAt_6 : decode cX5_keyAt 6 = .ok (.goto 4, 3) := by decide +kernel
theorem dX5_keyAt_9 : decode cX5_keyAt 9 = .ok (.iconst 0, 1) := by decide +kernel
theorem dX5_keyAt_10 : decode cX5_keyAt 10 = .ok (.invokevirtual 125, 3) := by decide +kernel
theorem dX5_keyAt_13 : decode cX5_keyAt 13 = .ok (.ifCond .eq 5, 3) := by decide +kernel
theorem dX5_keyAt_16 : decode cX5_keyAt 16 = .ok (.iconst 0, 1) := by decide +kernel
theorem dX5_keyAt_17 : decode cX5_keyAt 17 = .ok (.ireturn, 1) := by decide +kernel
theorem dX5_keyAt_18 : decode cX5_keyAt 18 = .ok (.iconst (-1), 1) := by decide +kernel
theorem dX5_keyAt_19 : decode cX5_keyAt 19 = .ok (.istore_n 2, 1) := by decide +kernel
theorem dX5_keyAt_20 : decode cX5_keyAt 20 = .ok (.iconst 0, 1) := by decide +kernel
theorem dX5_keyAt_21 : decode cX5_keyAt 21 = .ok (.istore_n 3, 1) := by decide +kernel
theorem dX5_keyAt_22 : decode cX5_keyAt 22 = .ok (.iload_n 3, 1) := by decide +kernel
theorem dX5_keyAt_23 : decode cX5_keyAt 23 = .ok (.aload_n 0, 1) := by decide +kernel
theorem dX5_keyAt_24 : decode cX5_keyAt 24 = .ok (.getfield 7, 3) := by decide +kernel
theorem dX5_keyAt_27 : decode cX5_keyAt 27 = .ok (.iconst 0, 1) := by decide +kernel
theorem dX5_keyAt_28 : decode cX5_keyAt 28 = .ok (.iaload, 1) := by decide +kernel
theorem dX5_keyAt_29 : decode cX5_keyAt 29 = .ok (.if_icmp .ge 49, 3) := by decide +kernel
theorem dX5_keyAt_32 : decode cX5_keyAt 32 = .ok (.aload_n 0, 1) := by decide +kernel
theorem dX5_keyAt_33 : decode cX5_keyAt 33 = .ok (.getfield 7, 3) := by decide +kernel
theorem dX5_keyAt_36 : decode cX5_keyAt 36 = .ok (.iconst 1, 1) := by decide +kernel
theorem dX5_keyAt_37 : decode cX5_keyAt 37 = .ok (.iload_n 3, 1) := by decide +kernel
theorem dX5_keyAt_38 : decode cX5_keyAt 38 = .ok (.iadd, 1) := by decide +kernel
theorem dX5_keyAt_39 : decode cX5_keyAt 39 = .ok (.iaload, 1) := by decide +kernel
theorem dX5_keyAt_40 : decode cX5_keyAt 40 = .ok (.istore 4, 2) := by decide +kernel
theorem dX5_keyAt_42 : decode cX5_keyAt 42 = .ok (.aload_n 0, 1) := by decide +kernel
theorem dX5_keyAt_43 : decode cX5_keyAt 43 = .ok (.getfield 7, 3) := by decide +kernel
theorem dX5_keyAt_46 : decode cX5_keyAt 46 = .ok (.bipush 121, 2) := by decide +kernel
theorem dX5_keyAt_48 : decode cX5_keyAt 48 = .ok (.iload_n 3, 1) := by decide +kernel
theorem dX5_keyAt_49 : decode cX5_keyAt 49 = .ok (.iadd, 1) := by decide +kernel
theorem dX5_keyAt_50 : decode cX5_keyAt 50 = .ok (.iaload, 1) := by decide +kernel
theorem dX5_keyAt_51 : decode cX5_keyAt 51 = .ok (.ifCond .ne 19, 3) := by decide +kernel
theorem dX5_keyAt_54 : decode cX5_keyAt 54 = .ok (.aload_n 0, 1) := by decide +kernel
theorem dX5_keyAt_55 : decode cX5_keyAt 55 = .ok (.iconst 0, 1) := by decide +kernel
theorem dX5_keyAt_56 : decode cX5_keyAt 56 = .ok (.iload 4, 2) := by decide +kernel
theorem dX5_keyAt_58 : decode cX5_keyAt 58 = .ok (.invokevirtual 165, 3) := by decide +kernel
theorem dX5_keyAt_61 : decode cX5_keyAt 61 = .ok (.iload_n 1, 1) := by decide +kernel
theorem dX5_keyAt_62 : decode cX5_keyAt 62 = .ok (.if_icmp .ne 8, 3) := by decide +kernel
theorem dX5_keyAt_65 : decode cX5_keyAt 65 = .ok (.iload 4, 2) := by decide +kernel
theorem dX5_keyAt_67 : decode cX5_keyAt 67 = .ok (.goto 4, 3) := by decide +kernel
theorem dX5_keyAt_70 : decode cX5_keyAt 70 = .ok (.iload_n 2, 1) := by decide +kernel
theorem dX5_keyAt_71 : decode cX5_keyAt 71 = .ok (.istore_n 2, 1) := by decide +kernel
theorem dX5_keyAt_72 : decode cX5_keyAt 72 = .ok (.iinc 3 1, 3) := by decide +kernel
theorem dX5_keyAt_75 : decode cX5_keyAt 75 = .ok (.goto (-53), 3) := by decide +kernel
theorem dX5_keyAt_78 : decode cX5_keyAt 78 = .ok (.iload_n 2, 1) := by decide +kernel
theorem dX5_keyAt_79 : decode cX5_keyAt 79 = .ok (.ireturn, 1) := by decide +kernel
theorem dX5_between_0 : decode cX5_between 0 = .ok (.iconst 0, 1) := by decide +kernel
theorem dX5_between_1 : decode cX5_between 1 = .ok (.istore 5, 2) := by decide +kernel
theorem dX5_between_3 : decode cX5_between 3 = .ok (.iconst 0, 1) := by decide +kernel
theorem dX5_between_4 : decode cX5_between 4 = .ok (.istore 6, 2) := by decide +kernel
theorem dX5_between_6 : decode cX5_between 6 = .ok (.iload 6, 2) := by decide +kernel
theorem dX5_between_8 : decode cX5_between 8 = .ok (.aload_n 0, 1) := by decide +kernel
theorem dX5_between_9 : decode cX5_between 9 = .ok (.getfield 7, 3) := by decide +kernel
theorem dX5_between_12 : decode cX5_between 12 = .ok (.iload_n 1, 1) := by decide +kernel
theorem dX5_between_13 : decode cX5_between 13 = .ok (.iaload, 1) := by decide +kernel
theorem dX5_between_14 : decode cX5_between 14 = .ok (.if_icmp .ge 81, 3) := by decide +kernel
theorem dX5_between_17 : decode cX5_between 17 = .ok (.iload 4, 2) := by decide +kernel
theorem dX5_between_19 : decode cX5_between 19 = .ok (.ifCond .eq 18, 3) := by decide +kernel
theorem dX5_between_22 : decode cX5_between 22 = .ok (.aload_n 0, 1) := by decide +kernel
theorem dX5_between_23 : decode cX5_between 23 = .ok (.getfield 7, 3) := by decide +kernel
theorem dX5_between_26 : decode cX5_between 26 = .ok (.iload_n 1, 1) := by decide +kernel
theorem dX5_between_27 : decode cX5_between 27 = .ok (.bipush 121, 2) := by decide +kernel
theorem dX5_between_29 : decode cX5_between 29 = .ok (.iadd, 1) := by decide +kernel
theorem dX5_between_30 : decode cX5_between 30 = .ok (.iload 6, 2) := by decide +kernel
theorem dX5_between_32 : decode cX5_between 32 = .ok (.iadd, 1) := by decide +kernel
theorem dX5_between_33 : decode cX5_between 33 = .ok (.iaload, 1) := by decide +kernel
theorem dX5_between_34 : decode cX5_between 34 = .ok (.ifCond .ne 7, 3) := by decide +kernel
theorem dX5_between_37 : decode cX5_between 37 = .ok (.iconst 1, 1) := by decide +kernel
theorem dX5_between_38 : decode cX5_between 38 = .ok (.goto 4, 3) := by decide +kernel
theorem dX5_between_41 : decode cX5_between 41 = .ok (.iconst 0, 1) := by decide +kernel
theorem dX5_between_42 : decode cX5_between 42 = .ok (.istore 7, 2) := by decide +kernel
theorem dX5_between_44 : decode cX5_between 44 = .ok (.iload 5, 2) := by decide +kernel
theorem dX5_between_46 : decode cX5_between 46 = .ok (.iload 7, 2) := by decide +kernel
theorem dX5_between_48 : decode cX5_between 48 = .ok (.ifCond .eq 37, 3) := by decide +kernel
theorem dX5_between_51 : decode cX5_between 51 = .ok (.aload_n 0, 1) := by decide +kernel
theorem dX5_between_52 : decode cX5_between 52 = .ok (.getfield 7, 3) := by decide +kernel
theorem dX5_between_55 : decode cX5_between 55 = .ok (.iload_n 1, 1) := by decide +kernel
theorem dX5_between_56 : decode cX5_between 56 = .ok (.iconst 1, 1) := by decide +kernel
theorem dX5_between_57 : decode cX5_between 57 = .ok (.iadd, 1) := by decide +kernel
theorem dX5_between_58 : decode cX5_between 58 = .ok (.iload 6, 2) := by decide +kernel
theorem dX5_between_60 : decode cX5_between 60 = .ok (.iadd, 1) := by decide +kernel
theorem dX5_between_61 : decode cX5_between 61 = .ok (.iaload, 1) := by decide +kernel
theorem dX5_between_62 : decode cX5_between 62 = .ok (.iload_n 2, 1) := by decide +kernel
theorem dX5_between_63 : decode cX5_between 63 = .ok (.if_icmp .le 22, 3) := by decide +kernel
theorem dX5_between_66 : decode cX5_between 66 = .ok (.aload_n 0, 1) := by decide +kernel
theorem dX5_between_67 : decode cX5_between 67 = .ok (.getfield 7, 3) := by decide +kernel
theorem dX5_between_70 : decode cX5_between 70 = .ok (.iload_n 1, 1) := by decide +kernel
theorem dX5_between_71 : decode cX5_between 71 = .ok (.iconst 1, 1) := by decide +kernel
theorem dX5_between_72 : decode cX5_between 72 = .ok (.iadd, 1) := by decide +kernel
theorem dX5_between_73 : decode cX5_between 73 = .ok (.iload 6, 2) := by decide +kernel
theorem dX5_between_75 : decode cX5_between 75 = .ok (.iadd, 1) := by decide +kernel
theorem dX5_between_76 : decode cX5_between 76 = .ok (.iaload, 1) := by decide +kernel
theorem dX5_between_77 : decode cX5_between 77 = .ok (.iload_n 3, 1) := by decide +kernel
theorem dX5_between_78 : decode cX5_between 78 = .ok (.if_icmp .ge 7, 3) := by decide +kernel
theorem dX5_between_81 : decode cX5_between 81 = .ok (.iconst 1, 1) := by decide +kernel
theorem dX5_between_82 : decode cX5_between 82 = .ok (.goto 4, 3) := by decide +kernel
theorem dX5_between_85 : decode cX5_between 85 = .ok (.iconst 0, 1) := by decide +kernel
theorem dX5_between_86 : decode cX5_between 86 = .ok (.iadd, 1) := by decide +kernel
theorem dX5_between_87 : decode cX5_between 87 = .ok (.istore 5, 2) := by decide +kernel
theorem dX5_between_89 : decode cX5_between 89 = .ok (.iinc 6 1, 3) := by decide +kernel
theorem dX5_between_92 : decode cX5_between 92 = .ok (.goto (-86), 3) := by decide +kernel
theorem dX5_between_95 : decode cX5_between 95 = .ok (.iload 5, 2) := by decide +kernel
theorem dX5_between_97 : decode cX5_between 97 = .ok (.ireturn, 1) := by decide +kernel
set_option maxRecDepth 20000 in
theorem ggX5_seekBounds_X5_seek : GoodIn wsX5_seekBounds wsX5_seek := goodIn_r _ [9, 3, 1, 2, 10, 4, 11, 12, 13, 14, 15, 16, 17, 18, 19, 20, 21, 22, 23, 24, 25, 26, 27, 28, 29, 30, 31] (by decide +kernel) (by decide +kernel)
set_option maxRecDepth 20000 in
theorem gX5_seekBounds_X5_seek : GoodIn wsX5_seekBounds (wsV RX5 79 RX5 yX5_seek wsX5_seek) := goodIn_app (goodIn_of _ (by decide +kernel)) ggX5_seekBounds_X5_seek
theorem dX5_seekBounds_0 : decode cX5_seekBounds 0 = .ok (.aload_n 0, 1) := by decide +kernel
theorem dX5_seekBounds_1 : decode cX5_seekBounds 1 = .ok (.iload_n 1, 1) := by decide +kernel
theorem dX5_seekBounds_2 : decode cX5_seekBounds 2 = .ok (.iload_n 2, 1) := by decide +kernel
theorem dX5_seekBounds_3 : decode cX5_seekBounds 3 = .ok (.invokevirtual 79, 3) := by decide +kernel
theorem dX5_seekBounds_6 : decode cX5_seekBounds 6 = .ok (.aload_n 0, 1) := by decide +kernel
theorem dX5_seekBounds_7 : decode cX5_seekBounds 7 = .ok (.iconst (-1), 1) := by decide +kernel
theorem dX5_seekBounds_8 : decode cX5_seekBounds 8 = .ok (.putfield 69, 3) := by decide +kernel
theorem dX5_seekBounds_11 : decode cX5_seekBounds 11 = .ok (.aload_n 0, 1) := by decide +kernel
theorem dX5_seekBounds_12 : decode cX5_seekBounds 12 = .ok (.sipush 500, 3) := by decide +kernel
theorem dX5_seekBounds_15 : decode cX5_seekBounds 15 = .ok (.putfield 72, 3) := by decide +kernel
theorem dX5_seekBounds_18 : decode cX5_seekBounds 18 = .ok (.iconst 0, 1) := by decide +kernel
theorem dX5_seekBounds_19 : decode cX5_seekBounds 19 = .ok (.istore_n 3, 1) := by decide +kernel
theorem dX5_seekBounds_20 : decode cX5_seekBounds 20 = .ok (.iload_n 3, 1) := by decide +kernel
theorem dX5_seekBounds_21 : decode cX5_seekBounds 21 = .ok (.aload_n 0, 1) := by decide +kernel
theorem dX5_seekBounds_22 : decode cX5_seekBounds 22 = .ok (.getfield 66, 3) := by decide +kernel
theorem dX5_seekBounds_25 : decode cX5_seekBounds 25 = .ok (.iconst 1, 1) := by decide +kernel
theorem dX5_seekBounds_26 : decode cX5_seekBounds 26 = .ok (.isub, 1) := by decide +kernel
theorem dX5_seekBounds_27 : decode cX5_seekBounds 27 = .ok (.if_icmp .ge 89, 3) := by decide +kernel
theorem dX5_seekBounds_30 : decode cX5_seekBounds 30 = .ok (.aload_n 0, 1) := by decide +kernel
theorem dX5_seekBounds_31 : decode cX5_seekBounds 31 = .ok (.aload_n 0, 1) := by decide +kernel
theorem dX5_seekBounds_32 : decode cX5_seekBounds 32 = .ok (.getfield 29, 3) := by decide +kernel
theorem dX5_seekBounds_35 : decode cX5_seekBounds 35 = .ok (.iload_n 3, 1) := by decide +kernel
theorem dX5_seekBounds_36 : decode cX5_seekBounds 36 = .ok (.iaload, 1) := by decide +kernel
theorem dX5_seekBounds_37 : decode cX5_seekBounds 37 = .ok (.iload_n 2, 1) := by decide +kernel
theorem dX5_seekBounds_38 : decode cX5_seekBounds 38 = .ok (.if_icmp .ge 25, 3) := by decide +kernel
theorem dX5_seekBounds_41 : decode cX5_seekBounds 41 = .ok (.aload_n 0, 1) := by decide +kernel
theorem dX5_seekBounds_42 : decode cX5_seekBounds 42 = .ok (.getfield 29, 3) := by decide +kernel
theorem dX5_seekBounds_45 : decode cX5_seekBounds 45 = .ok (.iload_n 3, 1) := by decide +kernel
theorem dX5_seekBounds_46 : decode cX5_seekBounds 46 = .ok (.iaload, 1) := by decide +kernel
theorem dX5_seekBounds_47 : decode cX5_seekBounds 47 = .ok (.aload_n 0, 1) := by decide +kernel
theorem dX5_seekBounds_48 : decode cX5_seekBounds 48 = .ok (.getfield 69, 3) := by decide +kernel
theorem dX5_seekBounds_51 : decode cX5_seekBounds 51 = .ok (.if_icmp .le 12, 3) := by decide +kernel
theorem dX5_seekBounds_54 : decode cX5_seekBounds 54 = .ok (.aload_n 0, 1) := by decide +kernel
theorem dX5_seekBounds_55 : decode cX5_seekBounds 55 = .ok (.getfield 29, 3) := by decide +kernel
theorem dX5_seekBounds_58 : decode cX5_seekBounds 58 = .ok (.iload_n 3, 1) := by decide +kernel
theorem dX5_seekBounds_59 : decode cX5_seekBounds 59 = .ok (.iaload, 1) := by decide +kernel
theorem dX5_seekBounds_60 : decode cX5_seekBounds 60 = .ok (.goto 7, 3) := by decide +kernel
theorem dX5_seekBounds_63 : decode cX5_seekBounds 63 = .ok (.aload_n 0, 1) := by decide +kernel
theorem dX5_seekBounds_64 : decode cX5_seekBounds 64 = .ok (.getfield 69, 3) := by decide +kernel
theorem dX5_seekBounds_67 : decode cX5_seekBounds 67 = .ok (.putfield 69, 3) := by decide +kernel
theorem dX5_seekBounds_70 : decode cX5_seekBounds 70 = .ok (.aload_n 0, 1) := by decide +kernel
theorem dX5_seekBounds_71 : decode cX5_seekBounds 71 = .ok (.aload_n 0, 1) := by decide +kernel
theorem dX5_seekBounds_72 : decode cX5_seekBounds 72 = .ok (.getfield 29, 3) := by decide +kernel
theorem dX5_seekBounds_75 : decode cX5_seekBounds 75 = .ok (.iload_n 3, 1) := by decide +kernel
theorem dX5_seekBounds_76 : decode cX5_seekBounds 76 = .ok (.iaload, 1) := by decide +kernel
theorem dX5_seekBounds_77 : decode cX5_seekBounds 77 = .ok (.iload_n 2, 1) := by decide +kernel
theorem dX5_seekBounds_78 : decode cX5_seekBounds 78 = .ok (.if_icmp .le 25, 3) := by decide +kernel
theorem dX5_seekBounds_81 : decode cX5_seekBounds 81 = .ok (.aload_n 0, 1) := by decide +kernel
theorem dX5_seekBounds_82 : decode cX5_seekBounds 82 = .ok (.getfield 29, 3) := by decide +kernel
theorem dX5_seekBounds_85 : decode cX5_seekBounds 85 = .ok (.iload_n 3, 1) := by decide +kernel
theorem dX5_seekBounds_86 : decode cX5_seekBounds 86 = .ok (.iaload, 1) := by decide +kernel
theorem dX5_seekBounds_87 : decode cX5_seekBounds 87 = .ok (.aload_n 0, 1) := by decide +kernel
theorem dX5_seekBounds_88 : decode cX5_seekBounds 88 = .ok (.getfield 72, 3) := by decide +kernel
theorem dX5_seekBounds_91 : decode cX5_seekBounds 91 = .ok (.if_icmp .ge 12, 3) := by decide +kernel
theorem dX5_seekBounds_94 : decode cX5_seekBounds 94 = .ok (.aload_n 0, 1) := by decide +kernel
theorem dX5_seekBounds_95 : decode cX5_seekBounds 95 = .ok (.getfield 29, 3) := by decide +kernel
theorem dX5_seekBounds_98 : decode cX5_seekBounds 98 = .ok (.iload_n 3, 1) := by decide +kernel
theorem dX5_seekBounds_99 : decode cX5_seekBounds 99 = .ok (.iaload, 1) := by decide +kernel
theorem dX5_seekBounds_100 : decode cX5_seekBounds 100 = .ok (.goto 7, 3) := by decide +kernel
theorem dX5_seekBounds_103 : decode cX5_seekBounds 103 = .ok (.aload_n 0, 1) := by decide +kernel
theorem dX5_seekBounds_104 : decode cX5_seekBounds 104 = .ok (.getfield 72, 3) := by decide +kernel
theorem dX5_seekBounds_107 : decode cX5_seekBounds 107 = .ok (.putfield 72, 3) := by decide +kernel
theorem dX5_seekBounds_110 : decode cX5_seekBounds 110 = .ok (.iinc 3 1, 3) := by decide +kernel
theorem dX5_seekBounds_113 : decode cX5_seekBounds 113 = .ok (.goto (-93), 3) := by decide +kernel
theorem dX5_seekBounds_116 : decode cX5_seekBounds 116 = .ok (.return_, 1) := by decide +kernel
set_option maxRecDepth 20000 in
theorem ggX5_numberOf_X5_seekBounds : GoodIn wsX5_numberOf wsX5_seekBounds := goodIn_r _ [7, 2, 8, 1, 9, 10, 11, 12, 6, 13, 14, 23, 24, 25, 26, 27, 28, 29, 30, 31, 32, 33, 34, 35, 36, 37, 38, 39, 40, 41, 42, 43] (by decide +kernel) (by decide +kernel)
set_option maxRecDepth 20000 in
theorem gX5_numberOf_X5_seekBounds : GoodIn wsX5_numberOf (wsV RX5 168 RX5 yX5_seekBounds wsX5_seekBounds) := goodIn_app (goodIn_of _ (by decide +kernel)) ggX5_numberOf_X5_seekBounds
set_option maxRecDepth 20000 in
theorem ggX5_numberOf_X5_between : GoodIn wsX5_numberOf wsX5_between := goodIn_r _ [18, 14, 23, 24, 25, 26, 27, 28, 29, 30, 31, 32, 33, 34, 35, 36, 37, 38, 39, 40, 41, 42, 43] (by decide +kernel) (by decide +kernel)
set_option maxRecDepth 20000 in
theorem gX5_numberOf_X5_between : GoodIn wsX5_numberOf (wsV RX5 171 RX5 yX5_between wsX5_between) := goodIn_app (goodIn_of _ (by decide +kernel)) ggX5_numberOf_X5_between
set_option maxRecDepth 20000 in
theorem ggX5_numberOf_X5_lesserAbove : GoodIn wsX5_numberOf wsX5_lesserAbove := goodIn_r _ [22, 1, 9, 23, 24, 25, 26, 27, 28, 29, 30, 31, 32, 33, 34, 35, 36, 37, 38, 39, 40, 41, 42, 43] (by decide +kernel) (by decide +kernel)
set_option maxRecDepth 20000 in
theorem gX5_numberOf_X5_lesserAbove : GoodIn wsX5_numberOf (wsV RX5 175 RX5 yX5_lesserAbove wsX5_lesserAbove) := goodIn_app (goodIn_of _ (by decide +kernel)) ggX5_numberOf_X5_lesserAbove
theorem dX5_numberOf_0 : decode cX5_numberOf 0 = .ok (.aload_n 0, 1) := by decide +kernel
theorem dX5_numberOf_1 : decode cX5_numberOf 1 = .ok (.iload_n 1, 1) := by decide +kernel
theorem dX5_numberOf_2 : decode cX5_numberOf 2 = .ok (.iload_n 2, 1) := by decide +kernel
theorem dX5_numberOf_3 : decode cX5_numberOf 3 = .ok (.invokevirtual 168, 3) := by decide +kernel
theorem dX5_numberOf_6 : decode cX5_numberOf 6 = .ok (.aload_n 0, 1) := by decide +kernel
theorem dX5_numberOf_7 : decode cX5_numberOf 7 = .ok (.getfield 66, 3) := by decide +kernel
theorem dX5_numberOf_10 : decode cX5_numberOf 10 = .ok (.iconst 1, 1) := by decide +kernel
theorem dX5_numberOf_11 : decode cX5_numberOf 11 = .ok (.isub, 1) := by decide +kernel
theorem dX5_numberOf_12 : decode cX5_numberOf 12 = .ok (.aload_n 0, 1) := by decide +kernel
theorem dX5_numberOf_13 : decode cX5_numberOf 13 = .ok (.iload_n 1, 1) := by decide +kernel
theorem dX5_numberOf_14 : decode cX5_numberOf 14 = .ok (.iconst (-1), 1) := by decide +kernel
theorem dX5_numberOf_15 : decode cX5_numberOf 15 = .ok (.aload_n 0, 1) := by decide +kernel
theorem dX5_numberOf_16 : decode cX5_numberOf 16 = .ok (.getfield 69, 3) := by decide +kernel
theorem dX5_numberOf_19 : decode cX5_numberOf 19 = .ok (.iconst 0, 1) := by decide +kernel
theorem dX5_numberOf_20 : decode cX5_numberOf 20 = .ok (.invokevirtual 171, 3) := by decide +kernel
theorem dX5_numberOf_23 : decode cX5_numberOf 23 = .ok (.iadd, 1) := by decide +kernel
theorem dX5_numberOf_24 : decode cX5_numberOf 24 = .ok (.aload_n 0, 1) := by decide +kernel
theorem dX5_numberOf_25 : decode cX5_numberOf 25 = .ok (.getfield 69, 3) := by decide +kernel
theorem dX5_numberOf_28 : decode cX5_numberOf 28 = .ok (.ifCond .lt 7, 3) := by decide +kernel
theorem dX5_numberOf_31 : decode cX5_numberOf 31 = .ok (.iconst 1, 1) := by decide +kernel
theorem dX5_numberOf_32 : decode cX5_numberOf 32 = .ok (.goto 4, 3) := by decide +kernel
theorem dX5_numberOf_35 : decode cX5_numberOf 35 = .ok (.iconst 0, 1) := by decide +kernel
theorem dX5_numberOf_36 : decode cX5_numberOf 36 = .ok (.iadd, 1) := by decide +kernel
theorem dX5_numberOf_37 : decode cX5_numberOf 37 = .ok (.aload_n 0, 1) := by decide +kernel
theorem dX5_numberOf_38 : decode cX5_numberOf 38 = .ok (.iload_n 2, 1) := by decide +kernel
theorem dX5_numberOf_39 : decode cX5_numberOf 39 = .ok (.invokevirtual 175, 3) := by decide +kernel
theorem dX5_numberOf_42 : decode cX5_numberOf 42 = .ok (.isub, 1) := by decide +kernel
theorem dX5_numberOf_43 : decode cX5_numberOf 43 = .ok (.ireturn, 1) := by decide +kernel
theorem dX5_lesserAbove_0 : decode cX5_lesserAbove 0 = .ok (.iconst 0, 1) := by decide +kernel
theorem dX5_lesserAbove_1 : decode cX5_lesserAbove 1 = .ok (.istore_n 2, 1) := by decide +kernel
theorem dX5_lesserAbove_2 : decode cX5_lesserAbove 2 = .ok (.iconst 0, 1) := by decide +kernel
theorem dX5_lesserAbove_3 : decode cX5_lesserAbove 3 = .ok (.istore_n 3, 1) := by decide +kernel
theorem dX5_lesserAbove_4 : decode cX5_lesserAbove 4 = .ok (.iload_n 3, 1) := by decide +kernel
theorem dX5_lesserAbove_5 : decode cX5_lesserAbove 5 = .ok (.aload_n 0, 1) := by decide +kernel
theorem dX5_lesserAbove_6 : decode cX5_lesserAbove 6 = .ok (.getfield 66, 3) := by decide +kernel
theorem dX5_lesserAbove_9 : decode cX5_lesserAbove 9 = .ok (.iconst 1, 1) := by decide +kernel
theorem dX5_lesserAbove_10 : decode cX5_lesserAbove 10 = .ok (.isub, 1) := by decide +kernel
theorem dX5_lesserAbove_11 : decode cX5_lesserAbove 11 = .ok (.if_icmp .ge 27, 3) := by decide +kernel
theorem dX5_lesserAbove_14 : decode cX5_lesserAbove 14 = .ok (.iload_n 2, 1) := by decide +kernel
theorem dX5_lesserAbove_15 : decode cX5_lesserAbove 15 = .ok (.aload_n 0, 1) := by decide +kernel
theorem dX5_lesserAbove_16 : decode cX5_lesserAbove 16 = .ok (.getfield 29, 3) := by decide +kernel
theorem dX5_lesserAbove_19 : decode cX5_lesserAbove 19 = .ok (.iload_n 3, 1) := by decide +kernel
theorem dX5_lesserAbove_20 : decode cX5_lesserAbove 20 = .ok (.iaload, 1) := by decide +kernel
theorem dX5_lesserAbove_21 : decode cX5_lesserAbove 21 = .ok (.iload_n 1, 1) := by decide +kernel
theorem dX5_lesserAbove_22 : decode cX5_lesserAbove 22 = .ok (.if_icmp .ge 7, 3) := by decide +kernel
theorem dX5_lesserAbove_25 : decode cX5_lesserAbove 25 = .ok (.iconst 1, 1) := by decide +kernel
theorem dX5_lesserAbove_26 : decode cX5_lesserAbove 26 = .ok (.goto 4, 3) := by decide +kernel
theorem dX5_lesserAbove_29 : decode cX5_lesserAbove 29 = .ok (.iconst 0, 1) := by decide +kernel
theorem dX5_lesserAbove_30 : decode cX5_lesserAbove 30 = .ok (.iadd, 1) := by decide +kernel
theorem dX5_lesserAbove_31 : decode cX5_lesserAbove 31 = .ok (.istore_n 2, 1) := by decide +kernel
theorem dX5_lesserAbove_32 : decode cX5_lesserAbove 32 = .ok (.iinc 3 1, 3) := by decide +kernel
theorem dX5_lesserAbove_35 : decode cX5_lesserAbove 35 = .ok (.goto (-31), 3) := by decide +kernel
theorem dX5_lesserAbove_38 : decode cX5_lesserAbove 38 = .ok (.iload_n 2, 1) := by decide +kernel
theorem dX5_lesserAbove_39 : decode cX5_lesserAbove 39 = .ok (.ireturn, 1) := by decide +kernel
set_option maxRecDepth 20000 in
theorem ggX5_aboutNode_X5_seekBounds : GoodIn wsX5_aboutNode wsX5_seekBounds := goodIn_r _ [9, 3, 4, 2, 10, 11, 12, 13, 8, 14, 1, 19, 20, 21, 22, 23, 24, 25, 26, 27, 28, 29, 30, 31, 32, 33, 34, 35, 36, 37, 38, 39] (by decide +kernel) (by decide +kernel)
set_option maxRecDepth 20000 in
theorem gX5_aboutNode_X5_seekBounds : GoodIn wsX5_aboutNode (wsV RX5 168 RX5 yX5_seekBounds wsX5_seekBounds) := goodIn_app (goodIn_of _ (by decide +kernel)) ggX5_aboutNode_X5_seekBounds
set_option maxRecDepth 20000 in
theorem ggX5_aboutNode_X5_between : GoodIn wsX5_aboutNode wsX5_between := goodIn_r _ [18, 1, 19, 20, 21, 22, 23, 24, 25, 26, 27, 28, 29, 30, 31, 32, 33, 34, 35, 36, 37, 38, 39] (by decide +kernel) (by decide +kernel)
set_option maxRecDepth 20000 in
theorem gX5_aboutNode_X5_between : GoodIn wsX5_aboutNode (wsV RX5 171 RX5 yX5_between wsX5_between) := goodIn_app (goodIn_of _ (by decide +kernel)) ggX5_aboutNode_X5_between
theorem dX5_aboutNode_0 : decode cX5_aboutNode 0 = .ok (.aload_n 0, 1) := by decide +kernel
theorem dX5_aboutNode_1 : decode cX5_aboutNode 1 = .ok (.getfield 7, 3) := by decide +kernel
theorem dX5_aboutNode_4 : decode cX5_aboutNode 4 = .ok (.iload_n 1, 1) := by decide +kernel
theorem dX5_aboutNode_5 : decode cX5_aboutNode 5 = .ok (.iconst 1, 1) := by decide +kernel
theorem dX5_aboutNode_6 : decode cX5_aboutNode 6 = .ok (.iadd, 1) := by decide +kernel
theorem dX5_aboutNode_7 : decode cX5_aboutNode 7 = .ok (.iload_n 2, 1) := by decide +kernel
theorem dX5_aboutNode_8 : decode cX5_aboutNode 8 = .ok (.iadd, 1) := by decide +kernel
theorem dX5_aboutNode_9 : decode cX5_aboutNode 9 = .ok (.iaload, 1) := by decide +kernel
theorem dX5_aboutNode_10 : decode cX5_aboutNode 10 = .ok (.istore 4, 2) := by decide +kernel
theorem dX5_aboutNode_12 : decode cX5_aboutNode 12 = .ok (.aload_n 0, 1) := by decide +kernel
theorem dX5_aboutNode_13 : decode cX5_aboutNode 13 = .ok (.iload_n 1, 1) := by decide +kernel
theorem dX5_aboutNode_14 : decode cX5_aboutNode 14 = .ok (.iload 4, 2) := by decide +kernel
theorem dX5_aboutNode_16 : decode cX5_aboutNode 16 = .ok (.invokevirtual 168, 3) := by decide +kernel
theorem dX5_aboutNode_19 : decode cX5_aboutNode 19 = .ok (.iload_n 3, 1) := by decide +kernel
theorem dX5_aboutNode_20 : decode cX5_aboutNode 20 = .ok (.tableswitch 48 0 2 #[28, 31, 43], 28) := by decide +kernel
theorem dX5_aboutNode_48 : decode cX5_aboutNode 48 = .ok (.iload 4, 2) := by decide +kernel
theorem dX5_aboutNode_50 : decode cX5_aboutNode 50 = .ok (.ireturn, 1) := by decide +kernel
theorem dX5_aboutNode_51 : decode cX5_aboutNode 51 = .ok (.aload_n 0, 1) := by decide +kernel
theorem dX5_aboutNode_52 : decode cX5_aboutNode 52 = .ok (.getfield 7, 3) := by decide +kernel
theorem dX5_aboutNode_55 : decode cX5_aboutNode 55 = .ok (.iload_n 1, 1) := by decide +kernel
theorem dX5_aboutNode_56 : decode cX5_aboutNode 56 = .ok (.bipush 121, 2) := by decide +kernel
theorem dX5_aboutNode_58 : decode cX5_aboutNode 58 = .ok (.iadd, 1) := by decide +kernel
theorem dX5_aboutNode_59 : decode cX5_aboutNode 59 = .ok (.iload_n 2, 1) := by decide +kernel
theorem dX5_aboutNode_60 : decode cX5_aboutNode 60 = .ok (.iadd, 1) := by decide +kernel
theorem dX5_aboutNode_61 : decode cX5_aboutNode 61 = .ok (.iaload, 1) := by decide +kernel
theorem dX5_aboutNode_62 : decode cX5_aboutNode 62 = .ok (.ireturn, 1) := by decide +kernel
theorem dX5_aboutNode_63 : decode cX5_aboutNode 63 = .ok (.aload_n 0, 1) := by decide +kernel
theorem dX5_aboutNode_64 : decode cX5_aboutNode 64 = .ok (.getfield 66, 3) := by decide +kernel
theorem dX5_aboutNode_67 : decode cX5_aboutNode 67 = .ok (.ireturn, 1) := by decide +kernel
theorem dX5_aboutNode_68 : decode cX5_aboutNode 68 = .ok (.aload_n 0, 1) := by decide +kernel
theorem dX5_aboutNode_69 : decode cX5_aboutNode 69 = .ok (.iload_n 1, 1) := by decide +kernel
theorem dX5_aboutNode_70 : decode cX5_aboutNode 70 = .ok (.aload_n 0, 1) := by decide +kernel
theorem dX5_aboutNode_71 : decode cX5_aboutNode 71 = .ok (.getfield 69, 3) := by decide +kernel
theorem dX5_aboutNode_74 : decode cX5_aboutNode 74 = .ok (.aload_n 0, 1) := by decide +kernel
theorem dX5_aboutNode_75 : decode cX5_aboutNode 75 = .ok (.getfield 72, 3) := by decide +kernel
theorem dX5_aboutNode_78 : decode cX5_aboutNode 78 = .ok (.iload_n 3, 1) := by decide +kernel
theorem dX5_aboutNode_79 : decode cX5_aboutNode 79 = .ok (.iconst 4, 1) := by decide +kernel
theorem dX5_aboutNode_80 : decode cX5_aboutNode 80 = .ok (.if_icmp .ne 7, 3) := by decide +kernel
theorem dX5_aboutNode_83 : decode cX5_aboutNode 83 = .ok (.iconst 1, 1) := by decide +kernel
theorem dX5_aboutNode_84 : decode cX5_aboutNode 84 = .ok (.goto 4, 3) := by decide +kernel
theorem dX5_aboutNode_87 : decode cX5_aboutNode 87 = .ok (.iconst 0, 1) := by decide +kernel
theorem dX5_aboutNode_88 : decode cX5_aboutNode 88 = .ok (.invokevirtual 171, 3) := by decide +kernel
theorem dX5_aboutNode_91 : decode cX5_aboutNode 91 = .ok (.ireturn, 1) := by decide +kernel
set_option maxRecDepth 20000 in
theorem ggX5_node_X5_in : GoodIn wsX5_node wsX5_in := goodIn_r _ [5] (by decide +kernel) (by decide +kernel)
set_option maxRecDepth 20000 in
theorem gX5_node_X5_in : GoodIn wsX5_node (va_wsS RX5 51 yX5_in wsX5_in) := goodIn_app (goodIn_of _ (by decide +kernel)) ggX5_node_X5_in
set_option maxRecDepth 20000 in
theorem ggX5_node_X5_refused : GoodIn wsX5_node wsX5_refused := goodIn_r _ [9, 10, 39, 40, 41, 42, 43, 44, 45, 46, 47, 48, 49, 50, 51, 52, 53, 54, 55, 56, 57, 58, 59] (by decide +kernel) (by decide +kernel)
set_option maxRecDepth 20000 in
theorem gX5_node_X5_refused : GoodIn wsX5_node (wsV RX5 125 RX5 yX5_refused wsX5_refused) := goodIn_app (goodIn_of _ (by decide +kernel)) ggX5_node_X5_refused
set_option maxRecDepth 20000 in
theorem ggX5_node_X5_numberOf : GoodIn wsX5_node wsX5_numberOf := goodIn_r _ [14, 15, 16, 17, 18, 19, 4, 20, 21, 22, 23, 24, 25, 26, 1, 27, 28, 29, 30, 31, 32, 33, 34, 39, 40, 41, 42, 43, 44, 45, 46, 47, 48, 49, 50, 51, 52, 53, 54, 55, 56, 57, 58, 59] (by decide +kernel) (by decide +kernel)
set_option maxRecDepth 20000 in
theorem gX5_node_X5_numberOf : GoodIn wsX5_node (wsV RX5 178 RX5 yX5_numberOf wsX5_numberOf) := goodIn_app (goodIn_of _ (by decide +kernel)) ggX5_node_X5_numberOf
set_option maxRecDepth 20000 in
theorem ggX5_node_X5_aboutNode : GoodIn wsX5_node wsX5_aboutNode := goodIn_r _ [38, 1, 15, 16, 21, 17, 18, 19, 4, 20, 22, 23, 24, 25, 26, 27, 28, 29, 30, 39, 40, 41, 42, 43, 44, 45, 46, 47, 48, 49, 50, 51, 52, 53, 54, 55, 56, 57, 58, 59] (by decide +kernel) (by decide +kernel)
set_option maxRecDepth 20000 in
theorem gX5_node_X5_aboutNode : GoodIn wsX5_node (wsV RX5 181 RX5 yX5_aboutNode wsX5_aboutNode) := goodIn_app (goodIn_of _ (by decide +kernel)) ggX5_node_X5_aboutNode
theorem dX5_node_0 : decode cX5_node 0 = .ok (.aload_n 0, 1) := by decide +kernel
theorem dX5_node_1 : decode cX5_node 1 = .ok (.iload_n 2, 1) := by decide +kernel
theorem dX5_node_2 : decode cX5_node 2 = .ok (.ifCond .lt 12, 3) := by decide +kernel
theorem dX5_node_5 : decode cX5_node 5 = .ok (.iload_n 3, 1) := by decide +kernel
theorem dX5_node_6 : decode cX5_node 6 = .ok (.iconst 0, 1) := by decide +kernel
theorem dX5_node_7 : decode cX5_node 7 = .ok (.iconst 4, 1) := by decide +kernel
theorem dX5_node_8 : decode cX5_node 8 = .ok (.invokestatic 51, 3) := by decide +kernel
theorem dX5_node_11 : decode cX5_node 11 = .ok (.ifCond .ne 7, 3) := by decide +kernel
theorem dX5_node_14 : decode cX5_node 14 = .ok (.iconst 1, 1) := by decide +kernel
theorem dX5_node_15 : decode cX5_node 15 = .ok (.goto 4, 3) := by decide +kernel
theorem dX5_node_18 : decode cX5_node 18 = .ok (.iconst 0, 1) := by decide +kernel
theorem dX5_node_19 : decode cX5_node 19 = .ok (.invokevirtual 125, 3) := by decide +kernel
theorem dX5_node_22 : decode cX5_node 22 = .ok (.ifCond .eq 5, 3) := by decide +kernel
theorem dX5_node_25 : decode cX5_node 25 = .ok (.iconst 0, 1) := by decide +kernel
theorem dX5_node_26 : decode cX5_node 26 = .ok (.ireturn, 1) := by decide +kernel
theorem dX5_node_27 : decode cX5_node 27 = .ok (.iload_n 1, 1) := by decide +kernel
theorem dX5_node_28 : decode cX5_node 28 = .ok (.ifCond .eq 9, 3) := by decide +kernel
theorem dX5_node_31 : decode cX5_node 31 = .ok (.sipush 241, 3) := by decide +kernel
theorem dX5_node_34 : decode cX5_node 34 = .ok (.goto 4, 3) := by decide +kernel
theorem dX5_node_37 : decode cX5_node 37 = .ok (.iconst 0, 1) := by decide +kernel
theorem dX5_node_38 : decode cX5_node 38 = .ok (.istore 4, 2) := by decide +kernel
theorem dX5_node_40 : decode cX5_node 40 = .ok (.iconst (-1), 1) := by decide +kernel
theorem dX5_node_41 : decode cX5_node 41 = .ok (.istore 5, 2) := by decide +kernel
theorem dX5_node_43 : decode cX5_node 43 = .ok (.iconst 0, 1) := by decide +kernel
theorem dX5_node_44 : decode cX5_node 44 = .ok (.istore 6, 2) := by decide +kernel
theorem dX5_node_46 : decode cX5_node 46 = .ok (.iload 6, 2) := by decide +kernel
theorem dX5_node_48 : decode cX5_node 48 = .ok (.aload_n 0, 1) := by decide +kernel
theorem dX5_node_49 : decode cX5_node 49 = .ok (.getfield 7, 3) := by decide +kernel
theorem dX5_node_52 : decode cX5_node 52 = .ok (.iload 4, 2) := by decide +kernel
theorem dX5_node_54 : decode cX5_node 54 = .ok (.iaload, 1) := by decide +kernel
theorem dX5_node_55 : decode cX5_node 55 = .ok (.if_icmp .ge 40, 3) := by decide +kernel
theorem dX5_node_58 : decode cX5_node 58 = .ok (.aload_n 0, 1) := by decide +kernel
theorem dX5_node_59 : decode cX5_node 59 = .ok (.iload 4, 2) := by decide +kernel
theorem dX5_node_61 : decode cX5_node 61 = .ok (.aload_n 0, 1) := by decide +kernel
theorem dX5_node_62 : decode cX5_node 62 = .ok (.getfield 7, 3) := by decide +kernel
theorem dX5_node_65 : decode cX5_node 65 = .ok (.iload 4, 2) := by decide +kernel
theorem dX5_node_67 : decode cX5_node 67 = .ok (.iconst 1, 1) := by decide +kernel
theorem dX5_node_68 : decode cX5_node 68 = .ok (.iadd, 1) := by decide +kernel
theorem dX5_node_69 : decode cX5_node 69 = .ok (.iload 6, 2) := by decide +kernel
theorem dX5_node_71 : decode cX5_node 71 = .ok (.iadd, 1) := by decide +kernel
theorem dX5_node_72 : decode cX5_node 72 = .ok (.iaload, 1) := by decide +kernel
theorem dX5_node_73 : decode cX5_node 73 = .ok (.invokevirtual 178, 3) := by decide +kernel
theorem dX5_node_76 : decode cX5_node 76 = .ok (.iload_n 2, 1) := by decide +kernel
theorem dX5_node_77 : decode cX5_node 77 = .ok (.if_icmp .ne 8, 3) := by decide +kernel
theorem dX5_node_80 : decode cX5_node 80 = .ok (.iload 6, 2) := by decide +kernel
theorem dX5_node_82 : decode cX5_node 82 = .ok (.goto 5, 3) := by decide +kernel
theorem dX5_node_85 : decode cX5_node 85 = .ok (.iload 5, 2) := by decide +kernel
theorem dX5_node_87 : decode cX5_node 87 = .ok (.istore 5, 2) := by decide +kernel
theorem dX5_node_89 : decode cX5_node 89 = .ok (.iinc 6 1, 3) := by decide +kernel
theorem dX5_node_92 : decode cX5_node 92 = .ok (.goto (-46), 3) := by decide +kernel
theorem dX5_node_95 : decode cX5_node 95 = .ok (.iload 5, 2) := by decide +kernel
theorem dX5_node_97 : decode cX5_node 97 = .ok (.iconst (-1), 1) := by decide +kernel
theorem dX5_node_98 : decode cX5_node 98 = .ok (.if_icmp .ne 7, 3) := by decide +kernel
theorem dX5_node_101 : decode cX5_node 101 = .ok (.iconst (-1), 1) := by decide +kernel
theorem dX5_node_102 : decode cX5_node 102 = .ok (.goto 12, 3) := by decide +kernel
theorem dX5_node_105 : decode cX5_node 105 = .ok (.aload_n 0, 1) := by decide +kernel
theorem dX5_node_106 : decode cX5_node 106 = .ok (.iload 4, 2) := by decide +kernel
theorem dX5_node_108 : decode cX5_node 108 = .ok (.iload 5, 2) := by decide +kernel
theorem dX5_node_110 : decode cX5_node 110 = .ok (.iload_n 3, 1) := by decide +kernel
theorem dX5_node_111 : decode cX5_node 111 = .ok (.invokevirtual 181, 3) := by decide +kernel
theorem dX5_node_114 : decode cX5_node 114 = .ok (.ireturn, 1) := by decide +kernel
set_option maxRecDepth 20000 in
theorem ggX5_path_X5_isKey : GoodIn wsX5_path wsX5_isKey := goodIn_r _ [6, 7, 8, 5, 9] (by decide +kernel) (by decide +kernel)
set_option maxRecDepth 20000 in
theorem gX5_path_X5_isKey : GoodIn wsX5_path (va_wsS RX5 118 yX5_isKey wsX5_isKey) := goodIn_app (goodIn_of _ (by decide +kernel)) ggX5_path_X5_isKey
set_option maxRecDepth 20000 in
theorem ggX5_path_X5_refused : GoodIn wsX5_path wsX5_refused := goodIn_r _ [13, 14, 22, 23, 24, 25, 26, 27, 28, 29, 30, 31, 32, 33, 34, 35, 36, 37, 38, 39, 40, 41, 42] (by decide +kernel) (by decide +kernel)
set_option maxRecDepth 20000 in
theorem gX5_path_X5_refused : GoodIn wsX5_path (wsV RX5 125 RX5 yX5_refused wsX5_refused) := goodIn_app (goodIn_of _ (by decide +kernel)) ggX5_path_X5_refused
set_option maxRecDepth 20000 in
theorem ggX5_path_X5_seek : GoodIn wsX5_path wsX5_seek := goodIn_r _ [18, 1, 19, 20, 21, 2, 22, 23, 24, 25, 26, 27, 28, 29, 30, 31, 32, 33, 34, 35, 36, 37, 38, 39, 40, 41, 42] (by decide +kernel) (by decide +kernel)
set_option maxRecDepth 20000 in
theorem gX5_path_X5_seek : GoodIn wsX5_path (wsV RX5 79 RX5 yX5_seek wsX5_seek) := goodIn_app (goodIn_of _ (by decide +kernel)) ggX5_path_X5_seek
theorem dX5_path_0 : decode cX5_path 0 = .ok (.aload_n 0, 1) := by decide +kernel
theorem dX5_path_1 : decode cX5_path 1 = .ok (.iload_n 1, 1) := by decide +kernel
theorem dX5_path_2 : decode cX5_path 2 = .ok (.invokestatic 118, 3) := by decide +kernel
theorem dX5_path_5 : decode cX5_path 5 = .ok (.ifCond .eq 7, 3) := by decide +kernel
theorem dX5_path_8 : decode cX5_path 8 = .ok (.iload_n 2, 1) := by decide +kernel
theorem dX5_path_9 : decode cX5_path 9 = .ok (.ifCond .ge 7, 3) := by decide +kernel
theorem dX5_path_12 : decode cX5_path 12 = .ok (.iconst 1, 1) := by decide +kernel
theorem dX5_path_13 : decode cX5_path 13 = .ok (.goto 4, 3) := by decide +kernel
theorem dX5_path_16 : decode cX5_path 16 = .ok (.iconst 0, 1) := by decide +kernel
theorem dX5_path_17 : decode cX5_path 17 = .ok (.invokevirtual 125, 3) := by decide +kernel
theorem dX5_path_20 : decode cX5_path 20 = .ok (.ifCond .eq 5, 3) := by decide +kernel
theorem dX5_path_23 : decode cX5_path 23 = .ok (.iconst 0, 1) := by decide +kernel
theorem dX5_path_24 : decode cX5_path 24 = .ok (.ireturn, 1) := by decide +kernel
theorem dX5_path_25 : decode cX5_path 25 = .ok (.aload_n 0, 1) := by decide +kernel
theorem dX5_path_26 : decode cX5_path 26 = .ok (.iconst 0, 1) := by decide +kernel
theorem dX5_path_27 : decode cX5_path 27 = .ok (.iload_n 1, 1) := by decide +kernel
theorem dX5_path_28 : decode cX5_path 28 = .ok (.invokevirtual 79, 3) := by decide +kernel
theorem dX5_path_31 : decode cX5_path 31 = .ok (.iload_n 2, 1) := by decide +kernel
theorem dX5_path_32 : decode cX5_path 32 = .ok (.aload_n 0, 1) := by decide +kernel
theorem dX5_path_33 : decode cX5_path 33 = .ok (.getfield 66, 3) := by decide +kernel
theorem dX5_path_36 : decode cX5_path 36 = .ok (.if_icmp .ge 12, 3) := by decide +kernel
theorem dX5_path_39 : decode cX5_path 39 = .ok (.aload_n 0, 1) := by decide +kernel
theorem dX5_path_40 : decode cX5_path 40 = .ok (.getfield 29, 3) := by decide +kernel
theorem dX5_path_43 : decode cX5_path 43 = .ok (.iload_n 2, 1) := by decide +kernel
theorem dX5_path_44 : decode cX5_path 44 = .ok (.iaload, 1) := by decide +kernel
theorem dX5_path_45 : decode cX5_path 45 = .ok (.goto 4, 3) := by decide +kernel
theorem dX5_path_48 : decode cX5_path 48 = .ok (.iconst (-1), 1) := by decide +kernel
theorem dX5_path_49 : decode cX5_path 49 = .ok (.ireturn, 1) := by decide +kernel
set_option maxRecDepth 20000 in
theorem ggX5_depths_X5_depthOf : GoodIn wsX5_depths wsX5_depthOf := goodIn_r _ [6, 7, 8, 9, 10, 5, 11, 12, 13, 1, 14, 15, 16, 17, 18, 19, 20, 21, 22, 23, 24, 25, 26, 27, 28, 29, 30, 31, 32, 33, 34, 35] (by decide +kernel) (by decide +kernel)
set_option maxRecDepth 20000 in
theorem gX5_depths_X5_depthOf : GoodIn wsX5_depths (wsV RX5 83 RX5 yX5_depthOf wsX5_depthOf) := goodIn_app (goodIn_of _ (by decide +kernel)) ggX5_depths_X5_depthOf
theorem dX5_depths_0 : decode cX5_depths 0 = .ok (.iconst 0, 1) := by decide +kernel
theorem dX5_depths_1 : decode cX5_depths 1 = .ok (.istore_n 2, 1) := by decide +kernel
theorem dX5_depths_2 : decode cX5_depths 2 = .ok (.iconst 0, 1) := by decide +kernel
theorem dX5_depths_3 : decode cX5_depths 3 = .ok (.istore_n 3, 1) := by decide +kernel
theorem dX5_depths_4 : decode cX5_depths 4 = .ok (.iload_n 3, 1) := by decide +kernel
theorem dX5_depths_5 : decode cX5_depths 5 = .ok (.aload_n 0, 1) := by decide +kernel
theorem dX5_depths_6 : decode cX5_depths 6 = .ok (.getfield 7, 3) := by decide +kernel
theorem dX5_depths_9 : decode cX5_depths 9 = .ok (.iload_n 1, 1) := by decide +kernel
theorem dX5_depths_10 : decode cX5_depths 10 = .ok (.iaload, 1) := by decide +kernel
theorem dX5_depths_11 : decode cX5_depths 11 = .ok (.if_icmp .ge 27, 3) := by decide +kernel
theorem dX5_depths_14 : decode cX5_depths 14 = .ok (.iload_n 2, 1) := by decide +kernel
theorem dX5_depths_15 : decode cX5_depths 15 = .ok (.aload_n 0, 1) := by decide +kernel
theorem dX5_depths_16 : decode cX5_depths 16 = .ok (.iload_n 1, 1) := by decide +kernel
theorem dX5_depths_17 : decode cX5_depths 17 = .ok (.aload_n 0, 1) := by decide +kernel
theorem dX5_depths_18 : decode cX5_depths 18 = .ok (.getfield 7, 3) := by decide +kernel
theorem dX5_depths_21 : decode cX5_depths 21 = .ok (.iload_n 1, 1) := by decide +kernel
theorem dX5_depths_22 : decode cX5_depths 22 = .ok (.iconst 1, 1) := by decide +kernel
theorem dX5_depths_23 : decode cX5_depths 23 = .ok (.iadd, 1) := by decide +kernel
theorem dX5_depths_24 : decode cX5_depths 24 = .ok (.iload_n 3, 1) := by decide +kernel
theorem dX5_depths_25 : decode cX5_depths 25 = .ok (.iadd, 1) := by decide +kernel
theorem dX5_depths_26 : decode cX5_depths 26 = .ok (.iaload, 1) := by decide +kernel
theorem dX5_depths_27 : decode cX5_depths 27 = .ok (.invokevirtual 83, 3) := by decide +kernel
theorem dX5_depths_30 : decode cX5_depths 30 = .ok (.iadd, 1) := by decide +kernel
theorem dX5_depths_31 : decode cX5_depths 31 = .ok (.istore_n 2, 1) := by decide +kernel
theorem dX5_depths_32 : decode cX5_depths 32 = .ok (.iinc 3 1, 3) := by decide +kernel
theorem dX5_depths_35 : decode cX5_depths 35 = .ok (.goto (-31), 3) := by decide +kernel
theorem dX5_depths_38 : decode cX5_depths 38 = .ok (.iload_n 2, 1) := by decide +kernel
theorem dX5_depths_39 : decode cX5_depths 39 = .ok (.ireturn, 1) := by decide +kernel
set_option maxRecDepth 20000 in
theorem ggX5_leaves_X5_seekBounds : GoodIn wsX5_leaves wsX5_seekBounds := goodIn_r _ [8, 2, 3, 9, 10, 11, 12, 13, 7, 14, 1, 19, 20, 21, 22, 23, 24, 25, 26, 27, 28, 29, 30, 31, 32, 33, 34, 35, 36, 37, 38, 39] (by decide +kernel) (by decide +kernel)
set_option maxRecDepth 20000 in
theorem gX5_leaves_X5_seekBounds : GoodIn wsX5_leaves (wsV RX5 168 RX5 yX5_seekBounds wsX5_seekBounds) := goodIn_app (goodIn_of _ (by decide +kernel)) ggX5_leaves_X5_seekBounds
set_option maxRecDepth 20000 in
theorem ggX5_leaves_X5_between : GoodIn wsX5_leaves wsX5_between := goodIn_r _ [18, 1, 19, 20, 21, 22, 23, 24, 25, 26, 27, 28, 29, 30, 31, 32, 33, 34, 35, 36, 37, 38, 39] (by decide +kernel) (by decide +kernel)
set_option maxRecDepth 20000 in
theorem gX5_leaves_X5_between : GoodIn wsX5_leaves (wsV RX5 171 RX5 yX5_between wsX5_between) := goodIn_app (goodIn_of _ (by decide +kernel)) ggX5_leaves_X5_between
theorem dX5_leaves_0 : decode cX5_leaves 0 = .ok (.iconst 0, 1) := by decide +kernel
theorem dX5_leaves_1 : decode cX5_leaves 1 = .ok (.istore_n 2, 1) := by decide +kernel
theorem dX5_leaves_2 : decode cX5_leaves 2 = .ok (.iconst 0, 1) := by decide +kernel
theorem dX5_leaves_3 : decode cX5_leaves 3 = .ok (.istore_n 3, 1) := by decide +kernel
theorem dX5_leaves_4 : decode cX5_leaves 4 = .ok (.iload_n 3, 1) := by decide +kernel
theorem dX5_leaves_5 : decode cX5_leaves 5 = .ok (.aload_n 0, 1) := by decide +kernel
theorem dX5_leaves_6 : decode cX5_leaves 6 = .ok (.getfield 7, 3) := by decide +kernel
theorem dX5_leaves_9 : decode cX5_leaves 9 = .ok (.iload_n 1, 1) := by decide +kernel
theorem dX5_leaves_10 : decode cX5_leaves 10 = .ok (.iaload, 1) := by decide +kernel
theorem dX5_leaves_11 : decode cX5_leaves 11 = .ok (.if_icmp .ge 50, 3) := by decide +kernel
theorem dX5_leaves_14 : decode cX5_leaves 14 = .ok (.aload_n 0, 1) := by decide +kernel
theorem dX5_leaves_15 : decode cX5_leaves 15 = .ok (.iload_n 1, 1) := by decide +kernel
theorem dX5_leaves_16 : decode cX5_leaves 16 = .ok (.aload_n 0, 1) := by decide +kernel
theorem dX5_leaves_17 : decode cX5_leaves 17 = .ok (.getfield 7, 3) := by decide +kernel
theorem dX5_leaves_20 : decode cX5_leaves 20 = .ok (.iload_n 1, 1) := by decide +kernel
theorem dX5_leaves_21 : decode cX5_leaves 21 = .ok (.iconst 1, 1) := by decide +kernel
theorem dX5_leaves_22 : decode cX5_leaves 22 = .ok (.iadd, 1) := by decide +kernel
theorem dX5_leaves_23 : decode cX5_leaves 23 = .ok (.iload_n 3, 1) := by decide +kernel
theorem dX5_leaves_24 : decode cX5_leaves 24 = .ok (.iadd, 1) := by decide +kernel
theorem dX5_leaves_25 : decode cX5_leaves 25 = .ok (.iaload, 1) := by decide +kernel
theorem dX5_leaves_26 : decode cX5_leaves 26 = .ok (.invokevirtual 168, 3) := by decide +kernel
theorem dX5_leaves_29 : decode cX5_leaves 29 = .ok (.iload_n 2, 1) := by decide +kernel
theorem dX5_leaves_30 : decode cX5_leaves 30 = .ok (.aload_n 0, 1) := by decide +kernel
theorem dX5_leaves_31 : decode cX5_leaves 31 = .ok (.iload_n 1, 1) := by decide +kernel
theorem dX5_leaves_32 : decode cX5_leaves 32 = .ok (.aload_n 0, 1) := by decide +kernel
theorem dX5_leaves_33 : decode cX5_leaves 33 = .ok (.getfield 69, 3) := by decide +kernel
theorem dX5_leaves_36 : decode cX5_leaves 36 = .ok (.aload_n 0, 1) := by decide +kernel
theorem dX5_leaves_37 : decode cX5_leaves 37 = .ok (.getfield 72, 3) := by decide +kernel
theorem dX5_leaves_40 : decode cX5_leaves 40 = .ok (.iconst 0, 1) := by decide +kernel
theorem dX5_leaves_41 : decode cX5_leaves 41 = .ok (.invokevirtual 171, 3) := by decide +kernel
theorem dX5_leaves_44 : decode cX5_leaves 44 = .ok (.iconst 1, 1) := by decide +kernel
theorem dX5_leaves_45 : decode cX5_leaves 45 = .ok (.if_icmp .ne 7, 3) := by decide +kernel
theorem dX5_leaves_48 : decode cX5_leaves 48 = .ok (.iconst 1, 1) := by decide +kernel
theorem dX5_leaves_49 : decode cX5_leaves 49 = .ok (.goto 4, 3) := by decide +kernel
theorem dX5_leaves_52 : decode cX5_leaves 52 = .ok (.iconst 0, 1) := by decide +kernel
theorem dX5_leaves_53 : decode cX5_leaves 53 = .ok (.iadd, 1) := by decide +kernel
theorem dX5_leaves_54 : decode cX5_leaves 54 = .ok (.istore_n 2, 1) := by decide +kernel
theorem dX5_leaves_55 : decode cX5_leaves 55 = .ok (.iinc 3 1, 3) := by decide +kernel
theorem dX5_leaves_58 : decode cX5_leaves 58 = .ok (.goto (-54), 3) := by decide +kernel
theorem dX5_leaves_61 : decode cX5_leaves 61 = .ok (.iload_n 2, 1) := by decide +kernel
theorem dX5_leaves_62 : decode cX5_leaves 62 = .ok (.ireturn, 1) := by decide +kernel
theorem dX5_leastDepth_0 : decode cX5_leastDepth 0 = .ok (.iconst 0, 1) := by decide +kernel
theorem dX5_leastDepth_1 : decode cX5_leastDepth 1 = .ok (.istore_n 1, 1) := by decide +kernel
theorem dX5_leastDepth_2 : decode cX5_leastDepth 2 = .ok (.iconst 0, 1) := by decide +kernel
theorem dX5_leastDepth_3 : decode cX5_leastDepth 3 = .ok (.istore_n 2, 1) := by decide +kernel
theorem dX5_leastDepth_4 : decode cX5_leastDepth 4 = .ok (.iload_n 2, 1) := by decide +kernel
theorem dX5_leastDepth_5 : decode cX5_leastDepth 5 = .ok (.iload_n 0, 1) := by decide +kernel
theorem dX5_leastDepth_6 : decode cX5_leastDepth 6 = .ok (.if_icmp .ge 15, 3) := by decide +kernel
theorem dX5_leastDepth_9 : decode cX5_leastDepth 9 = .ok (.iconst 2, 1) := by decide +kernel
theorem dX5_leastDepth_10 : decode cX5_leastDepth 10 = .ok (.iload_n 2, 1) := by decide +kernel
theorem dX5_leastDepth_11 : decode cX5_leastDepth 11 = .ok (.imul, 1) := by decide +kernel
theorem dX5_leastDepth_12 : decode cX5_leastDepth 12 = .ok (.iconst 1, 1) := by decide +kernel
theorem dX5_leastDepth_13 : decode cX5_leastDepth 13 = .ok (.iadd, 1) := by decide +kernel
theorem dX5_leastDepth_14 : decode cX5_leastDepth 14 = .ok (.istore_n 2, 1) := by decide +kernel
theorem dX5_leastDepth_15 : decode cX5_leastDepth 15 = .ok (.iinc 1 1, 3) := by decide +kernel
theorem dX5_leastDepth_18 : decode cX5_leastDepth 18 = .ok (.goto (-14), 3) := by decide +kernel
theorem dX5_leastDepth_21 : decode cX5_leastDepth 21 = .ok (.iload_n 1, 1) := by decide +kernel
theorem dX5_leastDepth_22 : decode cX5_leastDepth 22 = .ok (.ireturn, 1) := by decide +kernel
set_option maxRecDepth 20000 in
theorem ggX5_tree_X5_in : GoodIn wsX5_tree wsX5_in := goodIn_r _ [5] (by decide +kernel) (by decide +kernel)
set_option maxRecDepth 20000 in
theorem gX5_tree_X5_in : GoodIn wsX5_tree (va_wsS RX5 51 yX5_in wsX5_in) := goodIn_app (goodIn_of _ (by decide +kernel)) ggX5_tree_X5_in
set_option maxRecDepth 20000 in
theorem ggX5_tree_X5_refused : GoodIn wsX5_tree wsX5_refused := goodIn_r _ [9, 10, 54, 55, 56, 57, 58, 59, 60, 61, 62, 63, 64, 65, 66, 67, 68, 69, 70, 71, 72, 73, 74] (by decide +kernel) (by decide +kernel)
set_option maxRecDepth 20000 in
theorem gX5_tree_X5_refused : GoodIn wsX5_tree (wsV RX5 125 RX5 yX5_refused wsX5_refused) := goodIn_app (goodIn_of _ (by decide +kernel)) ggX5_tree_X5_refused
set_option maxRecDepth 20000 in
theorem ggX5_tree_X5_presentIn : GoodIn wsX5_tree wsX5_presentIn := goodIn_r _ [14, 1, 15, 16, 17, 4, 18, 54, 55, 56, 57, 58, 59, 60, 61, 62, 63, 64, 65, 66, 67, 68, 69, 70, 71, 72, 73, 74] (by decide +kernel) (by decide +kernel)
set_option maxRecDepth 20000 in
theorem gX5_tree_X5_presentIn : GoodIn wsX5_tree (wsV RX5 162 RX5 yX5_presentIn wsX5_presentIn) := goodIn_app (goodIn_of _ (by decide +kernel)) ggX5_tree_X5_presentIn
set_option maxRecDepth 20000 in
theorem ggX5_tree_X5_markedIn : GoodIn wsX5_tree wsX5_markedIn := goodIn_r _ [18, 1, 54, 55, 56, 57, 58, 59, 60, 61, 62, 63, 64, 65, 66, 67, 68, 69, 70, 71, 72, 73, 74] (by decide +kernel) (by decide +kernel)
set_option maxRecDepth 20000 in
theorem gX5_tree_X5_markedIn : GoodIn wsX5_tree (wsV RX5 75 RX5 yX5_markedIn wsX5_markedIn) := goodIn_app (goodIn_of _ (by decide +kernel)) ggX5_tree_X5_markedIn
set_option maxRecDepth 20000 in
theorem ggX5_tree_X5_depthIn : GoodIn wsX5_tree wsX5_depthIn := goodIn_r _ [22, 1, 23, 24, 25, 4, 26, 27, 28, 29, 30, 31, 32, 33, 34, 54, 55, 56, 57, 58, 59, 60, 61, 62, 63, 64, 65, 66, 67, 68, 69, 70, 71, 72, 73, 74] (by decide +kernel) (by decide +kernel)
set_option maxRecDepth 20000 in
theorem gX5_tree_X5_depthIn : GoodIn wsX5_tree (wsV RX5 112 RX5 yX5_depthIn wsX5_depthIn) := goodIn_app (goodIn_of _ (by decide +kernel)) ggX5_tree_X5_depthIn
set_option maxRecDepth 20000 in
theorem ggX5_tree_X5_depths : GoodIn wsX5_tree wsX5_depths := goodIn_r _ [38, 1, 23, 24, 25, 4, 26, 27, 28, 29, 30, 31, 32, 33, 34, 54, 55, 56, 57, 58, 59, 60, 61, 62, 63, 64, 65, 66, 67, 68, 69, 70, 71, 72, 73, 74] (by decide +kernel) (by decide +kernel)
set_option maxRecDepth 20000 in
theorem gX5_tree_X5_depths : GoodIn wsX5_tree (wsV RX5 185 RX5 yX5_depths wsX5_depths) := goodIn_app (goodIn_of _ (by decide +kernel)) ggX5_tree_X5_depths
set_option maxRecDepth 20000 in
theorem ggX5_tree_X5_leaves : GoodIn wsX5_tree wsX5_leaves := goodIn_r _ [42, 1, 32, 33, 43, 44, 45, 4, 46, 27, 34, 28, 29, 30, 31, 47, 48, 49, 50, 54, 55, 56, 57, 58, 59, 60, 61, 62, 63, 64, 65, 66, 67, 68, 69, 70, 71, 72, 73, 74] (by decide +kernel) (by decide +kernel)
set_option maxRecDepth 20000 in
theorem gX5_tree_X5_leaves : GoodIn wsX5_tree (wsV RX5 188 RX5 yX5_leaves wsX5_leaves) := goodIn_app (goodIn_of _ (by decide +kernel)) ggX5_tree_X5_leaves
set_option maxRecDepth 20000 in
theorem ggX5_tree_X5_leastDepth : GoodIn wsX5_tree wsX5_leastDepth := goodIn_r _ [53] (by decide +kernel) (by decide +kernel)
set_option maxRecDepth 20000 in
theorem gX5_tree_X5_leastDepth : GoodIn wsX5_tree (va_wsS RX5 191 yX5_leastDepth wsX5_leastDepth) := goodIn_app (goodIn_of _ (by decide +kernel)) ggX5_tree_X5_leastDepth
theorem dX5_tree_0 : decode cX5_tree 0 = .ok (.aload_n 0, 1) := by decide +kernel
theorem dX5_tree_1 : decode cX5_tree 1 = .ok (.iload_n 2, 1) := by decide +kernel
theorem dX5_tree_2 : decode cX5_tree 2 = .ok (.iconst 0, 1) := by decide +kernel
theorem dX5_tree_3 : decode cX5_tree 3 = .ok (.bipush 6, 2) := by decide +kernel
theorem dX5_tree_5 : decode cX5_tree 5 = .ok (.invokestatic 51, 3) := by decide +kernel
theorem dX5_tree_8 : decode cX5_tree 8 = .ok (.ifCond .eq 7, 3) := by decide +kernel
theorem dX5_tree_11 : decode cX5_tree 11 = .ok (.iconst 0, 1) := by decide +kernel
theorem dX5_tree_12 : decode cX5_tree 12 = .ok (.goto 4, 3) := by decide +kernel
theorem dX5_tree_15 : decode cX5_tree 15 = .ok (.iconst 1, 1) := by decide +kernel
theorem dX5_tree_16 : decode cX5_tree 16 = .ok (.invokevirtual 125, 3) := by decide +kernel
theorem dX5_tree_19 : decode cX5_tree 19 = .ok (.ifCond .eq 5, 3) := by decide +kernel
theorem dX5_tree_22 : decode cX5_tree 22 = .ok (.iconst 0, 1) := by decide +kernel
theorem dX5_tree_23 : decode cX5_tree 23 = .ok (.ireturn, 1) := by decide +kernel
theorem dX5_tree_24 : decode cX5_tree 24 = .ok (.iload_n 1, 1) := by decide +kernel
theorem dX5_tree_25 : decode cX5_tree 25 = .ok (.ifCond .eq 9, 3) := by decide +kernel
theorem dX5_tree_28 : decode cX5_tree 28 = .ok (.sipush 241, 3) := by decide +kernel
theorem dX5_tree_31 : decode cX5_tree 31 = .ok (.goto 4, 3) := by decide +kernel
theorem dX5_tree_34 : decode cX5_tree 34 = .ok (.iconst 0, 1) := by decide +kernel
theorem dX5_tree_35 : decode cX5_tree 35 = .ok (.istore_n 3, 1) := by decide +kernel
theorem dX5_tree_36 : decode cX5_tree 36 = .ok (.iload_n 2, 1) := by decide +kernel
theorem dX5_tree_37 : decode cX5_tree 37 = .ok (.tableswitch 76 0 5 #[39, 46, 52, 58, 64, 70], 39) := by decide +kernel
theorem dX5_tree_76 : decode cX5_tree 76 = .ok (.aload_n 0, 1) := by decide +kernel
theorem dX5_tree_77 : decode cX5_tree 77 = .ok (.getfield 7, 3) := by decide +kernel
theorem dX5_tree_80 : decode cX5_tree 80 = .ok (.iload_n 3, 1) := by decide +kernel
theorem dX5_tree_81 : decode cX5_tree 81 = .ok (.iaload, 1) := by decide +kernel
theorem dX5_tree_82 : decode cX5_tree 82 = .ok (.ireturn, 1) := by decide +kernel
theorem dX5_tree_83 : decode cX5_tree 83 = .ok (.aload_n 0, 1) := by decide +kernel
theorem dX5_tree_84 : decode cX5_tree 84 = .ok (.iload_n 3, 1) := by decide +kernel
theorem dX5_tree_85 : decode cX5_tree 85 = .ok (.invokevirtual 162, 3) := by decide +kernel
theorem dX5_tree_88 : decode cX5_tree 88 = .ok (.ireturn, 1) := by decide +kernel
theorem dX5_tree_89 : decode cX5_tree 89 = .ok (.aload_n 0, 1) := by decide +kernel
theorem dX5_tree_90 : decode cX5_tree 90 = .ok (.iload_n 3, 1) := by decide +kernel
theorem dX5_tree_91 : decode cX5_tree 91 = .ok (.invokevirtual 75, 3) := by decide +kernel
theorem dX5_tree_94 : decode cX5_tree 94 = .ok (.ireturn, 1) := by decide +kernel
theorem dX5_tree_95 : decode cX5_tree 95 = .ok (.aload_n 0, 1) := by decide +kernel
theorem dX5_tree_96 : decode cX5_tree 96 = .ok (.iload_n 3, 1) := by decide +kernel
theorem dX5_tree_97 : decode cX5_tree 97 = .ok (.invokevirtual 112, 3) := by decide +kernel
theorem dX5_tree_100 : decode cX5_tree 100 = .ok (.ireturn, 1) := by decide +kernel
theorem dX5_tree_101 : decode cX5_tree 101 = .ok (.aload_n 0, 1) := by decide +kernel
theorem dX5_tree_102 : decode cX5_tree 102 = .ok (.iload_n 3, 1) := by decide +kernel
theorem dX5_tree_103 : decode cX5_tree 103 = .ok (.invokevirtual 185, 3) := by decide +kernel
theorem dX5_tree_106 : decode cX5_tree 106 = .ok (.ireturn, 1) := by decide +kernel
theorem dX5_tree_107 : decode cX5_tree 107 = .ok (.aload_n 0, 1) := by decide +kernel
theorem dX5_tree_108 : decode cX5_tree 108 = .ok (.iload_n 3, 1) := by decide +kernel
theorem dX5_tree_109 : decode cX5_tree 109 = .ok (.invokevirtual 188, 3) := by decide +kernel
theorem dX5_tree_112 : decode cX5_tree 112 = .ok (.ireturn, 1) := by decide +kernel
theorem dX5_tree_113 : decode cX5_tree 113 = .ok (.aload_n 0, 1) := by decide +kernel
theorem dX5_tree_114 : decode cX5_tree 114 = .ok (.iload_n 3, 1) := by decide +kernel
theorem dX5_tree_115 : decode cX5_tree 115 = .ok (.invokevirtual 162, 3) := by decide +kernel
theorem dX5_tree_118 : decode cX5_tree 118 = .ok (.invokestatic 191, 3) := by decide +kernel
theorem dX5_tree_121 : decode cX5_tree 121 = .ok (.ireturn, 1) := by decide +kernel
set_option maxRecDepth 20000 in
theorem ggX5_inOneAlone_X5_isPresent : GoodIn wsX5_inOneAlone wsX5_isPresent := goodIn_r _ [5, 6, 7, 8, 9, 4, 10, 11, 12, 13, 14, 15, 16, 17, 18, 19, 20, 21, 22, 23, 24, 25, 26, 27, 28, 29, 30, 31] (by decide +kernel) (by decide +kernel)
set_option maxRecDepth 20000 in
theorem gX5_inOneAlone_X5_isPresent : GoodIn wsX5_inOneAlone (wsV RX5 86 RX5 yX5_isPresent wsX5_isPresent) := goodIn_app (goodIn_of _ (by decide +kernel)) ggX5_inOneAlone_X5_isPresent
theorem dX5_inOneAlone_0 : decode cX5_inOneAlone 0 = .ok (.iconst 0, 1) := by decide +kernel
theorem dX5_inOneAlone_1 : decode cX5_inOneAlone 1 = .ok (.istore_n 1, 1) := by decide +kernel
theorem dX5_inOneAlone_2 : decode cX5_inOneAlone 2 = .ok (.iconst 0, 1) := by decide +kernel
theorem dX5_inOneAlone_3 : decode cX5_inOneAlone 3 = .ok (.istore_n 2, 1) := by decide +kernel
theorem dX5_inOneAlone_4 : decode cX5_inOneAlone 4 = .ok (.iload_n 2, 1) := by decide +kernel
theorem dX5_inOneAlone_5 : decode cX5_inOneAlone 5 = .ok (.sipush 500, 3) := by decide +kernel
theorem dX5_inOneAlone_8 : decode cX5_inOneAlone 8 = .ok (.if_icmp .ge 34, 3) := by decide +kernel
theorem dX5_inOneAlone_11 : decode cX5_inOneAlone 11 = .ok (.iload_n 1, 1) := by decide +kernel
theorem dX5_inOneAlone_12 : decode cX5_inOneAlone 12 = .ok (.aload_n 0, 1) := by decide +kernel
theorem dX5_inOneAlone_13 : decode cX5_inOneAlone 13 = .ok (.iconst 0, 1) := by decide +kernel
theorem dX5_inOneAlone_14 : decode cX5_inOneAlone 14 = .ok (.iload_n 2, 1) := by decide +kernel
theorem dX5_inOneAlone_15 : decode cX5_inOneAlone 15 = .ok (.invokevirtual 86, 3) := by decide +kernel
theorem dX5_inOneAlone_18 : decode cX5_inOneAlone 18 = .ok (.aload_n 0, 1) := by decide +kernel
theorem dX5_inOneAlone_19 : decode cX5_inOneAlone 19 = .ok (.sipush 241, 3) := by decide +kernel
theorem dX5_inOneAlone_22 : decode cX5_inOneAlone 22 = .ok (.iload_n 2, 1) := by decide +kernel
theorem dX5_inOneAlone_23 : decode cX5_inOneAlone 23 = .ok (.invokevirtual 86, 3) := by decide +kernel
theorem dX5_inOneAlone_26 : decode cX5_inOneAlone 26 = .ok (.if_icmp .eq 7, 3) := by decide +kernel
theorem dX5_inOneAlone_29 : decode cX5_inOneAlone 29 = .ok (.iconst 1, 1) := by decide +kernel
theorem dX5_inOneAlone_30 : decode cX5_inOneAlone 30 = .ok (.goto 4, 3) := by decide +kernel
theorem dX5_inOneAlone_33 : decode cX5_inOneAlone 33 = .ok (.iconst 0, 1) := by decide +kernel
theorem dX5_inOneAlone_34 : decode cX5_inOneAlone 34 = .ok (.iadd, 1) := by decide +kernel
theorem dX5_inOneAlone_35 : decode cX5_inOneAlone 35 = .ok (.istore_n 1, 1) := by decide +kernel
theorem dX5_inOneAlone_36 : decode cX5_inOneAlone 36 = .ok (.iinc 2 1, 3) := by decide +kernel
theorem dX5_inOneAlone_39 : decode cX5_inOneAlone 39 = .ok (.goto (-35), 3) := by decide +kernel
theorem dX5_inOneAlone_42 : decode cX5_inOneAlone 42 = .ok (.iload_n 1, 1) := by decide +kernel
theorem dX5_inOneAlone_43 : decode cX5_inOneAlone 43 = .ok (.ireturn, 1) := by decide +kernel
set_option maxRecDepth 20000 in
theorem ggX5_aboutRebuild_X5_inOneAlone : GoodIn wsX5_aboutRebuild wsX5_inOneAlone := goodIn_r _ [6, 7, 8, 9, 5, 10, 1, 11, 12, 13, 14, 15, 16, 17, 18, 19, 20, 21, 22, 23, 24, 25, 26, 27, 28, 29, 30, 31, 32, 33, 34, 35] (by decide +kernel) (by decide +kernel)
set_option maxRecDepth 20000 in
theorem gX5_aboutRebuild_X5_inOneAlone : GoodIn wsX5_aboutRebuild (wsV RX5 194 RX5 yX5_inOneAlone wsX5_inOneAlone) := goodIn_app (goodIn_of _ (by decide +kernel)) ggX5_aboutRebuild_X5_inOneAlone
theorem dX5_aboutRebuild_0 : decode cX5_aboutRebuild 0 = .ok (.aload_n 0, 1) := by decide +kernel
theorem dX5_aboutRebuild_1 : decode cX5_aboutRebuild 1 = .ok (.getfield 7, 3) := by decide +kernel
theorem dX5_aboutRebuild_4 : decode cX5_aboutRebuild 4 = .ok (.sipush 484, 3) := by decide +kernel
theorem dX5_aboutRebuild_7 : decode cX5_aboutRebuild 7 = .ok (.iaload, 1) := by decide +kernel
theorem dX5_aboutRebuild_8 : decode cX5_aboutRebuild 8 = .ok (.aload_n 0, 1) := by decide +kernel
theorem dX5_aboutRebuild_9 : decode cX5_aboutRebuild 9 = .ok (.getfield 7, 3) := by decide +kernel
theorem dX5_aboutRebuild_12 : decode cX5_aboutRebuild 12 = .ok (.sipush 483, 3) := by decide +kernel
theorem dX5_aboutRebuild_15 : decode cX5_aboutRebuild 15 = .ok (.iaload, 1) := by decide +kernel
theorem dX5_aboutRebuild_16 : decode cX5_aboutRebuild 16 = .ok (.if_icmp .ge 7, 3) := by decide +kernel
theorem dX5_aboutRebuild_19 : decode cX5_aboutRebuild 19 = .ok (.iconst 1, 1) := by decide +kernel
theorem dX5_aboutRebuild_20 : decode cX5_aboutRebuild 20 = .ok (.goto 4, 3) := by decide +kernel
theorem dX5_aboutRebuild_23 : decode cX5_aboutRebuild 23 = .ok (.iconst 0, 1) := by decide +kernel
theorem dX5_aboutRebuild_24 : decode cX5_aboutRebuild 24 = .ok (.istore_n 2, 1) := by decide +kernel
theorem dX5_aboutRebuild_25 : decode cX5_aboutRebuild 25 = .ok (.iload_n 1, 1) := by decide +kernel
theorem dX5_aboutRebuild_26 : decode cX5_aboutRebuild 26 = .ok (.tableswitch 97 0 4 #[34, 44, 53, 62, 71], 34) := by decide +kernel
theorem dX5_aboutRebuild_60 : decode cX5_aboutRebuild 60 = .ok (.iload_n 2, 1) := by decide +kernel
theorem dX5_aboutRebuild_61 : decode cX5_aboutRebuild 61 = .ok (.ifCond .eq 7, 3) := by decide +kernel
theorem dX5_aboutRebuild_64 : decode cX5_aboutRebuild 64 = .ok (.iconst 1, 1) := by decide +kernel
theorem dX5_aboutRebuild_65 : decode cX5_aboutRebuild 65 = .ok (.goto 4, 3) := by decide +kernel
theorem dX5_aboutRebuild_68 : decode cX5_aboutRebuild 68 = .ok (.iconst 2, 1) := by decide +kernel
theorem dX5_aboutRebuild_69 : decode cX5_aboutRebuild 69 = .ok (.ireturn, 1) := by decide +kernel
theorem dX5_aboutRebuild_70 : decode cX5_aboutRebuild 70 = .ok (.aload_n 0, 1) := by decide +kernel
theorem dX5_aboutRebuild_71 : decode cX5_aboutRebuild 71 = .ok (.getfield 7, 3) := by decide +kernel
theorem dX5_aboutRebuild_74 : decode cX5_aboutRebuild 74 = .ok (.sipush 483, 3) := by decide +kernel
theorem dX5_aboutRebuild_77 : decode cX5_aboutRebuild 77 = .ok (.iaload, 1) := by decide +kernel
theorem dX5_aboutRebuild_78 : decode cX5_aboutRebuild 78 = .ok (.ireturn, 1) := by decide +kernel
theorem dX5_aboutRebuild_79 : decode cX5_aboutRebuild 79 = .ok (.aload_n 0, 1) := by decide +kernel
theorem dX5_aboutRebuild_80 : decode cX5_aboutRebuild 80 = .ok (.getfield 7, 3) := by decide +kernel
theorem dX5_aboutRebuild_83 : decode cX5_aboutRebuild 83 = .ok (.sipush 484, 3) := by decide +kernel
theorem dX5_aboutRebuild_86 : decode cX5_aboutRebuild 86 = .ok (.iaload, 1) := by decide +kernel
theorem dX5_aboutRebuild_87 : decode cX5_aboutRebuild 87 = .ok (.ireturn, 1) := by decide +kernel
theorem dX5_aboutRebuild_88 : decode cX5_aboutRebuild 88 = .ok (.aload_n 0, 1) := by decide +kernel
theorem dX5_aboutRebuild_89 : decode cX5_aboutRebuild 89 = .ok (.getfield 7, 3) := by decide +kernel
theorem dX5_aboutRebuild_92 : decode cX5_aboutRebuild 92 = .ok (.sipush 485, 3) := by decide +kernel
theorem dX5_aboutRebuild_95 : decode cX5_aboutRebuild 95 = .ok (.iaload, 1) := by decide +kernel
theorem dX5_aboutRebuild_96 : decode cX5_aboutRebuild 96 = .ok (.ireturn, 1) := by decide +kernel
theorem dX5_aboutRebuild_97 : decode cX5_aboutRebuild 97 = .ok (.iload_n 2, 1) := by decide +kernel
theorem dX5_aboutRebuild_98 : decode cX5_aboutRebuild 98 = .ok (.ifCond .eq 23, 3) := by decide +kernel
theorem dX5_aboutRebuild_101 : decode cX5_aboutRebuild 101 = .ok (.aload_n 0, 1) := by decide +kernel
theorem dX5_aboutRebuild_102 : decode cX5_aboutRebuild 102 = .ok (.getfield 7, 3) := by decide +kernel
theorem dX5_aboutRebuild_105 : decode cX5_aboutRebuild 105 = .ok (.sipush 486, 3) := by decide +kernel
theorem dX5_aboutRebuild_108 : decode cX5_aboutRebuild 108 = .ok (.aload_n 0, 1) := by decide +kernel
theorem dX5_aboutRebuild_109 : decode cX5_aboutRebuild 109 = .ok (.getfield 7, 3) := by decide +kernel
theorem dX5_aboutRebuild_112 : decode cX5_aboutRebuild 112 = .ok (.sipush 484, 3) := by decide +kernel
theorem dX5_aboutRebuild_115 : decode cX5_aboutRebuild 115 = .ok (.iaload, 1) := by decide +kernel
theorem dX5_aboutRebuild_116 : decode cX5_aboutRebuild 116 = .ok (.iadd, 1) := by decide +kernel
theorem dX5_aboutRebuild_117 : decode cX5_aboutRebuild 117 = .ok (.iaload, 1) := by decide +kernel
theorem dX5_aboutRebuild_118 : decode cX5_aboutRebuild 118 = .ok (.goto 4, 3) := by decide +kernel
theorem dX5_aboutRebuild_121 : decode cX5_aboutRebuild 121 = .ok (.iconst (-1), 1) := by decide +kernel
theorem dX5_aboutRebuild_122 : decode cX5_aboutRebuild 122 = .ok (.ireturn, 1) := by decide +kernel
theorem dX5_aboutRebuild_123 : decode cX5_aboutRebuild 123 = .ok (.aload_n 0, 1) := by decide +kernel
theorem dX5_aboutRebuild_124 : decode cX5_aboutRebuild 124 = .ok (.invokevirtual 194, 3) := by decide +kernel
theorem dX5_aboutRebuild_127 : decode cX5_aboutRebuild 127 = .ok (.ireturn, 1) := by decide +kernel
set_option maxRecDepth 20000 in
theorem ggX5_rebuild_X5_in : GoodIn wsX5_rebuild wsX5_in := goodIn_r _ [5] (by decide +kernel) (by decide +kernel)
set_option maxRecDepth 20000 in
theorem gX5_rebuild_X5_in : GoodIn wsX5_rebuild (va_wsS RX5 51 yX5_in wsX5_in) := goodIn_app (goodIn_of _ (by decide +kernel)) ggX5_rebuild_X5_in
set_option maxRecDepth 20000 in
theorem ggX5_rebuild_X5_refused : GoodIn wsX5_rebuild wsX5_refused := goodIn_r _ [9, 10, 27, 28, 29, 30, 31, 32, 33, 34, 35, 36, 37, 38, 39, 40, 41, 42, 43, 44, 45, 46, 47] (by decide +kernel) (by decide +kernel)
set_option maxRecDepth 20000 in
theorem gX5_rebuild_X5_refused : GoodIn wsX5_rebuild (wsV RX5 125 RX5 yX5_refused wsX5_refused) := goodIn_app (goodIn_of _ (by decide +kernel)) ggX5_rebuild_X5_refused
set_option maxRecDepth 20000 in
theorem ggX5_rebuild_X5_aboutRebuild : GoodIn wsX5_rebuild wsX5_aboutRebuild := goodIn_r _ [14, 1, 15, 16, 17, 4, 18, 19, 20, 21, 22, 23, 24, 25, 26, 27, 28, 29, 30, 31, 32, 33, 34, 35, 36, 37, 38, 39, 40, 41, 42, 43, 44, 45, 46, 47] (by decide +kernel) (by decide +kernel)
set_option maxRecDepth 20000 in
theorem gX5_rebuild_X5_aboutRebuild : GoodIn wsX5_rebuild (wsV RX5 197 RX5 yX5_aboutRebuild wsX5_aboutRebuild) := goodIn_app (goodIn_of _ (by decide +kernel)) ggX5_rebuild_X5_aboutRebuild
theorem dX5_rebuild_0 : decode cX5_rebuild 0 = .ok (.aload_n 0, 1) := by decide +kernel
theorem dX5_rebuild_1 : decode cX5_rebuild 1 = .ok (.iload_n 1, 1) := by decide +kernel
theorem dX5_rebuild_2 : decode cX5_rebuild 2 = .ok (.iconst 0, 1) := by decide +kernel
theorem dX5_rebuild_3 : decode cX5_rebuild 3 = .ok (.iconst 5, 1) := by decide +kernel
theorem dX5_rebuild_4 : decode cX5_rebuild 4 = .ok (.invokestatic 51, 3) := by decide +kernel
theorem dX5_rebuild_7 : decode cX5_rebuild 7 = .ok (.ifCond .eq 7, 3) := by decide +kernel
theorem dX5_rebuild_10 : decode cX5_rebuild 10 = .ok (.iconst 0, 1) := by decide +kernel
theorem dX5_rebuild_11 : decode cX5_rebuild 11 = .ok (.goto 4, 3) := by decide +kernel
theorem dX5_rebuild_14 : decode cX5_rebuild 14 = .ok (.iconst 1, 1) := by decide +kernel
theorem dX5_rebuild_15 : decode cX5_rebuild 15 = .ok (.invokevirtual 125, 3) := by decide +kernel
theorem dX5_rebuild_18 : decode cX5_rebuild 18 = .ok (.ifCond .eq 5, 3) := by decide +kernel
theorem dX5_rebuild_21 : decode cX5_rebuild 21 = .ok (.iconst 0, 1) := by decide +kernel
theorem dX5_rebuild_22 : decode cX5_rebuild 22 = .ok (.ireturn, 1) := by decide +kernel
theorem dX5_rebuild_23 : decode cX5_rebuild 23 = .ok (.aload_n 0, 1) := by decide +kernel
theorem dX5_rebuild_24 : decode cX5_rebuild 24 = .ok (.getfield 7, 3) := by decide +kernel
theorem dX5_rebuild_27 : decode cX5_rebuild 27 = .ok (.sipush 482, 3) := by decide +kernel
theorem dX5_rebuild_30 : decode cX5_rebuild 30 = .ok (.iaload, 1) := by decide +kernel
theorem dX5_rebuild_31 : decode cX5_rebuild 31 = .ok (.iconst 1, 1) := by decide +kernel
theorem dX5_rebuild_32 : decode cX5_rebuild 32 = .ok (.if_icmp .ne 11, 3) := by decide +kernel
theorem dX5_rebuild_35 : decode cX5_rebuild 35 = .ok (.aload_n 0, 1) := by decide +kernel
theorem dX5_rebuild_36 : decode cX5_rebuild 36 = .ok (.iload_n 1, 1) := by decide +kernel
theorem dX5_rebuild_37 : decode cX5_rebuild 37 = .ok (.invokevirtual 197, 3) := by decide +kernel
theorem dX5_rebuild_40 : decode cX5_rebuild 40 = .ok (.goto 13, 3) := by decide +kernel
theorem dX5_rebuild_43 : decode cX5_rebuild 43 = .ok (.iload_n 1, 1) := by decide +kernel
theorem dX5_rebuild_44 : decode cX5_rebuild 44 = .ok (.iconst 4, 1) := by decide +kernel
theorem dX5_rebuild_45 : decode cX5_rebuild 45 = .ok (.if_icmp .ne 7, 3) := by decide +kernel
theorem dX5_rebuild_48 : decode cX5_rebuild 48 = .ok (.iconst (-1), 1) := by decide +kernel
theorem dX5_rebuild_49 : decode cX5_rebuild 49 = .ok (.goto 4, 3) := by decide +kernel
theorem dX5_rebuild_52 : decode cX5_rebuild 52 = .ok (.iconst 0, 1) := by decide +kernel
theorem dX5_rebuild_53 : decode cX5_rebuild 53 = .ok (.ireturn, 1) := by decide +kernel
set_option maxRecDepth 20000 in
theorem ggX5_queued_X5_refused : GoodIn wsX5_queued wsX5_refused := goodIn_r _ [6, 7, 8, 9, 10, 11, 12, 13, 14, 15, 16, 17, 18, 19, 20, 21, 22, 23, 24, 25, 26, 27, 28] (by decide +kernel) (by decide +kernel)
set_option maxRecDepth 20000 in
theorem gX5_queued_X5_refused : GoodIn wsX5_queued (wsV RX5 125 RX5 yX5_refused wsX5_refused) := goodIn_app (goodIn_of _ (by decide +kernel)) ggX5_queued_X5_refused
theorem dX5_queued_0 : decode cX5_queued 0 = .ok (.aload_n 0, 1) := by decide +kernel
theorem dX5_queued_1 : decode cX5_queued 1 = .ok (.iload_n 1, 1) := by decide +kernel
theorem dX5_queued_2 : decode cX5_queued 2 = .ok (.ifCond .ge 7, 3) := by decide +kernel
theorem dX5_queued_5 : decode cX5_queued 5 = .ok (.iconst 1, 1) := by decide +kernel
theorem dX5_queued_6 : decode cX5_queued 6 = .ok (.goto 4, 3) := by decide +kernel
theorem dX5_queued_9 : decode cX5_queued 9 = .ok (.iconst 0, 1) := by decide +kernel
theorem dX5_queued_10 : decode cX5_queued 10 = .ok (.invokevirtual 125, 3) := by decide +kernel
theorem dX5_queued_13 : decode cX5_queued 13 = .ok (.ifCond .eq 5, 3) := by decide +kernel
theorem dX5_queued_16 : decode cX5_queued 16 = .ok (.iconst 0, 1) := by decide +kernel
theorem dX5_queued_17 : decode cX5_queued 17 = .ok (.ireturn, 1) := by decide +kernel
theorem dX5_queued_18 : decode cX5_queued 18 = .ok (.iload_n 1, 1) := by decide +kernel
theorem dX5_queued_19 : decode cX5_queued 19 = .ok (.aload_n 0, 1) := by decide +kernel
theorem dX5_queued_20 : decode cX5_queued 20 = .ok (.getfield 7, 3) := by decide +kernel
theorem dX5_queued_23 : decode cX5_queued 23 = .ok (.sipush 485, 3) := by decide +kernel
theorem dX5_queued_26 : decode cX5_queued 26 = .ok (.iaload, 1) := by decide +kernel
theorem dX5_queued_27 : decode cX5_queued 27 = .ok (.if_icmp .ge 16, 3) := by decide +kernel
theorem dX5_queued_30 : decode cX5_queued 30 = .ok (.aload_n 0, 1) := by decide +kernel
theorem dX5_queued_31 : decode cX5_queued 31 = .ok (.getfield 7, 3) := by decide +kernel
theorem dX5_queued_34 : decode cX5_queued 34 = .ok (.sipush 606, 3) := by decide +kernel
theorem dX5_queued_37 : decode cX5_queued 37 = .ok (.iload_n 1, 1) := by decide +kernel
theorem dX5_queued_38 : decode cX5_queued 38 = .ok (.iadd, 1) := by decide +kernel
theorem dX5_queued_39 : decode cX5_queued 39 = .ok (.iaload, 1) := by decide +kernel
theorem dX5_queued_40 : decode cX5_queued 40 = .ok (.goto 4, 3) := by decide +kernel
theorem dX5_queued_43 : decode cX5_queued 43 = .ok (.iconst (-1), 1) := by decide +kernel
theorem dX5_queued_44 : decode cX5_queued 44 = .ok (.ireturn, 1) := by decide +kernel
set_option maxRecDepth 20000 in
theorem ggX5_count_X5_in : GoodIn wsX5_count wsX5_in := goodIn_r _ [7] (by decide +kernel) (by decide +kernel)
set_option maxRecDepth 20000 in
theorem gX5_count_X5_in : GoodIn wsX5_count (va_wsS RX5 51 yX5_in wsX5_in) := goodIn_app (goodIn_of _ (by decide +kernel)) ggX5_count_X5_in
set_option maxRecDepth 20000 in
theorem ggX5_count_X5_refused : GoodIn wsX5_count wsX5_refused := goodIn_r _ [11, 12, 13, 14, 15, 16, 17, 18, 19, 20, 21, 22, 23, 24, 25, 26, 27, 28, 29, 30, 31, 32, 33] (by decide +kernel) (by decide +kernel)
set_option maxRecDepth 20000 in
theorem gX5_count_X5_refused : GoodIn wsX5_count (wsV RX5 125 RX5 yX5_refused wsX5_refused) := goodIn_app (goodIn_of _ (by decide +kernel)) ggX5_count_X5_refused
theorem dX5_count_0 : decode cX5_count 0 = .ok (.aload_n 0, 1) := by decide +kernel
theorem dX5_count_1 : decode cX5_count 1 = .ok (.iload_n 1, 1) := by decide +kernel
theorem dX5_count_2 : decode cX5_count 2 = .ok (.iconst 0, 1) := by decide +kernel
theorem dX5_count_3 : decode cX5_count 3 = .ok (.bipush 8, 2) := by decide +kernel
theorem dX5_count_5 : decode cX5_count 5 = .ok (.invokestatic 51, 3) := by decide +kernel
theorem dX5_count_8 : decode cX5_count 8 = .ok (.ifCond .eq 7, 3) := by decide +kernel
theorem dX5_count_11 : decode cX5_count 11 = .ok (.iconst 0, 1) := by decide +kernel
theorem dX5_count_12 : decode cX5_count 12 = .ok (.goto 4, 3) := by decide +kernel
theorem dX5_count_15 : decode cX5_count 15 = .ok (.iconst 1, 1) := by decide +kernel
theorem dX5_count_16 : decode cX5_count 16 = .ok (.invokevirtual 125, 3) := by decide +kernel
theorem dX5_count_19 : decode cX5_count 19 = .ok (.ifCond .eq 5, 3) := by decide +kernel
theorem dX5_count_22 : decode cX5_count 22 = .ok (.iconst 0, 1) := by decide +kernel
theorem dX5_count_23 : decode cX5_count 23 = .ok (.ireturn, 1) := by decide +kernel
theorem dX5_count_24 : decode cX5_count 24 = .ok (.iload_n 1, 1) := by decide +kernel
theorem dX5_count_25 : decode cX5_count 25 = .ok (.bipush 7, 2) := by decide +kernel
theorem dX5_count_27 : decode cX5_count 27 = .ok (.if_icmp .ge 16, 3) := by decide +kernel
theorem dX5_count_30 : decode cX5_count 30 = .ok (.aload_n 0, 1) := by decide +kernel
theorem dX5_count_31 : decode cX5_count 31 = .ok (.getfield 7, 3) := by decide +kernel
theorem dX5_count_34 : decode cX5_count 34 = .ok (.sipush 639, 3) := by decide +kernel
theorem dX5_count_37 : decode cX5_count 37 = .ok (.iload_n 1, 1) := by decide +kernel
theorem dX5_count_38 : decode cX5_count 38 = .ok (.iadd, 1) := by decide +kernel
theorem dX5_count_39 : decode cX5_count 39 = .ok (.iaload, 1) := by decide +kernel
theorem dX5_count_40 : decode cX5_count 40 = .ok (.goto 20, 3) := by decide +kernel
theorem dX5_count_43 : decode cX5_count 43 = .ok (.iload_n 1, 1) := by decide +kernel
theorem dX5_count_44 : decode cX5_count 44 = .ok (.bipush 7, 2) := by decide +kernel
theorem dX5_count_46 : decode cX5_count 46 = .ok (.if_icmp .ne 10, 3) := by decide +kernel
theorem dX5_count_49 : decode cX5_count 49 = .ok (.aload_n 0, 1) := by decide +kernel
theorem dX5_count_50 : decode cX5_count 50 = .ok (.getfield 55, 3) := by decide +kernel
theorem dX5_count_53 : decode cX5_count 53 = .ok (.goto 7, 3) := by decide +kernel
theorem dX5_count_56 : decode cX5_count 56 = .ok (.aload_n 0, 1) := by decide +kernel
theorem dX5_count_57 : decode cX5_count 57 = .ok (.getfield 137, 3) := by decide +kernel
theorem dX5_count_60 : decode cX5_count 60 = .ok (.ireturn, 1) := by decide +kernel
set_option maxRecDepth 20000 in
theorem ggX5_setting_X5_in : GoodIn wsX5_setting wsX5_in := goodIn_r _ [5] (by decide +kernel) (by decide +kernel)
set_option maxRecDepth 20000 in
theorem gX5_setting_X5_in : GoodIn wsX5_setting (va_wsS RX5 51 yX5_in wsX5_in) := goodIn_app (goodIn_of _ (by decide +kernel)) ggX5_setting_X5_in
set_option maxRecDepth 20000 in
theorem ggX5_setting_X5_refused : GoodIn wsX5_setting wsX5_refused := goodIn_r _ [9, 10, 11, 12, 13, 14, 15, 16, 17, 18, 19, 20, 21, 22, 23, 24, 25, 26, 27, 28, 29, 30, 31] (by decide +kernel) (by decide +kernel)
set_option maxRecDepth 20000 in
theorem gX5_setting_X5_refused : GoodIn wsX5_setting (wsV RX5 125 RX5 yX5_refused wsX5_refused) := goodIn_app (goodIn_of _ (by decide +kernel)) ggX5_setting_X5_refused
theorem dX5_setting_0 : decode cX5_setting 0 = .ok (.aload_n 0, 1) := by decide +kernel
theorem dX5_setting_1 : decode cX5_setting 1 = .ok (.iload_n 1, 1) := by decide +kernel
theorem dX5_setting_2 : decode cX5_setting 2 = .ok (.iconst 0, 1) := by decide +kernel
theorem dX5_setting_3 : decode cX5_setting 3 = .ok (.iconst 2, 1) := by decide +kernel
theorem dX5_setting_4 : decode cX5_setting 4 = .ok (.invokestatic 51, 3) := by decide +kernel
theorem dX5_setting_7 : decode cX5_setting 7 = .ok (.ifCond .eq 7, 3) := by decide +kernel
theorem dX5_setting_10 : decode cX5_setting 10 = .ok (.iconst 0, 1) := by decide +kernel
theorem dX5_setting_11 : decode cX5_setting 11 = .ok (.goto 4, 3) := by decide +kernel
theorem dX5_setting_14 : decode cX5_setting 14 = .ok (.iconst 1, 1) := by decide +kernel
theorem dX5_setting_15 : decode cX5_setting 15 = .ok (.invokevirtual 125, 3) := by decide +kernel
theorem dX5_setting_18 : decode cX5_setting 18 = .ok (.ifCond .eq 7, 3) := by decide +kernel
theorem dX5_setting_21 : decode cX5_setting 21 = .ok (.iconst 0, 1) := by decide +kernel
theorem dX5_setting_22 : decode cX5_setting 22 = .ok (.goto 13, 3) := by decide +kernel
theorem dX5_setting_25 : decode cX5_setting 25 = .ok (.aload_n 0, 1) := by decide +kernel
theorem dX5_setting_26 : decode cX5_setting 26 = .ok (.getfield 7, 3) := by decide +kernel
theorem dX5_setting_29 : decode cX5_setting 29 = .ok (.sipush 636, 3) := by decide +kernel
theorem dX5_setting_32 : decode cX5_setting 32 = .ok (.iload_n 1, 1) := by decide +kernel
theorem dX5_setting_33 : decode cX5_setting 33 = .ok (.iadd, 1) := by decide +kernel
theorem dX5_setting_34 : decode cX5_setting 34 = .ok (.iaload, 1) := by decide +kernel
theorem dX5_setting_35 : decode cX5_setting 35 = .ok (.ireturn, 1) := by decide +kernel
set_option maxRecDepth 20000 in
theorem ggX5_calls_X5_copyState : GoodIn wsX5_calls wsX5_copyState := goodIn_r _ [7] (by decide +kernel) (by decide +kernel)
set_option maxRecDepth 20000 in
theorem gX5_calls_X5_copyState : GoodIn wsX5_calls (va_wsS RX5 58 yX5_copyState wsX5_copyState) := goodIn_app (goodIn_of _ (by decide +kernel)) ggX5_calls_X5_copyState
set_option maxRecDepth 20000 in
theorem ggX5_calls_X5_act : GoodIn wsX5_calls wsX5_act := goodIn_r _ [11, 1, 12, 13, 14, 6, 15, 16, 17, 18, 19, 20, 21, 22, 23, 24, 25, 26, 27, 28, 29, 30, 31, 32, 33, 34, 35, 36, 37, 38, 39, 40, 41, 42, 43, 44, 45, 46, 47, 48, 49, 50, 51, 52, 53, 54, 55, 56, 57, 58, 59, 60, 61, 62, 63, 64, 65, 66, 67, 68, 69, 70, 71, 72, 73, 74, 75, 76, 77, 78, 79, 80, 81, 82, 83, 84, 85, 86, 87, 88, 89, 90, 91, 92, 93, 94, 95] (by decide +kernel) (by decide +kernel)
set_option maxRecDepth 20000 in
theorem gX5_calls_X5_act : GoodIn wsX5_calls (wsV RX5 131 RX5 yX5_act wsX5_act) := goodIn_app (goodIn_of _ (by decide +kernel)) ggX5_calls_X5_act
theorem dX5_calls_0 : decode cX5_calls 0 = .ok (.aload_n 0, 1) := by decide +kernel
theorem dX5_calls_1 : decode cX5_calls 1 = .ok (.getfield 7, 3) := by decide +kernel
theorem dX5_calls_4 : decode cX5_calls 4 = .ok (.iconst 0, 1) := by decide +kernel
theorem dX5_calls_5 : decode cX5_calls 5 = .ok (.aload_n 0, 1) := by decide +kernel
theorem dX5_calls_6 : decode cX5_calls 6 = .ok (.getfield 13, 3) := by decide +kernel
theorem dX5_calls_9 : decode cX5_calls 9 = .ok (.iconst 0, 1) := by decide +kernel
theorem dX5_calls_10 : decode cX5_calls 10 = .ok (.invokestatic 58, 3) := by decide +kernel
theorem dX5_calls_13 : decode cX5_calls 13 = .ok (.aload_n 0, 1) := by decide +kernel
theorem dX5_calls_14 : decode cX5_calls 14 = .ok (.getfield 7, 3) := by decide +kernel
theorem dX5_calls_17 : decode cX5_calls 17 = .ok (.sipush 638, 3) := by decide +kernel
theorem dX5_calls_20 : decode cX5_calls 20 = .ok (.iload_n 1, 1) := by decide +kernel
theorem dX5_calls_21 : decode cX5_calls 21 = .ok (.iastore, 1) := by decide +kernel
theorem dX5_calls_22 : decode cX5_calls 22 = .ok (.aload_n 0, 1) := by decide +kernel
theorem dX5_calls_23 : decode cX5_calls 23 = .ok (.getfield 7, 3) := by decide +kernel
theorem dX5_calls_26 : decode cX5_calls 26 = .ok (.sipush 644, 3) := by decide +kernel
theorem dX5_calls_29 : decode cX5_calls 29 = .ok (.iaload, 1) := by decide +kernel
theorem dX5_calls_30 : decode cX5_calls 30 = .ok (.istore_n 2, 1) := by decide +kernel
theorem dX5_calls_31 : decode cX5_calls 31 = .ok (.iconst 0, 1) := by decide +kernel
theorem dX5_calls_32 : decode cX5_calls 32 = .ok (.istore_n 3, 1) := by decide +kernel
theorem dX5_calls_33 : decode cX5_calls 33 = .ok (.aload_n 0, 1) := by decide +kernel
theorem dX5_calls_34 : decode cX5_calls 34 = .ok (.iconst 0, 1) := by decide +kernel
theorem dX5_calls_35 : decode cX5_calls 35 = .ok (.putfield 200, 3) := by decide +kernel
theorem dX5_calls_38 : decode cX5_calls 38 = .ok (.aload_n 0, 1) := by decide +kernel
theorem dX5_calls_39 : decode cX5_calls 39 = .ok (.getfield 7, 3) := by decide +kernel
theorem dX5_calls_42 : decode cX5_calls 42 = .ok (.sipush 644, 3) := by decide +kernel
theorem dX5_calls_45 : decode cX5_calls 45 = .ok (.iaload, 1) := by decide +kernel
theorem dX5_calls_46 : decode cX5_calls 46 = .ok (.iload_n 2, 1) := by decide +kernel
theorem dX5_calls_47 : decode cX5_calls 47 = .ok (.if_icmp .ne 39, 3) := by decide +kernel
theorem dX5_calls_50 : decode cX5_calls 50 = .ok (.aload_n 0, 1) := by decide +kernel
theorem dX5_calls_51 : decode cX5_calls 51 = .ok (.iconst 2, 1) := by decide +kernel
theorem dX5_calls_52 : decode cX5_calls 52 = .ok (.iconst 0, 1) := by decide +kernel
theorem dX5_calls_53 : decode cX5_calls 53 = .ok (.invokevirtual 131, 3) := by decide +kernel
theorem dX5_calls_56 : decode cX5_calls 56 = .ok (.istore 4, 2) := by decide +kernel
theorem dX5_calls_58 : decode cX5_calls 58 = .ok (.aload_n 0, 1) := by decide +kernel
theorem dX5_calls_59 : decode cX5_calls 59 = .ok (.iload 4, 2) := by decide +kernel
theorem dX5_calls_61 : decode cX5_calls 61 = .ok (.aload_n 0, 1) := by decide +kernel
theorem dX5_calls_62 : decode cX5_calls 62 = .ok (.getfield 200, 3) := by decide +kernel
theorem dX5_calls_65 : decode cX5_calls 65 = .ok (.if_icmp .le 8, 3) := by decide +kernel
theorem dX5_calls_68 : decode cX5_calls 68 = .ok (.iload 4, 2) := by decide +kernel
theorem dX5_calls_70 : decode cX5_calls 70 = .ok (.goto 7, 3) := by decide +kernel
theorem dX5_calls_73 : decode cX5_calls 73 = .ok (.aload_n 0, 1) := by decide +kernel
theorem dX5_calls_74 : decode cX5_calls 74 = .ok (.getfield 200, 3) := by decide +kernel
theorem dX5_calls_77 : decode cX5_calls 77 = .ok (.putfield 200, 3) := by decide +kernel
theorem dX5_calls_80 : decode cX5_calls 80 = .ok (.iinc 3 1, 3) := by decide +kernel
theorem dX5_calls_83 : decode cX5_calls 83 = .ok (.goto (-45), 3) := by decide +kernel
theorem dX5_calls_86 : decode cX5_calls 86 = .ok (.aload_n 0, 1) := by decide +kernel
theorem dX5_calls_87 : decode cX5_calls 87 = .ok (.getfield 13, 3) := by decide +kernel
theorem dX5_calls_90 : decode cX5_calls 90 = .ok (.iconst 0, 1) := by decide +kernel
theorem dX5_calls_91 : decode cX5_calls 91 = .ok (.aload_n 0, 1) := by decide +kernel
theorem dX5_calls_92 : decode cX5_calls 92 = .ok (.getfield 7, 3) := by decide +kernel
theorem dX5_calls_95 : decode cX5_calls 95 = .ok (.iconst 0, 1) := by decide +kernel
theorem dX5_calls_96 : decode cX5_calls 96 = .ok (.invokestatic 58, 3) := by decide +kernel
theorem dX5_calls_99 : decode cX5_calls 99 = .ok (.iload_n 3, 1) := by decide +kernel
theorem dX5_calls_100 : decode cX5_calls 100 = .ok (.ireturn, 1) := by decide +kernel
set_option maxRecDepth 20000 in
theorem ggX5_isSpeed_X5_in : GoodIn wsX5_isSpeed wsX5_in := goodIn_r _ [4] (by decide +kernel) (by decide +kernel)
set_option maxRecDepth 20000 in
theorem gX5_isSpeed_X5_in : GoodIn wsX5_isSpeed (va_wsS RX5 51 yX5_in wsX5_in) := goodIn_app (goodIn_of _ (by decide +kernel)) ggX5_isSpeed_X5_in
theorem dX5_isSpeed_0 : decode cX5_isSpeed 0 = .ok (.iload_n 0, 1) := by decide +kernel
theorem dX5_isSpeed_1 : decode cX5_isSpeed 1 = .ok (.iconst 1, 1) := by decide +kernel
theorem dX5_isSpeed_2 : decode cX5_isSpeed 2 = .ok (.bipush 8, 2) := by decide +kernel
theorem dX5_isSpeed_4 : decode cX5_isSpeed 4 = .ok (.invokestatic 51, 3) := by decide +kernel
theorem dX5_isSpeed_7 : decode cX5_isSpeed 7 = .ok (.ireturn, 1) := by decide +kernel
set_option maxRecDepth 20000 in
theorem ggX5_untilExchange_X5_isSpeed : GoodIn wsX5_untilExchange wsX5_isSpeed := goodIn_r _ [5, 6, 7, 4, 8] (by decide +kernel) (by decide +kernel)
set_option maxRecDepth 20000 in
theorem gX5_untilExchange_X5_isSpeed : GoodIn wsX5_untilExchange (va_wsS RX5 203 yX5_isSpeed wsX5_isSpeed) := goodIn_app (goodIn_of _ (by decide +kernel)) ggX5_untilExchange_X5_isSpeed
set_option maxRecDepth 20000 in
theorem ggX5_untilExchange_X5_refused : GoodIn wsX5_untilExchange wsX5_refused := goodIn_r _ [12, 13, 90, 91, 92, 93, 94, 95, 96, 97, 98, 99, 100, 101, 102, 103, 104, 105, 106, 107, 108, 109, 110] (by decide +kernel) (by decide +kernel)
set_option maxRecDepth 20000 in
theorem gX5_untilExchange_X5_refused : GoodIn wsX5_untilExchange (wsV RX5 125 RX5 yX5_refused wsX5_refused) := goodIn_app (goodIn_of _ (by decide +kernel)) ggX5_untilExchange_X5_refused
set_option maxRecDepth 20000 in
theorem ggX5_untilExchange_X5_calls : GoodIn wsX5_untilExchange wsX5_calls := goodIn_r _ [17, 1, 18, 19, 20, 21, 4, 22, 23, 24, 25, 26, 27, 28, 29, 30, 31, 32, 33, 34, 35, 36, 37, 38, 39, 40, 41, 42, 43, 44, 45, 46, 47, 48, 49, 50, 51, 52, 53, 54, 55, 56, 57, 58, 59, 60, 61, 62, 63, 64, 65, 66, 67, 68, 69, 70, 71, 72, 73, 74, 75, 76, 77, 78, 79, 80, 81, 82, 83, 84, 85, 86, 87, 88, 89, 90, 91, 92, 93, 94, 95, 96, 97, 98, 99, 100, 101, 102, 103, 104, 105, 106, 107, 108, 109, 110] (by decide +kernel) (by decide +kernel)
set_option maxRecDepth 20000 in
theorem gX5_untilExchange_X5_calls : GoodIn wsX5_untilExchange (wsV RX5 206 RX5 yX5_calls wsX5_calls) := goodIn_app (goodIn_of _ (by decide +kernel)) ggX5_untilExchange_X5_calls
theorem dX5_untilExchange_0 : decode cX5_untilExchange 0 = .ok (.aload_n 0, 1) := by decide +kernel
theorem dX5_untilExchange_1 : decode cX5_untilExchange 1 = .ok (.iload_n 1, 1) := by decide +kernel
theorem dX5_untilExchange_2 : decode cX5_untilExchange 2 = .ok (.invokestatic 203, 3) := by decide +kernel
theorem dX5_untilExchange_5 : decode cX5_untilExchange 5 = .ok (.ifCond .eq 7, 3) := by decide +kernel
theorem dX5_untilExchange_8 : decode cX5_untilExchange 8 = .ok (.iconst 0, 1) := by decide +kernel
theorem dX5_untilExchange_9 : decode cX5_untilExchange 9 = .ok (.goto 4, 3) := by decide +kernel
theorem dX5_untilExchange_12 : decode cX5_untilExchange 12 = .ok (.iconst 1, 1) := by decide +kernel
theorem dX5_untilExchange_13 : decode cX5_untilExchange 13 = .ok (.invokevirtual 125, 3) := by decide +kernel
theorem dX5_untilExchange_16 : decode cX5_untilExchange 16 = .ok (.ifCond .eq 5, 3) := by decide +kernel
theorem dX5_untilExchange_19 : decode cX5_untilExchange 19 = .ok (.iconst 0, 1) := by decide +kernel
theorem dX5_untilExchange_20 : decode cX5_untilExchange 20 = .ok (.ireturn, 1) := by decide +kernel
theorem dX5_untilExchange_21 : decode cX5_untilExchange 21 = .ok (.aload_n 0, 1) := by decide +kernel
theorem dX5_untilExchange_22 : decode cX5_untilExchange 22 = .ok (.getfield 7, 3) := by decide +kernel
theorem dX5_untilExchange_25 : decode cX5_untilExchange 25 = .ok (.sipush 482, 3) := by decide +kernel
theorem dX5_untilExchange_28 : decode cX5_untilExchange 28 = .ok (.iaload, 1) := by decide +kernel
theorem dX5_untilExchange_29 : decode cX5_untilExchange 29 = .ok (.iconst 1, 1) := by decide +kernel
theorem dX5_untilExchange_30 : decode cX5_untilExchange 30 = .ok (.if_icmp .ne 11, 3) := by decide +kernel
theorem dX5_untilExchange_33 : decode cX5_untilExchange 33 = .ok (.aload_n 0, 1) := by decide +kernel
theorem dX5_untilExchange_34 : decode cX5_untilExchange 34 = .ok (.iload_n 1, 1) := by decide +kernel
theorem dX5_untilExchange_35 : decode cX5_untilExchange 35 = .ok (.invokevirtual 206, 3) := by decide +kernel
theorem dX5_untilExchange_38 : decode cX5_untilExchange 38 = .ok (.goto 4, 3) := by decide +kernel
theorem dX5_untilExchange_41 : decode cX5_untilExchange 41 = .ok (.iconst (-1), 1) := by decide +kernel
theorem dX5_untilExchange_42 : decode cX5_untilExchange 42 = .ok (.ireturn, 1) := by decide +kernel
set_option maxRecDepth 20000 in
theorem ggX5_longest_X5_isSpeed : GoodIn wsX5_longest wsX5_isSpeed := goodIn_r _ [6, 7, 8, 5, 9] (by decide +kernel) (by decide +kernel)
set_option maxRecDepth 20000 in
theorem gX5_longest_X5_isSpeed : GoodIn wsX5_longest (va_wsS RX5 203 yX5_isSpeed wsX5_isSpeed) := goodIn_app (goodIn_of _ (by decide +kernel)) ggX5_longest_X5_isSpeed
set_option maxRecDepth 20000 in
theorem ggX5_longest_X5_refused : GoodIn wsX5_longest wsX5_refused := goodIn_r _ [13, 14, 90, 91, 92, 93, 94, 95, 96, 97, 98, 99, 100, 101, 102, 103, 104, 105, 106, 107, 108, 109, 110] (by decide +kernel) (by decide +kernel)
set_option maxRecDepth 20000 in
theorem gX5_longest_X5_refused : GoodIn wsX5_longest (wsV RX5 125 RX5 yX5_refused wsX5_refused) := goodIn_app (goodIn_of _ (by decide +kernel)) ggX5_longest_X5_refused
set_option maxRecDepth 20000 in
theorem ggX5_longest_X5_calls : GoodIn wsX5_longest wsX5_calls := goodIn_r _ [18, 1, 19, 2, 20, 21, 5, 22, 23, 24, 25, 26, 27, 28, 29, 30, 31, 32, 33, 34, 35, 36, 37, 38, 39, 40, 41, 42, 43, 44, 45, 46, 47, 48, 49, 50, 51, 52, 53, 54, 55, 56, 57, 58, 59, 60, 61, 62, 63, 64, 65, 66, 67, 68, 69, 70, 71, 72, 73, 74, 75, 76, 77, 78, 79, 80, 81, 82, 83, 84, 85, 86, 87, 88, 89, 90, 91, 92, 93, 94, 95, 96, 97, 98, 99, 100, 101, 102, 103, 104, 105, 106, 107, 108, 109, 110] (by decide +kernel) (by decide +kernel)
set_option maxRecDepth 20000 in
theorem gX5_longest_X5_calls : GoodIn wsX5_longest (wsV RX5 206 RX5 yX5_calls wsX5_calls) := goodIn_app (goodIn_of _ (by decide +kernel)) ggX5_longest_X5_calls
theorem dX5_longest_0 : decode cX5_longest 0 = .ok (.aload_n 0, 1) := by decide +kernel
theorem dX5_longest_1 : decode cX5_longest 1 = .ok (.iload_n 1, 1) := by decide +kernel
theorem dX5_longest_2 : decode cX5_longest 2 = .ok (.invokestatic 203, 3) := by decide +kernel
theorem dX5_longest_5 : decode cX5_longest 5 = .ok (.ifCond .eq 7, 3) := by decide +kernel
theorem dX5_longest_8 : decode cX5_longest 8 = .ok (.iconst 0, 1) := by decide +kernel
theorem dX5_longest_9 : decode cX5_longest 9 = .ok (.goto 4, 3) := by decide +kernel
theorem dX5_longest_12 : decode cX5_longest 12 = .ok (.iconst 1, 1) := by decide +kernel
theorem dX5_longest_13 : decode cX5_longest 13 = .ok (.invokevirtual 125, 3) := by decide +kernel
theorem dX5_longest_16 : decode cX5_longest 16 = .ok (.ifCond .eq 5, 3) := by decide +kernel
theorem dX5_longest_19 : decode cX5_longest 19 = .ok (.iconst 0, 1) := by decide +kernel
theorem dX5_longest_20 : decode cX5_longest 20 = .ok (.ireturn, 1) := by decide +kernel
theorem dX5_longest_21 : decode cX5_longest 21 = .ok (.aload_n 0, 1) := by decide +kernel
theorem dX5_longest_22 : decode cX5_longest 22 = .ok (.getfield 7, 3) := by decide +kernel
theorem dX5_longest_25 : decode cX5_longest 25 = .ok (.sipush 482, 3) := by decide +kernel
theorem dX5_longest_28 : decode cX5_longest 28 = .ok (.iaload, 1) := by decide +kernel
theorem dX5_longest_29 : decode cX5_longest 29 = .ok (.iconst 1, 1) := by decide +kernel
theorem dX5_longest_30 : decode cX5_longest 30 = .ok (.if_icmp .ne 18, 3) := by decide +kernel
theorem dX5_longest_33 : decode cX5_longest 33 = .ok (.aload_n 0, 1) := by decide +kernel
theorem dX5_longest_34 : decode cX5_longest 34 = .ok (.iload_n 1, 1) := by decide +kernel
theorem dX5_longest_35 : decode cX5_longest 35 = .ok (.invokevirtual 206, 3) := by decide +kernel
theorem dX5_longest_38 : decode cX5_longest 38 = .ok (.ifCond .le 10, 3) := by decide +kernel
theorem dX5_longest_41 : decode cX5_longest 41 = .ok (.aload_n 0, 1) := by decide +kernel
theorem dX5_longest_42 : decode cX5_longest 42 = .ok (.getfield 200, 3) := by decide +kernel
theorem dX5_longest_45 : decode cX5_longest 45 = .ok (.goto 4, 3) := by decide +kernel
theorem dX5_longest_48 : decode cX5_longest 48 = .ok (.iconst (-1), 1) := by decide +kernel
theorem dX5_longest_49 : decode cX5_longest 49 = .ok (.ireturn, 1) := by decide +kernel
set_option maxRecDepth 20000 in
theorem ggX5_leastSpeed_X5_refused : GoodIn wsX5_leastSpeed wsX5_refused := goodIn_r _ [6, 7, 84, 85, 86, 87, 88, 89, 90, 91, 92, 93, 94, 95, 96, 97, 98, 99, 100, 101, 102, 103, 104] (by decide +kernel) (by decide +kernel)
set_option maxRecDepth 20000 in
theorem gX5_leastSpeed_X5_refused : GoodIn wsX5_leastSpeed (wsV RX5 125 RX5 yX5_refused wsX5_refused) := goodIn_app (goodIn_of _ (by decide +kernel)) ggX5_leastSpeed_X5_refused
set_option maxRecDepth 20000 in
theorem ggX5_leastSpeed_X5_calls : GoodIn wsX5_leastSpeed wsX5_calls := goodIn_r _ [11, 1, 12, 13, 14, 15, 5, 16, 17, 18, 19, 20, 21, 22, 23, 24, 25, 26, 27, 28, 29, 30, 31, 32, 33, 34, 35, 36, 37, 38, 39, 40, 41, 42, 43, 44, 45, 46, 47, 48, 49, 50, 51, 52, 53, 54, 55, 56, 57, 58, 59, 60, 61, 62, 63, 64, 65, 66, 67, 68, 69, 70, 71, 72, 73, 74, 75, 76, 77, 78, 79, 80, 81, 82, 83, 84, 85, 86, 87, 88, 89, 90, 91, 92, 93, 94, 95, 96, 97, 98, 99, 100, 101, 102, 103, 104] (by decide +kernel) (by decide +kernel)
set_option maxRecDepth 20000 in
theorem gX5_leastSpeed_X5_calls : GoodIn wsX5_leastSpeed (wsV RX5 206 RX5 yX5_calls wsX5_calls) := goodIn_app (goodIn_of _ (by decide +kernel)) ggX5_leastSpeed_X5_calls
theorem dX5_leastSpeed_0 : decode cX5_leastSpeed 0 = .ok (.aload_n 0, 1) := by decide +kernel
theorem dX5_leastSpeed_1 : decode cX5_leastSpeed 1 = .ok (.iload_n 1, 1) := by decide +kernel
theorem dX5_leastSpeed_2 : decode cX5_leastSpeed 2 = .ok (.iconst 1, 1) := by decide +kernel
theorem dX5_leastSpeed_3 : decode cX5_leastSpeed 3 = .ok (.if_icmp .ge 7, 3) := by decide +kernel
theorem dX5_leastSpeed_6 : decode cX5_leastSpeed 6 = .ok (.iconst 1, 1) := by decide +kernel
theorem dX5_leastSpeed_7 : decode cX5_leastSpeed 7 = .ok (.goto 4, 3) := by decide +kernel
theorem dX5_leastSpeed_10 : decode cX5_leastSpeed 10 = .ok (.iconst 0, 1) := by decide +kernel
theorem dX5_leastSpeed_11 : decode cX5_leastSpeed 11 = .ok (.invokevirtual 125, 3) := by decide +kernel
theorem dX5_leastSpeed_14 : decode cX5_leastSpeed 14 = .ok (.ifCond .eq 5, 3) := by decide +kernel
theorem dX5_leastSpeed_17 : decode cX5_leastSpeed 17 = .ok (.iconst 0, 1) := by decide +kernel
theorem dX5_leastSpeed_18 : decode cX5_leastSpeed 18 = .ok (.ireturn, 1) := by decide +kernel
theorem dX5_leastSpeed_19 : decode cX5_leastSpeed 19 = .ok (.iconst (-1), 1) := by decide +kernel
theorem dX5_leastSpeed_20 : decode cX5_leastSpeed 20 = .ok (.istore_n 2, 1) := by decide +kernel
theorem dX5_leastSpeed_21 : decode cX5_leastSpeed 21 = .ok (.bipush 8, 2) := by decide +kernel
theorem dX5_leastSpeed_23 : decode cX5_leastSpeed 23 = .ok (.istore_n 3, 1) := by decide +kernel
theorem dX5_leastSpeed_24 : decode cX5_leastSpeed 24 = .ok (.iload_n 3, 1) := by decide +kernel
theorem dX5_leastSpeed_25 : decode cX5_leastSpeed 25 = .ok (.ifCond .le 36, 3) := by decide +kernel
theorem dX5_leastSpeed_28 : decode cX5_leastSpeed 28 = .ok (.aload_n 0, 1) := by decide +kernel
theorem dX5_leastSpeed_29 : decode cX5_leastSpeed 29 = .ok (.getfield 7, 3) := by decide +kernel
theorem dX5_leastSpeed_32 : decode cX5_leastSpeed 32 = .ok (.sipush 482, 3) := by decide +kernel
theorem dX5_leastSpeed_35 : decode cX5_leastSpeed 35 = .ok (.iaload, 1) := by decide +kernel
theorem dX5_leastSpeed_36 : decode cX5_leastSpeed 36 = .ok (.iconst 1, 1) := by decide +kernel
theorem dX5_leastSpeed_37 : decode cX5_leastSpeed 37 = .ok (.if_icmp .ne 24, 3) := by decide +kernel
theorem dX5_leastSpeed_40 : decode cX5_leastSpeed 40 = .ok (.aload_n 0, 1) := by decide +kernel
theorem dX5_leastSpeed_41 : decode cX5_leastSpeed 41 = .ok (.iload_n 3, 1) := by decide +kernel
theorem dX5_leastSpeed_42 : decode cX5_leastSpeed 42 = .ok (.invokevirtual 206, 3) := by decide +kernel
theorem dX5_leastSpeed_45 : decode cX5_leastSpeed 45 = .ok (.iload_n 1, 1) := by decide +kernel
theorem dX5_leastSpeed_46 : decode cX5_leastSpeed 46 = .ok (.if_icmp .gt 7, 3) := by decide +kernel
theorem dX5_leastSpeed_49 : decode cX5_leastSpeed 49 = .ok (.iload_n 3, 1) := by decide +kernel
theorem dX5_leastSpeed_50 : decode cX5_leastSpeed 50 = .ok (.goto 4, 3) := by decide +kernel
theorem dX5_leastSpeed_53 : decode cX5_leastSpeed 53 = .ok (.iload_n 2, 1) := by decide +kernel
theorem dX5_leastSpeed_54 : decode cX5_leastSpeed 54 = .ok (.istore_n 2, 1) := by decide +kernel
theorem dX5_leastSpeed_55 : decode cX5_leastSpeed 55 = .ok (.iinc 3 (-1), 3) := by decide +kernel
theorem dX5_leastSpeed_58 : decode cX5_leastSpeed 58 = .ok (.goto (-34), 3) := by decide +kernel
theorem dX5_leastSpeed_61 : decode cX5_leastSpeed 61 = .ok (.iload_n 2, 1) := by decide +kernel
theorem dX5_leastSpeed_62 : decode cX5_leastSpeed 62 = .ok (.ireturn, 1) := by decide +kernel
set_option maxRecDepth 20000 in
theorem ggX5_meanDepth_X5_depthOf : GoodIn wsX5_meanDepth wsX5_depthOf := goodIn_r _ [7, 8, 9, 10, 11, 6, 12, 13, 14, 2, 15, 16, 17, 18, 19, 20, 21, 22, 23, 24, 25, 26, 27, 28, 29, 30, 31, 32, 33, 34, 35, 36] (by decide +kernel) (by decide +kernel)
set_option maxRecDepth 20000 in
theorem gX5_meanDepth_X5_depthOf : GoodIn wsX5_meanDepth (wsV RX5 83 RX5 yX5_depthOf wsX5_depthOf) := goodIn_app (goodIn_of _ (by decide +kernel)) ggX5_meanDepth_X5_depthOf
theorem dX5_meanDepth_0 : decode cX5_meanDepth 0 = .ok (.aload_n 0, 1) := by decide +kernel
theorem dX5_meanDepth_1 : decode cX5_meanDepth 1 = .ok (.iconst 0, 1) := by decide +kernel
theorem dX5_meanDepth_2 : decode cX5_meanDepth 2 = .ok (.putfield 47, 3) := by decide +kernel
theorem dX5_meanDepth_5 : decode cX5_meanDepth 5 = .ok (.iconst 0, 1) := by decide +kernel
theorem dX5_meanDepth_6 : decode cX5_meanDepth 6 = .ok (.istore_n 1, 1) := by decide +kernel
theorem dX5_meanDepth_7 : decode cX5_meanDepth 7 = .ok (.iconst 0, 1) := by decide +kernel
theorem dX5_meanDepth_8 : decode cX5_meanDepth 8 = .ok (.istore_n 2, 1) := by decide +kernel
theorem dX5_meanDepth_9 : decode cX5_meanDepth 9 = .ok (.iconst 0, 1) := by decide +kernel
theorem dX5_meanDepth_10 : decode cX5_meanDepth 10 = .ok (.istore_n 3, 1) := by decide +kernel
theorem dX5_meanDepth_11 : decode cX5_meanDepth 11 = .ok (.iload_n 3, 1) := by decide +kernel
theorem dX5_meanDepth_12 : decode cX5_meanDepth 12 = .ok (.aload_n 0, 1) := by decide +kernel
theorem dX5_meanDepth_13 : decode cX5_meanDepth 13 = .ok (.getfield 7, 3) := by decide +kernel
theorem dX5_meanDepth_16 : decode cX5_meanDepth 16 = .ok (.iconst 0, 1) := by decide +kernel
theorem dX5_meanDepth_17 : decode cX5_meanDepth 17 = .ok (.iaload, 1) := by decide +kernel
theorem dX5_meanDepth_18 : decode cX5_meanDepth 18 = .ok (.if_icmp .ge 40, 3) := by decide +kernel
theorem dX5_meanDepth_21 : decode cX5_meanDepth 21 = .ok (.aload_n 0, 1) := by decide +kernel
theorem dX5_meanDepth_22 : decode cX5_meanDepth 22 = .ok (.getfield 7, 3) := by decide +kernel
theorem dX5_meanDepth_25 : decode cX5_meanDepth 25 = .ok (.bipush 121, 2) := by decide +kernel
theorem dX5_meanDepth_27 : decode cX5_meanDepth 27 = .ok (.iload_n 3, 1) := by decide +kernel
theorem dX5_meanDepth_28 : decode cX5_meanDepth 28 = .ok (.iadd, 1) := by decide +kernel
theorem dX5_meanDepth_29 : decode cX5_meanDepth 29 = .ok (.iaload, 1) := by decide +kernel
theorem dX5_meanDepth_30 : decode cX5_meanDepth 30 = .ok (.ifCond .ne 22, 3) := by decide +kernel
theorem dX5_meanDepth_33 : decode cX5_meanDepth 33 = .ok (.iload_n 1, 1) := by decide +kernel
theorem dX5_meanDepth_34 : decode cX5_meanDepth 34 = .ok (.aload_n 0, 1) := by decide +kernel
theorem dX5_meanDepth_35 : decode cX5_meanDepth 35 = .ok (.iconst 0, 1) := by decide +kernel
theorem dX5_meanDepth_36 : decode cX5_meanDepth 36 = .ok (.aload_n 0, 1) := by decide +kernel
theorem dX5_meanDepth_37 : decode cX5_meanDepth 37 = .ok (.getfield 7, 3) := by decide +kernel
theorem dX5_meanDepth_40 : decode cX5_meanDepth 40 = .ok (.iconst 1, 1) := by decide +kernel
theorem dX5_meanDepth_41 : decode cX5_meanDepth 41 = .ok (.iload_n 3, 1) := by decide +kernel
theorem dX5_meanDepth_42 : decode cX5_meanDepth 42 = .ok (.iadd, 1) := by decide +kernel
theorem dX5_meanDepth_43 : decode cX5_meanDepth 43 = .ok (.iaload, 1) := by decide +kernel
theorem dX5_meanDepth_44 : decode cX5_meanDepth 44 = .ok (.invokevirtual 83, 3) := by decide +kernel
theorem dX5_meanDepth_47 : decode cX5_meanDepth 47 = .ok (.iadd, 1) := by decide +kernel
theorem dX5_meanDepth_48 : decode cX5_meanDepth 48 = .ok (.istore_n 1, 1) := by decide +kernel
theorem dX5_meanDepth_49 : decode cX5_meanDepth 49 = .ok (.iinc 2 1, 3) := by decide +kernel
theorem dX5_meanDepth_52 : decode cX5_meanDepth 52 = .ok (.iinc 3 1, 3) := by decide +kernel
theorem dX5_meanDepth_55 : decode cX5_meanDepth 55 = .ok (.goto (-44), 3) := by decide +kernel
theorem dX5_meanDepth_58 : decode cX5_meanDepth 58 = .ok (.iload_n 1, 1) := by decide +kernel
theorem dX5_meanDepth_59 : decode cX5_meanDepth 59 = .ok (.i2d, 1) := by decide +kernel
theorem dX5_meanDepth_60 : decode cX5_meanDepth 60 = .ok (.dstore_n 3, 1) := by decide +kernel
theorem dX5_meanDepth_61 : decode cX5_meanDepth 61 = .ok (.iload_n 2, 1) := by decide +kernel
theorem dX5_meanDepth_62 : decode cX5_meanDepth 62 = .ok (.i2d, 1) := by decide +kernel
theorem dX5_meanDepth_63 : decode cX5_meanDepth 63 = .ok (.dstore 5, 2) := by decide +kernel
theorem dX5_meanDepth_65 : decode cX5_meanDepth 65 = .ok (.iload_n 2, 1) := by decide +kernel
theorem dX5_meanDepth_66 : decode cX5_meanDepth 66 = .ok (.ifCond .ne 7, 3) := by decide +kernel
theorem dX5_meanDepth_69 : decode cX5_meanDepth 69 = .ok (.dconst 0, 1) := by decide +kernel
theorem dX5_meanDepth_70 : decode cX5_meanDepth 70 = .ok (.goto 7, 3) := by decide +kernel
theorem dX5_meanDepth_73 : decode cX5_meanDepth 73 = .ok (.dload_n 3, 1) := by decide +kernel
theorem dX5_meanDepth_74 : decode cX5_meanDepth 74 = .ok (.dload 5, 2) := by decide +kernel
theorem dX5_meanDepth_76 : decode cX5_meanDepth 76 = .ok (.ddiv, 1) := by decide +kernel
theorem dX5_meanDepth_77 : decode cX5_meanDepth 77 = .ok (.dreturn, 1) := by decide +kernel
theorem dJ9_max_7cf53_0 : decode cJ9_max_7cf53 0 = .ok (.iload_n 0, 1) := by decide +kernel
theorem dJ9_max_7cf53_1 : decode cJ9_max_7cf53 1 = .ok (.iload_n 1, 1) := by decide +kernel
theorem dJ9_max_7cf53_2 : decode cJ9_max_7cf53 2 = .ok (.if_icmp .lt 7, 3) := by decide +kernel
theorem dJ9_max_7cf53_5 : decode cJ9_max_7cf53 5 = .ok (.iload_n 0, 1) := by decide +kernel
theorem dJ9_max_7cf53_6 : decode cJ9_max_7cf53 6 = .ok (.goto 4, 3) := by decide +kernel
theorem dJ9_max_7cf53_9 : decode cJ9_max_7cf53 9 = .ok (.iload_n 1, 1) := by decide +kernel
theorem dJ9_max_7cf53_10 : decode cJ9_max_7cf53 10 = .ok (.ireturn, 1) := by decide +kernel
set_option maxRecDepth 20000 in
theorem ggL_add_X4_add : GoodIn wsL_add wsX4_add := goodIn_ca (goodIn_ca (goodIn_r _ [7, 8, 9, 10, 11, 6, 12, 13, 14, 15, 16, 17, 18, 19, 20, 21, 22, 23, 24, 25, 26, 27, 28, 29, 30, 31, 32, 33, 34, 35, 36, 37, 38, 39, 40, 41, 42, 43, 44, 45, 46, 47, 48, 49, 50, 51, 52, 53, 54, 55, 56, 57, 58, 59, 60, 61, 62, 63, 64, 65, 66, 67, 68, 69, 70, 71, 72, 73, 74, 75, 76, 77, 78, 79, 80, 81, 82, 83, 84, 85, 86, 87, 88, 89, 90, 91, 92, 93, 94, 95, 96, 97, 98, 99, 100, 101, 102, 103, 104, 105, 106, 107, 108, 109, 110, 111, 112, 113, 114, 115, 116, 117, 118, 119, 120, 121, 122, 123, 124, 125, 126, 127, 128, 129, 130, 131, 132, 133, 134, 135, 136, 137, 138, 139, 140, 141, 142, 143, 144, 145, 146, 147, 148, 149, 150, 151, 152, 153, 154, 155, 156, 157, 158, 159, 160, 161, 162, 163, 164, 165, 166, 167, 168, 169, 170, 171, 172, 173, 174, 175, 176, 177, 178, 179, 180, 181, 182, 183, 184, 185, 186, 187, 188, 189, 190, 191, 192, 193, 194, 195, 196, 197, 198, 199, 200, 201, 202, 203, 204, 205, 206, 207, 208, 209, 210, 211, 212, 213, 214, 215, 216, 217] (by decide +kernel) (by decide +kernel)) (goodIn_sub (fun _ h => List.mem_cons_of_mem _ (List.mem_append_left _ (List.mem_append_right _ h))) (by decide +kernel))) (goodIn_sub (fun _ h => List.mem_cons_of_mem _ (List.mem_append_right _ h)) (by decide +kernel))
set_option maxRecDepth 20000 in
theorem gL_add_X4_add : GoodIn wsL_add (wsV RL 7 RX4 yX4_add wsX4_add) := goodIn_app (goodIn_of _ (by decide +kernel)) ggL_add_X4_add
