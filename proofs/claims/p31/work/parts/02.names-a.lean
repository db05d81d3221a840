theorem dX0_init_0 : decode cX0_init 0 = .ok (.aload_n 0, 1) := by decide +kernel
theorem dX0_init_1 : decode cX0_init 1 = .ok (.invokespecial 3, 3) := by decide +kernel
theorem dX0_init_4 : decode cX0_init 4 = .ok (.aload_n 0, 1) := by decide +kernel
theorem dX0_init_5 : decode cX0_init 5 = .ok (.bipush 60, 2) := by decide +kernel
theorem dX0_init_7 : decode cX0_init 7 = .ok (.newarray .char, 2) := by decide +kernel
theorem dX0_init_9 : decode cX0_init 9 = .ok (.putfield 9, 3) := by decide +kernel
theorem dX0_init_12 : decode cX0_init 12 = .ok (.return_, 1) := by decide +kernel
theorem dX0_put_0 : decode cX0_put 0 = .ok (.aload_n 0, 1) := by decide +kernel
theorem dX0_put_1 : decode cX0_put 1 = .ok (.getfield 15, 3) := by decide +kernel
theorem dX0_put_4 : decode cX0_put 4 = .ok (.bipush 60, 2) := by decide +kernel
theorem dX0_put_6 : decode cX0_put 6 = .ok (.if_icmp .ge 24, 3) := by decide +kernel
theorem dX0_put_9 : decode cX0_put 9 = .ok (.aload_n 0, 1) := by decide +kernel
theorem dX0_put_10 : decode cX0_put 10 = .ok (.getfield 9, 3) := by decide +kernel
theorem dX0_put_13 : decode cX0_put 13 = .ok (.aload_n 0, 1) := by decide +kernel
theorem dX0_put_14 : decode cX0_put 14 = .ok (.getfield 15, 3) := by decide +kernel
theorem dX0_put_17 : decode cX0_put 17 = .ok (.iload_n 1, 1) := by decide +kernel
theorem dX0_put_18 : decode cX0_put 18 = .ok (.i2c, 1) := by decide +kernel
theorem dX0_put_19 : decode cX0_put 19 = .ok (.castore, 1) := by decide +kernel
theorem dX0_put_20 : decode cX0_put 20 = .ok (.aload_n 0, 1) := by decide +kernel
theorem dX0_put_21 : decode cX0_put 21 = .ok (.dup, 1) := by decide +kernel
theorem dX0_put_22 : decode cX0_put 22 = .ok (.getfield 15, 3) := by decide +kernel
theorem dX0_put_25 : decode cX0_put 25 = .ok (.iconst 1, 1) := by decide +kernel
theorem dX0_put_26 : decode cX0_put 26 = .ok (.iadd, 1) := by decide +kernel
theorem dX0_put_27 : decode cX0_put 27 = .ok (.putfield 15, 3) := by decide +kernel
theorem dX0_put_30 : decode cX0_put 30 = .ok (.return_, 1) := by decide +kernel
theorem dX0_readOn_0 : decode cX0_readOn 0 = .ok (.iload_n 1, 1) := by decide +kernel
theorem dX0_readOn_1 : decode cX0_readOn 1 = .ok (.bipush 48, 2) := by decide +kernel
theorem dX0_readOn_3 : decode cX0_readOn 3 = .ok (.if_icmp .lt 13, 3) := by decide +kernel
theorem dX0_readOn_6 : decode cX0_readOn 6 = .ok (.iload_n 1, 1) := by decide +kernel
theorem dX0_readOn_7 : decode cX0_readOn 7 = .ok (.bipush 57, 2) := by decide +kernel
theorem dX0_readOn_9 : decode cX0_readOn 9 = .ok (.if_icmp .gt 7, 3) := by decide +kernel
theorem dX0_readOn_12 : decode cX0_readOn 12 = .ok (.iconst 1, 1) := by decide +kernel
theorem dX0_readOn_13 : decode cX0_readOn 13 = .ok (.goto 4, 3) := by decide +kernel
theorem dX0_readOn_16 : decode cX0_readOn 16 = .ok (.iconst 0, 1) := by decide +kernel
theorem dX0_readOn_17 : decode cX0_readOn 17 = .ok (.istore_n 2, 1) := by decide +kernel
theorem dX0_readOn_18 : decode cX0_readOn 18 = .ok (.iload_n 0, 1) := by decide +kernel
theorem dX0_readOn_19 : decode cX0_readOn 19 = .ok (.sipush 500, 3) := by decide +kernel
theorem dX0_readOn_22 : decode cX0_readOn 22 = .ok (.if_icmp .ne 35, 3) := by decide +kernel
theorem dX0_readOn_25 : decode cX0_readOn 25 = .ok (.iload_n 1, 1) := by decide +kernel
theorem dX0_readOn_26 : decode cX0_readOn 26 = .ok (.bipush 46, 2) := by decide +kernel
theorem dX0_readOn_28 : decode cX0_readOn 28 = .ok (.if_icmp .ne 7, 3) := by decide +kernel
theorem dX0_readOn_31 : decode cX0_readOn 31 = .ok (.sipush 502, 3) := by decide +kernel
theorem dX0_readOn_34 : decode cX0_readOn 34 = .ok (.ireturn, 1) := by decide +kernel
theorem dX0_readOn_35 : decode cX0_readOn 35 = .ok (.iload_n 1, 1) := by decide +kernel
theorem dX0_readOn_36 : decode cX0_readOn 36 = .ok (.bipush 43, 2) := by decide +kernel
theorem dX0_readOn_38 : decode cX0_readOn 38 = .ok (.if_icmp .eq 9, 3) := by decide +kernel
theorem dX0_readOn_41 : decode cX0_readOn 41 = .ok (.iload_n 1, 1) := by decide +kernel
theorem dX0_readOn_42 : decode cX0_readOn 42 = .ok (.bipush 45, 2) := by decide +kernel
theorem dX0_readOn_44 : decode cX0_readOn 44 = .ok (.if_icmp .ne 9, 3) := by decide +kernel
theorem dX0_readOn_47 : decode cX0_readOn 47 = .ok (.sipush 501, 3) := by decide +kernel
theorem dX0_readOn_50 : decode cX0_readOn 50 = .ok (.goto 6, 3) := by decide +kernel
theorem dX0_readOn_53 : decode cX0_readOn 53 = .ok (.sipush 503, 3) := by decide +kernel
theorem dX0_readOn_56 : decode cX0_readOn 56 = .ok (.ireturn, 1) := by decide +kernel
theorem dX0_readOn_57 : decode cX0_readOn 57 = .ok (.iload_n 0, 1) := by decide +kernel
theorem dX0_readOn_58 : decode cX0_readOn 58 = .ok (.sipush 501, 3) := by decide +kernel
theorem dX0_readOn_61 : decode cX0_readOn 61 = .ok (.if_icmp .ne 18, 3) := by decide +kernel
theorem dX0_readOn_64 : decode cX0_readOn 64 = .ok (.iload_n 2, 1) := by decide +kernel
theorem dX0_readOn_65 : decode cX0_readOn 65 = .ok (.ifCond .eq 10, 3) := by decide +kernel
theorem dX0_readOn_68 : decode cX0_readOn 68 = .ok (.iload_n 1, 1) := by decide +kernel
theorem dX0_readOn_69 : decode cX0_readOn 69 = .ok (.bipush 48, 2) := by decide +kernel
theorem dX0_readOn_71 : decode cX0_readOn 71 = .ok (.isub, 1) := by decide +kernel
theorem dX0_readOn_72 : decode cX0_readOn 72 = .ok (.goto 6, 3) := by decide +kernel
theorem dX0_readOn_75 : decode cX0_readOn 75 = .ok (.sipush 503, 3) := by decide +kernel
theorem dX0_readOn_78 : decode cX0_readOn 78 = .ok (.ireturn, 1) := by decide +kernel
theorem dX0_readOn_79 : decode cX0_readOn 79 = .ok (.iload_n 1, 1) := by decide +kernel
theorem dX0_readOn_80 : decode cX0_readOn 80 = .ok (.bipush 59, 2) := by decide +kernel
theorem dX0_readOn_82 : decode cX0_readOn 82 = .ok (.if_icmp .ne 7, 3) := by decide +kernel
theorem dX0_readOn_85 : decode cX0_readOn 85 = .ok (.sipush 500, 3) := by decide +kernel
theorem dX0_readOn_88 : decode cX0_readOn 88 = .ok (.ireturn, 1) := by decide +kernel
theorem dX0_readOn_89 : decode cX0_readOn 89 = .ok (.iload_n 2, 1) := by decide +kernel
theorem dX0_readOn_90 : decode cX0_readOn 90 = .ok (.ifCond .eq 14, 3) := by decide +kernel
theorem dX0_readOn_93 : decode cX0_readOn 93 = .ok (.iload_n 0, 1) := by decide +kernel
theorem dX0_readOn_94 : decode cX0_readOn 94 = .ok (.sipush 502, 3) := by decide +kernel
theorem dX0_readOn_97 : decode cX0_readOn 97 = .ok (.if_icmp .eq 7, 3) := by decide +kernel
theorem dX0_readOn_100 : decode cX0_readOn 100 = .ok (.iload_n 0, 1) := by decide +kernel
theorem dX0_readOn_101 : decode cX0_readOn 101 = .ok (.ifCond .ne 7, 3) := by decide +kernel
theorem dX0_readOn_104 : decode cX0_readOn 104 = .ok (.sipush 503, 3) := by decide +kernel
theorem dX0_readOn_107 : decode cX0_readOn 107 = .ok (.ireturn, 1) := by decide +kernel
theorem dX0_readOn_108 : decode cX0_readOn 108 = .ok (.bipush 10, 2) := by decide +kernel
theorem dX0_readOn_110 : decode cX0_readOn 110 = .ok (.iload_n 0, 1) := by decide +kernel
theorem dX0_readOn_111 : decode cX0_readOn 111 = .ok (.imul, 1) := by decide +kernel
theorem dX0_readOn_112 : decode cX0_readOn 112 = .ok (.iload_n 1, 1) := by decide +kernel
theorem dX0_readOn_113 : decode cX0_readOn 113 = .ok (.iadd, 1) := by decide +kernel
theorem dX0_readOn_114 : decode cX0_readOn 114 = .ok (.bipush 48, 2) := by decide +kernel
theorem dX0_readOn_116 : decode cX0_readOn 116 = .ok (.isub, 1) := by decide +kernel
theorem dX0_readOn_117 : decode cX0_readOn 117 = .ok (.istore_n 3, 1) := by decide +kernel
theorem dX0_readOn_118 : decode cX0_readOn 118 = .ok (.iload_n 3, 1) := by decide +kernel
theorem dX0_readOn_119 : decode cX0_readOn 119 = .ok (.sipush 500, 3) := by decide +kernel
theorem dX0_readOn_122 : decode cX0_readOn 122 = .ok (.if_icmp .ge 7, 3) := by decide +kernel
theorem dX0_readOn_125 : decode cX0_readOn 125 = .ok (.iload_n 3, 1) := by decide +kernel
theorem dX0_readOn_126 : decode cX0_readOn 126 = .ok (.goto 6, 3) := by decide +kernel
theorem dX0_readOn_129 : decode cX0_readOn 129 = .ok (.sipush 503, 3) := by decide +kernel
theorem dX0_readOn_132 : decode cX0_readOn 132 = .ok (.ireturn, 1) := by decide +kernel
theorem dX0_endsAct_0 : decode cX0_endsAct 0 = .ok (.iload_n 0, 1) := by decide +kernel
theorem dX0_endsAct_1 : decode cX0_endsAct 1 = .ok (.sipush 500, 3) := by decide +kernel
theorem dX0_endsAct_4 : decode cX0_endsAct 4 = .ok (.if_icmp .lt 10, 3) := by decide +kernel
theorem dX0_endsAct_7 : decode cX0_endsAct 7 = .ok (.iload_n 0, 1) := by decide +kernel
theorem dX0_endsAct_8 : decode cX0_endsAct 8 = .ok (.sipush 502, 3) := by decide +kernel
theorem dX0_endsAct_11 : decode cX0_endsAct 11 = .ok (.if_icmp .ne 7, 3) := by decide +kernel
theorem dX0_endsAct_14 : decode cX0_endsAct 14 = .ok (.iconst 1, 1) := by decide +kernel
theorem dX0_endsAct_15 : decode cX0_endsAct 15 = .ok (.goto 4, 3) := by decide +kernel
theorem dX0_endsAct_18 : decode cX0_endsAct 18 = .ok (.iconst 0, 1) := by decide +kernel
theorem dX0_endsAct_19 : decode cX0_endsAct 19 = .ok (.ireturn, 1) := by decide +kernel
set_option maxRecDepth 20000 in
theorem ggX0_errorIndex_X0_readOn : GoodIn wsX0_errorIndex wsX0_readOn := goodIn_r _ [6] (by decide +kernel) (by decide +kernel)
set_option maxRecDepth 20000 in
theorem gX0_errorIndex_X0_readOn : GoodIn wsX0_errorIndex (va_wsS RX0 19 yX0_readOn wsX0_readOn) := goodIn_app (goodIn_of _ (by decide +kernel)) ggX0_errorIndex_X0_readOn
theorem dX0_errorIndex_0 : decode cX0_errorIndex 0 = .ok (.sipush 500, 3) := by decide +kernel
theorem dX0_errorIndex_3 : decode cX0_errorIndex 3 = .ok (.istore_n 1, 1) := by decide +kernel
theorem dX0_errorIndex_4 : decode cX0_errorIndex 4 = .ok (.iconst 0, 1) := by decide +kernel
theorem dX0_errorIndex_5 : decode cX0_errorIndex 5 = .ok (.istore_n 2, 1) := by decide +kernel
theorem dX0_errorIndex_6 : decode cX0_errorIndex 6 = .ok (.iload_n 2, 1) := by decide +kernel
theorem dX0_errorIndex_7 : decode cX0_errorIndex 7 = .ok (.aload_n 0, 1) := by decide +kernel
theorem dX0_errorIndex_8 : decode cX0_errorIndex 8 = .ok (.getfield 15, 3) := by decide +kernel
theorem dX0_errorIndex_11 : decode cX0_errorIndex 11 = .ok (.if_icmp .ge 29, 3) := by decide +kernel
theorem dX0_errorIndex_14 : decode cX0_errorIndex 14 = .ok (.iload_n 1, 1) := by decide +kernel
theorem dX0_errorIndex_15 : decode cX0_errorIndex 15 = .ok (.aload_n 0, 1) := by decide +kernel
theorem dX0_errorIndex_16 : decode cX0_errorIndex 16 = .ok (.getfield 9, 3) := by decide +kernel
theorem dX0_errorIndex_19 : decode cX0_errorIndex 19 = .ok (.iload_n 2, 1) := by decide +kernel
theorem dX0_errorIndex_20 : decode cX0_errorIndex 20 = .ok (.caload, 1) := by decide +kernel
theorem dX0_errorIndex_21 : decode cX0_errorIndex 21 = .ok (.invokestatic 19, 3) := by decide +kernel
theorem dX0_errorIndex_24 : decode cX0_errorIndex 24 = .ok (.istore_n 1, 1) := by decide +kernel
theorem dX0_errorIndex_25 : decode cX0_errorIndex 25 = .ok (.iload_n 1, 1) := by decide +kernel
theorem dX0_errorIndex_26 : decode cX0_errorIndex 26 = .ok (.sipush 503, 3) := by decide +kernel
theorem dX0_errorIndex_29 : decode cX0_errorIndex 29 = .ok (.if_icmp .ne 5, 3) := by decide +kernel
theorem dX0_errorIndex_32 : decode cX0_errorIndex 32 = .ok (.iload_n 2, 1) := by decide +kernel
theorem dX0_errorIndex_33 : decode cX0_errorIndex 33 = .ok (.ireturn, 1) := by decide +kernel
theorem dX0_errorIndex_34 : decode cX0_errorIndex 34 = .ok (.iinc 2 1, 3) := by decide +kernel
theorem dX0_errorIndex_37 : decode cX0_errorIndex 37 = .ok (.goto (-31), 3) := by decide +kernel
theorem dX0_errorIndex_40 : decode cX0_errorIndex 40 = .ok (.aload_n 0, 1) := by decide +kernel
theorem dX0_errorIndex_41 : decode cX0_errorIndex 41 = .ok (.getfield 15, 3) := by decide +kernel
theorem dX0_errorIndex_44 : decode cX0_errorIndex 44 = .ok (.ireturn, 1) := by decide +kernel
set_option maxRecDepth 20000 in
theorem ggX0_readInto_X0_endsAct : GoodIn wsX0_readInto wsX0_endsAct := goodIn_r _ [6] (by decide +kernel) (by decide +kernel)
set_option maxRecDepth 20000 in
theorem gX0_readInto_X0_endsAct : GoodIn wsX0_readInto (va_wsS RX0 23 yX0_endsAct wsX0_endsAct) := goodIn_app (goodIn_of _ (by decide +kernel)) ggX0_readInto_X0_endsAct
set_option maxRecDepth 20000 in
theorem ggX0_readInto_X0_actOf : GoodIn wsX0_readInto wsX0_actOf := goodIn_r _ [9] (by decide +kernel) (by decide +kernel)
set_option maxRecDepth 20000 in
theorem gX0_readInto_X0_actOf : GoodIn wsX0_readInto (va_wsS RX0 27 yX0_actOf wsX0_actOf) := goodIn_app (goodIn_of _ (by decide +kernel)) ggX0_readInto_X0_actOf
set_option maxRecDepth 20000 in
theorem ggX0_readInto_X0_readOn : GoodIn wsX0_readInto wsX0_readOn := goodIn_r _ [12] (by decide +kernel) (by decide +kernel)
set_option maxRecDepth 20000 in
theorem gX0_readInto_X0_readOn : GoodIn wsX0_readInto (va_wsS RX0 19 yX0_readOn wsX0_readOn) := goodIn_app (goodIn_of _ (by decide +kernel)) ggX0_readInto_X0_readOn
theorem dX0_readInto_0 : decode cX0_readInto 0 = .ok (.sipush 500, 3) := by decide +kernel
theorem dX0_readInto_3 : decode cX0_readInto 3 = .ok (.istore_n 2, 1) := by decide +kernel
theorem dX0_readInto_4 : decode cX0_readInto 4 = .ok (.iconst 0, 1) := by decide +kernel
theorem dX0_readInto_5 : decode cX0_readInto 5 = .ok (.istore_n 3, 1) := by decide +kernel
theorem dX0_readInto_6 : decode cX0_readInto 6 = .ok (.iconst 0, 1) := by decide +kernel
theorem dX0_readInto_7 : decode cX0_readInto 7 = .ok (.istore 4, 2) := by decide +kernel
theorem dX0_readInto_9 : decode cX0_readInto 9 = .ok (.iconst 0, 1) := by decide +kernel
theorem dX0_readInto_10 : decode cX0_readInto 10 = .ok (.istore 5, 2) := by decide +kernel
theorem dX0_readInto_12 : decode cX0_readInto 12 = .ok (.iload 5, 2) := by decide +kernel
theorem dX0_readInto_14 : decode cX0_readInto 14 = .ok (.aload_n 0, 1) := by decide +kernel
theorem dX0_readInto_15 : decode cX0_readInto 15 = .ok (.getfield 15, 3) := by decide +kernel
theorem dX0_readInto_18 : decode cX0_readInto 18 = .ok (.if_icmp .ge 93, 3) := by decide +kernel
theorem dX0_readInto_21 : decode cX0_readInto 21 = .ok (.aload_n 0, 1) := by decide +kernel
theorem dX0_readInto_22 : decode cX0_readInto 22 = .ok (.getfield 9, 3) := by decide +kernel
theorem dX0_readInto_25 : decode cX0_readInto 25 = .ok (.iload 5, 2) := by decide +kernel
theorem dX0_readInto_27 : decode cX0_readInto 27 = .ok (.caload, 1) := by decide +kernel
theorem dX0_readInto_28 : decode cX0_readInto 28 = .ok (.bipush 59, 2) := by decide +kernel
theorem dX0_readInto_30 : decode cX0_readInto 30 = .ok (.if_icmp .ne 28, 3) := by decide +kernel
theorem dX0_readInto_33 : decode cX0_readInto 33 = .ok (.iload_n 2, 1) := by decide +kernel
theorem dX0_readInto_34 : decode cX0_readInto 34 = .ok (.invokestatic 23, 3) := by decide +kernel
theorem dX0_readInto_37 : decode cX0_readInto 37 = .ok (.ifCond .eq 21, 3) := by decide +kernel
theorem dX0_readInto_40 : decode cX0_readInto 40 = .ok (.iload_n 3, 1) := by decide +kernel
theorem dX0_readInto_41 : decode cX0_readInto 41 = .ok (.aload_n 1, 1) := by decide +kernel
theorem dX0_readInto_42 : decode cX0_readInto 42 = .ok (.arraylength, 1) := by decide +kernel
theorem dX0_readInto_43 : decode cX0_readInto 43 = .ok (.if_icmp .ge 15, 3) := by decide +kernel
theorem dX0_readInto_46 : decode cX0_readInto 46 = .ok (.aload_n 1, 1) := by decide +kernel
theorem dX0_readInto_47 : decode cX0_readInto 47 = .ok (.iload_n 3, 1) := by decide +kernel
theorem dX0_readInto_48 : decode cX0_readInto 48 = .ok (.iload_n 2, 1) := by decide +kernel
theorem dX0_readInto_49 : decode cX0_readInto 49 = .ok (.iload 4, 2) := by decide +kernel
theorem dX0_readInto_51 : decode cX0_readInto 51 = .ok (.invokestatic 27, 3) := by decide +kernel
theorem dX0_readInto_54 : decode cX0_readInto 54 = .ok (.iastore, 1) := by decide +kernel
theorem dX0_readInto_55 : decode cX0_readInto 55 = .ok (.iinc 3 1, 3) := by decide +kernel
theorem dX0_readInto_58 : decode cX0_readInto 58 = .ok (.iload_n 2, 1) := by decide +kernel
theorem dX0_readInto_59 : decode cX0_readInto 59 = .ok (.sipush 500, 3) := by decide +kernel
theorem dX0_readInto_62 : decode cX0_readInto 62 = .ok (.if_icmp .ne 22, 3) := by decide +kernel
theorem dX0_readInto_65 : decode cX0_readInto 65 = .ok (.aload_n 0, 1) := by decide +kernel
theorem dX0_readInto_66 : decode cX0_readInto 66 = .ok (.getfield 9, 3) := by decide +kernel
theorem dX0_readInto_69 : decode cX0_readInto 69 = .ok (.iload 5, 2) := by decide +kernel
theorem dX0_readInto_71 : decode cX0_readInto 71 = .ok (.caload, 1) := by decide +kernel
theorem dX0_readInto_72 : decode cX0_readInto 72 = .ok (.bipush 45, 2) := by decide +kernel
theorem dX0_readInto_74 : decode cX0_readInto 74 = .ok (.if_icmp .ne 7, 3) := by decide +kernel
theorem dX0_readInto_77 : decode cX0_readInto 77 = .ok (.iconst 1, 1) := by decide +kernel
theorem dX0_readInto_78 : decode cX0_readInto 78 = .ok (.goto 4, 3) := by decide +kernel
theorem dX0_readInto_81 : decode cX0_readInto 81 = .ok (.iconst 0, 1) := by decide +kernel
theorem dX0_readInto_82 : decode cX0_readInto 82 = .ok (.istore 4, 2) := by decide +kernel
theorem dX0_readInto_84 : decode cX0_readInto 84 = .ok (.iload_n 2, 1) := by decide +kernel
theorem dX0_readInto_85 : decode cX0_readInto 85 = .ok (.aload_n 0, 1) := by decide +kernel
theorem dX0_readInto_86 : decode cX0_readInto 86 = .ok (.getfield 9, 3) := by decide +kernel
theorem dX0_readInto_89 : decode cX0_readInto 89 = .ok (.iload 5, 2) := by decide +kernel
theorem dX0_readInto_91 : decode cX0_readInto 91 = .ok (.caload, 1) := by decide +kernel
theorem dX0_readInto_92 : decode cX0_readInto 92 = .ok (.invokestatic 19, 3) := by decide +kernel
theorem dX0_readInto_95 : decode cX0_readInto 95 = .ok (.istore_n 2, 1) := by decide +kernel
theorem dX0_readInto_96 : decode cX0_readInto 96 = .ok (.iload_n 2, 1) := by decide +kernel
theorem dX0_readInto_97 : decode cX0_readInto 97 = .ok (.sipush 503, 3) := by decide +kernel
theorem dX0_readInto_100 : decode cX0_readInto 100 = .ok (.if_icmp .ne 5, 3) := by decide +kernel
theorem dX0_readInto_103 : decode cX0_readInto 103 = .ok (.iconst (-1), 1) := by decide +kernel
theorem dX0_readInto_104 : decode cX0_readInto 104 = .ok (.ireturn, 1) := by decide +kernel
theorem dX0_readInto_105 : decode cX0_readInto 105 = .ok (.iinc 5 1, 3) := by decide +kernel
theorem dX0_readInto_108 : decode cX0_readInto 108 = .ok (.goto (-96), 3) := by decide +kernel
theorem dX0_readInto_111 : decode cX0_readInto 111 = .ok (.iload_n 2, 1) := by decide +kernel
theorem dX0_readInto_112 : decode cX0_readInto 112 = .ok (.invokestatic 23, 3) := by decide +kernel
theorem dX0_readInto_115 : decode cX0_readInto 115 = .ok (.ifCond .eq 9, 3) := by decide +kernel
theorem dX0_readInto_118 : decode cX0_readInto 118 = .ok (.iload_n 3, 1) := by decide +kernel
theorem dX0_readInto_119 : decode cX0_readInto 119 = .ok (.aload_n 1, 1) := by decide +kernel
theorem dX0_readInto_120 : decode cX0_readInto 120 = .ok (.arraylength, 1) := by decide +kernel
theorem dX0_readInto_121 : decode cX0_readInto 121 = .ok (.if_icmp .lt 5, 3) := by decide +kernel
theorem dX0_readInto_124 : decode cX0_readInto 124 = .ok (.iconst (-1), 1) := by decide +kernel
theorem dX0_readInto_125 : decode cX0_readInto 125 = .ok (.ireturn, 1) := by decide +kernel
theorem dX0_readInto_126 : decode cX0_readInto 126 = .ok (.aload_n 1, 1) := by decide +kernel
theorem dX0_readInto_127 : decode cX0_readInto 127 = .ok (.iload_n 3, 1) := by decide +kernel
theorem dX0_readInto_128 : decode cX0_readInto 128 = .ok (.iload_n 2, 1) := by decide +kernel
theorem dX0_readInto_129 : decode cX0_readInto 129 = .ok (.iload 4, 2) := by decide +kernel
theorem dX0_readInto_131 : decode cX0_readInto 131 = .ok (.invokestatic 27, 3) := by decide +kernel
theorem dX0_readInto_134 : decode cX0_readInto 134 = .ok (.iastore, 1) := by decide +kernel
theorem dX0_readInto_135 : decode cX0_readInto 135 = .ok (.iload_n 3, 1) := by decide +kernel
theorem dX0_readInto_136 : decode cX0_readInto 136 = .ok (.iconst 1, 1) := by decide +kernel
theorem dX0_readInto_137 : decode cX0_readInto 137 = .ok (.iadd, 1) := by decide +kernel
theorem dX0_readInto_138 : decode cX0_readInto 138 = .ok (.ireturn, 1) := by decide +kernel
theorem dX0_actOf_0 : decode cX0_actOf 0 = .ok (.iload_n 0, 1) := by decide +kernel
theorem dX0_actOf_1 : decode cX0_actOf 1 = .ok (.sipush 502, 3) := by decide +kernel
theorem dX0_actOf_4 : decode cX0_actOf 4 = .ok (.if_icmp .ne 5, 3) := by decide +kernel
theorem dX0_actOf_7 : decode cX0_actOf 7 = .ok (.iconst (-1), 1) := by decide +kernel
theorem dX0_actOf_8 : decode cX0_actOf 8 = .ok (.ireturn, 1) := by decide +kernel
theorem dX0_actOf_9 : decode cX0_actOf 9 = .ok (.iload_n 1, 1) := by decide +kernel
theorem dX0_actOf_10 : decode cX0_actOf 10 = .ok (.ifCond .eq 11, 3) := by decide +kernel
theorem dX0_actOf_13 : decode cX0_actOf 13 = .ok (.iload_n 0, 1) := by decide +kernel
theorem dX0_actOf_14 : decode cX0_actOf 14 = .ok (.sipush 500, 3) := by decide +kernel
theorem dX0_actOf_17 : decode cX0_actOf 17 = .ok (.iadd, 1) := by decide +kernel
theorem dX0_actOf_18 : decode cX0_actOf 18 = .ok (.goto 4, 3) := by decide +kernel
theorem dX0_actOf_21 : decode cX0_actOf 21 = .ok (.iload_n 0, 1) := by decide +kernel
theorem dX0_actOf_22 : decode cX0_actOf 22 = .ok (.ireturn, 1) := by decide +kernel
set_option maxRecDepth 20000 in
theorem ggX1_init_X3_init : GoodIn wsX1_init wsX3_init := goodIn_r _ [12, 13, 2, 3, 8, 14, 15, 16, 17, 18, 19, 20, 21] (by decide +kernel) (by decide +kernel)
set_option maxRecDepth 20000 in
theorem gX1_init_X3_init_n11 : GoodIn wsX1_init (wsX3_init) := ggX1_init_X3_init
theorem dX1_init_0 : decode cX1_init 0 = .ok (.aload_n 0, 1) := by decide +kernel
theorem dX1_init_1 : decode cX1_init 1 = .ok (.invokespecial 3, 3) := by decide +kernel
theorem dX1_init_4 : decode cX1_init 4 = .ok (.aload_n 0, 1) := by decide +kernel
theorem dX1_init_5 : decode cX1_init 5 = .ok (.new 9, 3) := by decide +kernel
theorem dX1_init_8 : decode cX1_init 8 = .ok (.dup, 1) := by decide +kernel
theorem dX1_init_9 : decode cX1_init 9 = .ok (.invokespecial 11, 3) := by decide +kernel
theorem dX1_init_12 : decode cX1_init 12 = .ok (.putfield 12, 3) := by decide +kernel
theorem dX1_init_15 : decode cX1_init 15 = .ok (.aload_n 0, 1) := by decide +kernel
theorem dX1_init_16 : decode cX1_init 16 = .ok (.bipush 120, 2) := by decide +kernel
theorem dX1_init_18 : decode cX1_init 18 = .ok (.newarray .int, 2) := by decide +kernel
theorem dX1_init_20 : decode cX1_init 20 = .ok (.putfield 18, 3) := by decide +kernel
theorem dX1_init_23 : decode cX1_init 23 = .ok (.aload_n 0, 1) := by decide +kernel
theorem dX1_init_24 : decode cX1_init 24 = .ok (.bipush 30, 2) := by decide +kernel
theorem dX1_init_26 : decode cX1_init 26 = .ok (.newarray .int, 2) := by decide +kernel
theorem dX1_init_28 : decode cX1_init 28 = .ok (.putfield 22, 3) := by decide +kernel
theorem dX1_init_31 : decode cX1_init 31 = .ok (.return_, 1) := by decide +kernel
set_option maxRecDepth 20000 in
theorem ggX1_becomeCopyOf_X3_becomeCopyOf : GoodIn wsX1_becomeCopyOf wsX3_becomeCopyOf := goodIn_r _ [16, 17, 18, 19, 8, 9, 10, 20, 21, 29, 30, 31, 32] (by decide +kernel) (by decide +kernel)
set_option maxRecDepth 20000 in
theorem gX1_becomeCopyOf_X3_becomeCopyOf : GoodIn wsX1_becomeCopyOf (wsV RX1 25 RX3 yX3_becomeCopyOf wsX3_becomeCopyOf) := goodIn_app (goodIn_of _ (by decide +kernel)) ggX1_becomeCopyOf_X3_becomeCopyOf
theorem dX1_becomeCopyOf_0 : decode cX1_becomeCopyOf 0 = .ok (.aload_n 0, 1) := by decide +kernel
theorem dX1_becomeCopyOf_1 : decode cX1_becomeCopyOf 1 = .ok (.getfield 12, 3) := by decide +kernel
theorem dX1_becomeCopyOf_4 : decode cX1_becomeCopyOf 4 = .ok (.aload_n 1, 1) := by decide +kernel
theorem dX1_becomeCopyOf_5 : decode cX1_becomeCopyOf 5 = .ok (.getfield 12, 3) := by decide +kernel
theorem dX1_becomeCopyOf_8 : decode cX1_becomeCopyOf 8 = .ok (.invokevirtual 25, 3) := by decide +kernel
theorem dX1_becomeCopyOf_11 : decode cX1_becomeCopyOf 11 = .ok (.aload_n 0, 1) := by decide +kernel
theorem dX1_becomeCopyOf_12 : decode cX1_becomeCopyOf 12 = .ok (.aload_n 1, 1) := by decide +kernel
theorem dX1_becomeCopyOf_13 : decode cX1_becomeCopyOf 13 = .ok (.getfield 29, 3) := by decide +kernel
theorem dX1_becomeCopyOf_16 : decode cX1_becomeCopyOf 16 = .ok (.putfield 29, 3) := by decide +kernel
theorem dX1_becomeCopyOf_19 : decode cX1_becomeCopyOf 19 = .ok (.aload_n 0, 1) := by decide +kernel
theorem dX1_becomeCopyOf_20 : decode cX1_becomeCopyOf 20 = .ok (.aload_n 1, 1) := by decide +kernel
theorem dX1_becomeCopyOf_21 : decode cX1_becomeCopyOf 21 = .ok (.getfield 33, 3) := by decide +kernel
theorem dX1_becomeCopyOf_24 : decode cX1_becomeCopyOf 24 = .ok (.putfield 33, 3) := by decide +kernel
theorem dX1_becomeCopyOf_27 : decode cX1_becomeCopyOf 27 = .ok (.aload_n 0, 1) := by decide +kernel
theorem dX1_becomeCopyOf_28 : decode cX1_becomeCopyOf 28 = .ok (.aload_n 1, 1) := by decide +kernel
theorem dX1_becomeCopyOf_29 : decode cX1_becomeCopyOf 29 = .ok (.getfield 36, 3) := by decide +kernel
theorem dX1_becomeCopyOf_32 : decode cX1_becomeCopyOf 32 = .ok (.putfield 36, 3) := by decide +kernel
theorem dX1_becomeCopyOf_35 : decode cX1_becomeCopyOf 35 = .ok (.aload_n 0, 1) := by decide +kernel
theorem dX1_becomeCopyOf_36 : decode cX1_becomeCopyOf 36 = .ok (.aload_n 1, 1) := by decide +kernel
theorem dX1_becomeCopyOf_37 : decode cX1_becomeCopyOf 37 = .ok (.getfield 39, 3) := by decide +kernel
theorem dX1_becomeCopyOf_40 : decode cX1_becomeCopyOf 40 = .ok (.putfield 39, 3) := by decide +kernel
theorem dX1_becomeCopyOf_43 : decode cX1_becomeCopyOf 43 = .ok (.aload_n 1, 1) := by decide +kernel
theorem dX1_becomeCopyOf_44 : decode cX1_becomeCopyOf 44 = .ok (.getfield 18, 3) := by decide +kernel
theorem dX1_becomeCopyOf_47 : decode cX1_becomeCopyOf 47 = .ok (.iconst 0, 1) := by decide +kernel
theorem dX1_becomeCopyOf_48 : decode cX1_becomeCopyOf 48 = .ok (.aload_n 0, 1) := by decide +kernel
theorem dX1_becomeCopyOf_49 : decode cX1_becomeCopyOf 49 = .ok (.getfield 18, 3) := by decide +kernel
theorem dX1_becomeCopyOf_52 : decode cX1_becomeCopyOf 52 = .ok (.iconst 0, 1) := by decide +kernel
theorem dX1_becomeCopyOf_53 : decode cX1_becomeCopyOf 53 = .ok (.aload_n 0, 1) := by decide +kernel
theorem dX1_becomeCopyOf_54 : decode cX1_becomeCopyOf 54 = .ok (.getfield 29, 3) := by decide +kernel
theorem dX1_becomeCopyOf_57 : decode cX1_becomeCopyOf 57 = .ok (.invokestatic 43, 3) := by decide +kernel
theorem dX1_becomeCopyOf_60 : decode cX1_becomeCopyOf 60 = .ok (.aload_n 1, 1) := by decide +kernel
theorem dX1_becomeCopyOf_61 : decode cX1_becomeCopyOf 61 = .ok (.getfield 22, 3) := by decide +kernel
theorem dX1_becomeCopyOf_64 : decode cX1_becomeCopyOf 64 = .ok (.iconst 0, 1) := by decide +kernel
theorem dX1_becomeCopyOf_65 : decode cX1_becomeCopyOf 65 = .ok (.aload_n 0, 1) := by decide +kernel
theorem dX1_becomeCopyOf_66 : decode cX1_becomeCopyOf 66 = .ok (.getfield 22, 3) := by decide +kernel
theorem dX1_becomeCopyOf_69 : decode cX1_becomeCopyOf 69 = .ok (.iconst 0, 1) := by decide +kernel
theorem dX1_becomeCopyOf_70 : decode cX1_becomeCopyOf 70 = .ok (.aload_n 0, 1) := by decide +kernel
theorem dX1_becomeCopyOf_71 : decode cX1_becomeCopyOf 71 = .ok (.getfield 36, 3) := by decide +kernel
theorem dX1_becomeCopyOf_74 : decode cX1_becomeCopyOf 74 = .ok (.invokestatic 43, 3) := by decide +kernel
theorem dX1_becomeCopyOf_77 : decode cX1_becomeCopyOf 77 = .ok (.return_, 1) := by decide +kernel
theorem dX1_stop_0 : decode cX1_stop 0 = .ok (.aload_n 0, 1) := by decide +kernel
theorem dX1_stop_1 : decode cX1_stop 1 = .ok (.getfield 12, 3) := by decide +kernel
theorem dX1_stop_4 : decode cX1_stop 4 = .ok (.iconst 0, 1) := by decide +kernel
theorem dX1_stop_5 : decode cX1_stop 5 = .ok (.putfield 49, 3) := by decide +kernel
theorem dX1_stop_8 : decode cX1_stop 8 = .ok (.aload_n 0, 1) := by decide +kernel
theorem dX1_stop_9 : decode cX1_stop 9 = .ok (.iconst 0, 1) := by decide +kernel
theorem dX1_stop_10 : decode cX1_stop 10 = .ok (.putfield 29, 3) := by decide +kernel
theorem dX1_stop_13 : decode cX1_stop 13 = .ok (.aload_n 0, 1) := by decide +kernel
theorem dX1_stop_14 : decode cX1_stop 14 = .ok (.iconst 0, 1) := by decide +kernel
theorem dX1_stop_15 : decode cX1_stop 15 = .ok (.putfield 33, 3) := by decide +kernel
theorem dX1_stop_18 : decode cX1_stop 18 = .ok (.aload_n 0, 1) := by decide +kernel
theorem dX1_stop_19 : decode cX1_stop 19 = .ok (.iconst 0, 1) := by decide +kernel
theorem dX1_stop_20 : decode cX1_stop 20 = .ok (.putfield 36, 3) := by decide +kernel
theorem dX1_stop_23 : decode cX1_stop 23 = .ok (.aload_n 0, 1) := by decide +kernel
theorem dX1_stop_24 : decode cX1_stop 24 = .ok (.iconst 0, 1) := by decide +kernel
theorem dX1_stop_25 : decode cX1_stop 25 = .ok (.putfield 39, 3) := by decide +kernel
theorem dX1_stop_28 : decode cX1_stop 28 = .ok (.return_, 1) := by decide +kernel
set_option maxRecDepth 20000 in
theorem ggX1_start_X1_stop : GoodIn wsX1_start wsX1_stop := goodIn_r _ [8, 9, 10, 2, 11, 12, 1, 16, 17, 18, 19, 20, 21, 22, 23, 24, 25, 26] (by decide +kernel) (by decide +kernel)
set_option maxRecDepth 20000 in
theorem gX1_start_X1_stop : GoodIn wsX1_start (wsV RX1 52 RX1 yX1_stop wsX1_stop) := goodIn_app (goodIn_of _ (by decide +kernel)) ggX1_start_X1_stop
set_option maxRecDepth 20000 in
theorem ggX1_start_X1_placeInList : GoodIn wsX1_start wsX1_placeInList := goodIn_r _ [15] (by decide +kernel) (by decide +kernel)
set_option maxRecDepth 20000 in
theorem gX1_start_X1_placeInList : GoodIn wsX1_start (va_wsS RX1 55 yX1_placeInList wsX1_placeInList) := goodIn_app (goodIn_of _ (by decide +kernel)) ggX1_start_X1_placeInList
theorem dX1_start_0 : decode cX1_start 0 = .ok (.aload_n 0, 1) := by decide +kernel
theorem dX1_start_1 : decode cX1_start 1 = .ok (.invokevirtual 52, 3) := by decide +kernel
theorem dX1_start_4 : decode cX1_start 4 = .ok (.aload_n 0, 1) := by decide +kernel
theorem dX1_start_5 : decode cX1_start 5 = .ok (.iconst 1, 1) := by decide +kernel
theorem dX1_start_6 : decode cX1_start 6 = .ok (.putfield 39, 3) := by decide +kernel
theorem dX1_start_9 : decode cX1_start 9 = .ok (.aload_n 0, 1) := by decide +kernel
theorem dX1_start_10 : decode cX1_start 10 = .ok (.iload_n 2, 1) := by decide +kernel
theorem dX1_start_11 : decode cX1_start 11 = .ok (.putfield 29, 3) := by decide +kernel
theorem dX1_start_14 : decode cX1_start 14 = .ok (.iconst 0, 1) := by decide +kernel
theorem dX1_start_15 : decode cX1_start 15 = .ok (.istore_n 3, 1) := by decide +kernel
theorem dX1_start_16 : decode cX1_start 16 = .ok (.iconst 0, 1) := by decide +kernel
theorem dX1_start_17 : decode cX1_start 17 = .ok (.istore 4, 2) := by decide +kernel
theorem dX1_start_19 : decode cX1_start 19 = .ok (.iload 4, 2) := by decide +kernel
theorem dX1_start_21 : decode cX1_start 21 = .ok (.aload_n 1, 1) := by decide +kernel
theorem dX1_start_22 : decode cX1_start 22 = .ok (.arraylength, 1) := by decide +kernel
theorem dX1_start_23 : decode cX1_start 23 = .ok (.if_icmp .ge 36, 3) := by decide +kernel
theorem dX1_start_26 : decode cX1_start 26 = .ok (.aload_n 1, 1) := by decide +kernel
theorem dX1_start_27 : decode cX1_start 27 = .ok (.iload 4, 2) := by decide +kernel
theorem dX1_start_29 : decode cX1_start 29 = .ok (.baload, 1) := by decide +kernel
theorem dX1_start_30 : decode cX1_start 30 = .ok (.ifCond .eq 23, 3) := by decide +kernel
theorem dX1_start_33 : decode cX1_start 33 = .ok (.iload_n 3, 1) := by decide +kernel
theorem dX1_start_34 : decode cX1_start 34 = .ok (.iload_n 2, 1) := by decide +kernel
theorem dX1_start_35 : decode cX1_start 35 = .ok (.if_icmp .ge 18, 3) := by decide +kernel
theorem dX1_start_38 : decode cX1_start 38 = .ok (.aload_n 0, 1) := by decide +kernel
theorem dX1_start_39 : decode cX1_start 39 = .ok (.getfield 18, 3) := by decide +kernel
theorem dX1_start_42 : decode cX1_start 42 = .ok (.iload_n 3, 1) := by decide +kernel
theorem dX1_start_43 : decode cX1_start 43 = .ok (.iload_n 2, 1) := by decide +kernel
theorem dX1_start_44 : decode cX1_start 44 = .ok (.invokestatic 55, 3) := by decide +kernel
theorem dX1_start_47 : decode cX1_start 47 = .ok (.iload 4, 2) := by decide +kernel
theorem dX1_start_49 : decode cX1_start 49 = .ok (.iastore, 1) := by decide +kernel
theorem dX1_start_50 : decode cX1_start 50 = .ok (.iinc 3 1, 3) := by decide +kernel
theorem dX1_start_53 : decode cX1_start 53 = .ok (.iinc 4 1, 3) := by decide +kernel
theorem dX1_start_56 : decode cX1_start 56 = .ok (.goto (-37), 3) := by decide +kernel
theorem dX1_start_59 : decode cX1_start 59 = .ok (.return_, 1) := by decide +kernel
theorem dX1_placeInList_0 : decode cX1_placeInList 0 = .ok (.iconst 0, 1) := by decide +kernel
theorem dX1_placeInList_1 : decode cX1_placeInList 1 = .ok (.istore_n 2, 1) := by decide +kernel
theorem dX1_placeInList_2 : decode cX1_placeInList 2 = .ok (.iload_n 1, 1) := by decide +kernel
theorem dX1_placeInList_3 : decode cX1_placeInList 3 = .ok (.istore_n 3, 1) := by decide +kernel
theorem dX1_placeInList_4 : decode cX1_placeInList 4 = .ok (.iconst 0, 1) := by decide +kernel
theorem dX1_placeInList_5 : decode cX1_placeInList 5 = .ok (.istore 4, 2) := by decide +kernel
theorem dX1_placeInList_7 : decode cX1_placeInList 7 = .ok (.iconst 0, 1) := by decide +kernel
theorem dX1_placeInList_8 : decode cX1_placeInList 8 = .ok (.istore 5, 2) := by decide +kernel
theorem dX1_placeInList_10 : decode cX1_placeInList 10 = .ok (.iload 5, 2) := by decide +kernel
theorem dX1_placeInList_12 : decode cX1_placeInList 12 = .ok (.bipush 120, 2) := by decide +kernel
theorem dX1_placeInList_14 : decode cX1_placeInList 14 = .ok (.if_icmp .ge 58, 3) := by decide +kernel
theorem dX1_placeInList_17 : decode cX1_placeInList 17 = .ok (.iload_n 2, 1) := by decide +kernel
theorem dX1_placeInList_18 : decode cX1_placeInList 18 = .ok (.iload_n 3, 1) := by decide +kernel
theorem dX1_placeInList_19 : decode cX1_placeInList 19 = .ok (.iload_n 2, 1) := by decide +kernel
theorem dX1_placeInList_20 : decode cX1_placeInList 20 = .ok (.isub, 1) := by decide +kernel
theorem dX1_placeInList_21 : decode cX1_placeInList 21 = .ok (.iconst 2, 1) := by decide +kernel
theorem dX1_placeInList_22 : decode cX1_placeInList 22 = .ok (.idiv, 1) := by decide +kernel
theorem dX1_placeInList_23 : decode cX1_placeInList 23 = .ok (.iadd, 1) := by decide +kernel
theorem dX1_placeInList_24 : decode cX1_placeInList 24 = .ok (.istore 6, 2) := by decide +kernel
theorem dX1_placeInList_26 : decode cX1_placeInList 26 = .ok (.iload_n 0, 1) := by decide +kernel
theorem dX1_placeInList_27 : decode cX1_placeInList 27 = .ok (.iload 6, 2) := by decide +kernel
theorem dX1_placeInList_29 : decode cX1_placeInList 29 = .ok (.if_icmp .ne 6, 3) := by decide +kernel
theorem dX1_placeInList_32 : decode cX1_placeInList 32 = .ok (.iload 4, 2) := by decide +kernel
theorem dX1_placeInList_34 : decode cX1_placeInList 34 = .ok (.ireturn, 1) := by decide +kernel
theorem dX1_placeInList_35 : decode cX1_placeInList 35 = .ok (.iload_n 0, 1) := by decide +kernel
theorem dX1_placeInList_36 : decode cX1_placeInList 36 = .ok (.iload 6, 2) := by decide +kernel
theorem dX1_placeInList_38 : decode cX1_placeInList 38 = .ok (.if_icmp .ge 12, 3) := by decide +kernel
theorem dX1_placeInList_41 : decode cX1_placeInList 41 = .ok (.iinc 4 1, 3) := by decide +kernel
theorem dX1_placeInList_44 : decode cX1_placeInList 44 = .ok (.iload 6, 2) := by decide +kernel
theorem dX1_placeInList_46 : decode cX1_placeInList 46 = .ok (.istore_n 3, 1) := by decide +kernel
theorem dX1_placeInList_47 : decode cX1_placeInList 47 = .ok (.goto 19, 3) := by decide +kernel
theorem dX1_placeInList_50 : decode cX1_placeInList 50 = .ok (.iload 4, 2) := by decide +kernel
theorem dX1_placeInList_52 : decode cX1_placeInList 52 = .ok (.iload 6, 2) := by decide +kernel
theorem dX1_placeInList_54 : decode cX1_placeInList 54 = .ok (.iload_n 2, 1) := by decide +kernel
theorem dX1_placeInList_55 : decode cX1_placeInList 55 = .ok (.isub, 1) := by decide +kernel
theorem dX1_placeInList_56 : decode cX1_placeInList 56 = .ok (.iconst 1, 1) := by decide +kernel
theorem dX1_placeInList_57 : decode cX1_placeInList 57 = .ok (.iadd, 1) := by decide +kernel
theorem dX1_placeInList_58 : decode cX1_placeInList 58 = .ok (.iadd, 1) := by decide +kernel
theorem dX1_placeInList_59 : decode cX1_placeInList 59 = .ok (.istore 4, 2) := by decide +kernel
theorem dX1_placeInList_61 : decode cX1_placeInList 61 = .ok (.iload 6, 2) := by decide +kernel
theorem dX1_placeInList_63 : decode cX1_placeInList 63 = .ok (.iconst 1, 1) := by decide +kernel
theorem dX1_placeInList_64 : decode cX1_placeInList 64 = .ok (.iadd, 1) := by decide +kernel
theorem dX1_placeInList_65 : decode cX1_placeInList 65 = .ok (.istore_n 2, 1) := by decide +kernel
theorem dX1_placeInList_66 : decode cX1_placeInList 66 = .ok (.iinc 5 1, 3) := by decide +kernel
theorem dX1_placeInList_69 : decode cX1_placeInList 69 = .ok (.goto (-59), 3) := by decide +kernel
theorem dX1_placeInList_72 : decode cX1_placeInList 72 = .ok (.iload 4, 2) := by decide +kernel
theorem dX1_placeInList_74 : decode cX1_placeInList 74 = .ok (.ireturn, 1) := by decide +kernel
theorem dX1_enqueue_0 : decode cX1_enqueue 0 = .ok (.aload_n 0, 1) := by decide +kernel
theorem dX1_enqueue_1 : decode cX1_enqueue 1 = .ok (.getfield 36, 3) := by decide +kernel
theorem dX1_enqueue_4 : decode cX1_enqueue 4 = .ok (.bipush 30, 2) := by decide +kernel
theorem dX1_enqueue_6 : decode cX1_enqueue 6 = .ok (.if_icmp .ge 23, 3) := by decide +kernel
theorem dX1_enqueue_9 : decode cX1_enqueue 9 = .ok (.aload_n 0, 1) := by decide +kernel
theorem dX1_enqueue_10 : decode cX1_enqueue 10 = .ok (.getfield 22, 3) := by decide +kernel
theorem dX1_enqueue_13 : decode cX1_enqueue 13 = .ok (.aload_n 0, 1) := by decide +kernel
theorem dX1_enqueue_14 : decode cX1_enqueue 14 = .ok (.getfield 36, 3) := by decide +kernel
theorem dX1_enqueue_17 : decode cX1_enqueue 17 = .ok (.iload_n 1, 1) := by decide +kernel
theorem dX1_enqueue_18 : decode cX1_enqueue 18 = .ok (.iastore, 1) := by decide +kernel
theorem dX1_enqueue_19 : decode cX1_enqueue 19 = .ok (.aload_n 0, 1) := by decide +kernel
theorem dX1_enqueue_20 : decode cX1_enqueue 20 = .ok (.dup, 1) := by decide +kernel
theorem dX1_enqueue_21 : decode cX1_enqueue 21 = .ok (.getfield 36, 3) := by decide +kernel
theorem dX1_enqueue_24 : decode cX1_enqueue 24 = .ok (.iconst 1, 1) := by decide +kernel
theorem dX1_enqueue_25 : decode cX1_enqueue 25 = .ok (.iadd, 1) := by decide +kernel
theorem dX1_enqueue_26 : decode cX1_enqueue 26 = .ok (.putfield 36, 3) := by decide +kernel
theorem dX1_enqueue_29 : decode cX1_enqueue 29 = .ok (.return_, 1) := by decide +kernel
theorem dX1_dequeue_0 : decode cX1_dequeue 0 = .ok (.aload_n 0, 1) := by decide +kernel
theorem dX1_dequeue_1 : decode cX1_dequeue 1 = .ok (.getfield 22, 3) := by decide +kernel
theorem dX1_dequeue_4 : decode cX1_dequeue 4 = .ok (.iconst 0, 1) := by decide +kernel
theorem dX1_dequeue_5 : decode cX1_dequeue 5 = .ok (.iaload, 1) := by decide +kernel
theorem dX1_dequeue_6 : decode cX1_dequeue 6 = .ok (.istore_n 1, 1) := by decide +kernel
theorem dX1_dequeue_7 : decode cX1_dequeue 7 = .ok (.aload_n 0, 1) := by decide +kernel
theorem dX1_dequeue_8 : decode cX1_dequeue 8 = .ok (.dup, 1) := by decide +kernel
theorem dX1_dequeue_9 : decode cX1_dequeue 9 = .ok (.getfield 36, 3) := by decide +kernel
theorem dX1_dequeue_12 : decode cX1_dequeue 12 = .ok (.iconst 1, 1) := by decide +kernel
theorem dX1_dequeue_13 : decode cX1_dequeue 13 = .ok (.isub, 1) := by decide +kernel
theorem dX1_dequeue_14 : decode cX1_dequeue 14 = .ok (.putfield 36, 3) := by decide +kernel
theorem dX1_dequeue_17 : decode cX1_dequeue 17 = .ok (.aload_n 0, 1) := by decide +kernel
theorem dX1_dequeue_18 : decode cX1_dequeue 18 = .ok (.getfield 22, 3) := by decide +kernel
theorem dX1_dequeue_21 : decode cX1_dequeue 21 = .ok (.iconst 1, 1) := by decide +kernel
theorem dX1_dequeue_22 : decode cX1_dequeue 22 = .ok (.aload_n 0, 1) := by decide +kernel
theorem dX1_dequeue_23 : decode cX1_dequeue 23 = .ok (.getfield 22, 3) := by decide +kernel
theorem dX1_dequeue_26 : decode cX1_dequeue 26 = .ok (.iconst 0, 1) := by decide +kernel
theorem dX1_dequeue_27 : decode cX1_dequeue 27 = .ok (.aload_n 0, 1) := by decide +kernel
theorem dX1_dequeue_28 : decode cX1_dequeue 28 = .ok (.getfield 36, 3) := by decide +kernel
theorem dX1_dequeue_31 : decode cX1_dequeue 31 = .ok (.invokestatic 43, 3) := by decide +kernel
theorem dX1_dequeue_34 : decode cX1_dequeue 34 = .ok (.iload_n 1, 1) := by decide +kernel
theorem dX1_dequeue_35 : decode cX1_dequeue 35 = .ok (.ireturn, 1) := by decide +kernel
set_option maxRecDepth 20000 in
theorem ggX1_takeStep_X3_changeBy : GoodIn wsX1_takeStep wsX3_changeBy := goodIn_r _ [10, 11, 12, 13, 14, 15, 9, 16, 17, 18, 19, 20, 21, 22, 23, 24, 25, 26, 27, 28, 29, 30, 49, 50, 51, 52] (by decide +kernel) (by decide +kernel)
set_option maxRecDepth 20000 in
theorem gX1_takeStep_X3_changeBy : GoodIn wsX1_takeStep (wsV RX1 59 RX3 yX3_changeBy wsX3_changeBy) := goodIn_app (goodIn_of _ (by decide +kernel)) ggX1_takeStep_X3_changeBy
set_option maxRecDepth 20000 in
theorem ggX1_takeStep_X1_dequeue : GoodIn wsX1_takeStep wsX1_dequeue := goodIn_r _ [35, 36, 5, 37, 24, 25, 26, 42, 43, 44, 45, 46, 47, 48] (by decide +kernel) (by decide +kernel)
set_option maxRecDepth 20000 in
theorem gX1_takeStep_X1_dequeue : GoodIn wsX1_takeStep (wsV RX1 63 RX1 yX1_dequeue wsX1_dequeue) := goodIn_app (goodIn_of _ (by decide +kernel)) ggX1_takeStep_X1_dequeue
set_option maxRecDepth 20000 in
theorem ggX1_takeStep_X3_visitsFor : GoodIn wsX1_takeStep wsX3_visitsFor := goodIn_r _ [41, 22, 13, 14, 15, 9, 16, 17, 11, 49, 50, 51, 52] (by decide +kernel) (by decide +kernel)
set_option maxRecDepth 20000 in
theorem gX1_takeStep_X3_visitsFor : GoodIn wsX1_takeStep (wsV RX1 67 RX3 yX3_visitsFor wsX3_visitsFor) := goodIn_app (goodIn_of _ (by decide +kernel)) ggX1_takeStep_X3_visitsFor
theorem dX1_takeStep_0 : decode cX1_takeStep 0 = .ok (.aload_n 0, 1) := by decide +kernel
theorem dX1_takeStep_1 : decode cX1_takeStep 1 = .ok (.getfield 33, 3) := by decide +kernel
theorem dX1_takeStep_4 : decode cX1_takeStep 4 = .ok (.aload_n 0, 1) := by decide +kernel
theorem dX1_takeStep_5 : decode cX1_takeStep 5 = .ok (.getfield 29, 3) := by decide +kernel
theorem dX1_takeStep_8 : decode cX1_takeStep 8 = .ok (.if_icmp .ge 32, 3) := by decide +kernel
theorem dX1_takeStep_11 : decode cX1_takeStep 11 = .ok (.aload_n 0, 1) := by decide +kernel
theorem dX1_takeStep_12 : decode cX1_takeStep 12 = .ok (.getfield 12, 3) := by decide +kernel
theorem dX1_takeStep_15 : decode cX1_takeStep 15 = .ok (.aload_n 0, 1) := by decide +kernel
theorem dX1_takeStep_16 : decode cX1_takeStep 16 = .ok (.getfield 18, 3) := by decide +kernel
theorem dX1_takeStep_19 : decode cX1_takeStep 19 = .ok (.aload_n 0, 1) := by decide +kernel
theorem dX1_takeStep_20 : decode cX1_takeStep 20 = .ok (.getfield 33, 3) := by decide +kernel
theorem dX1_takeStep_23 : decode cX1_takeStep 23 = .ok (.iaload, 1) := by decide +kernel
theorem dX1_takeStep_24 : decode cX1_takeStep 24 = .ok (.invokevirtual 59, 3) := by decide +kernel
theorem dX1_takeStep_27 : decode cX1_takeStep 27 = .ok (.pop, 1) := by decide +kernel
theorem dX1_takeStep_28 : decode cX1_takeStep 28 = .ok (.aload_n 0, 1) := by decide +kernel
theorem dX1_takeStep_29 : decode cX1_takeStep 29 = .ok (.dup, 1) := by decide +kernel
theorem dX1_takeStep_30 : decode cX1_takeStep 30 = .ok (.getfield 33, 3) := by decide +kernel
theorem dX1_takeStep_33 : decode cX1_takeStep 33 = .ok (.iconst 1, 1) := by decide +kernel
theorem dX1_takeStep_34 : decode cX1_takeStep 34 = .ok (.iadd, 1) := by decide +kernel
theorem dX1_takeStep_35 : decode cX1_takeStep 35 = .ok (.putfield 33, 3) := by decide +kernel
theorem dX1_takeStep_38 : decode cX1_takeStep 38 = .ok (.iconst 1, 1) := by decide +kernel
theorem dX1_takeStep_39 : decode cX1_takeStep 39 = .ok (.ireturn, 1) := by decide +kernel
theorem dX1_takeStep_40 : decode cX1_takeStep 40 = .ok (.aload_n 0, 1) := by decide +kernel
theorem dX1_takeStep_41 : decode cX1_takeStep 41 = .ok (.getfield 36, 3) := by decide +kernel
theorem dX1_takeStep_44 : decode cX1_takeStep 44 = .ok (.ifCond .le 28, 3) := by decide +kernel
theorem dX1_takeStep_47 : decode cX1_takeStep 47 = .ok (.aload_n 0, 1) := by decide +kernel
theorem dX1_takeStep_48 : decode cX1_takeStep 48 = .ok (.invokevirtual 63, 3) := by decide +kernel
theorem dX1_takeStep_51 : decode cX1_takeStep 51 = .ok (.istore_n 1, 1) := by decide +kernel
theorem dX1_takeStep_52 : decode cX1_takeStep 52 = .ok (.aload_n 0, 1) := by decide +kernel
theorem dX1_takeStep_53 : decode cX1_takeStep 53 = .ok (.getfield 12, 3) := by decide +kernel
theorem dX1_takeStep_56 : decode cX1_takeStep 56 = .ok (.iload_n 1, 1) := by decide +kernel
theorem dX1_takeStep_57 : decode cX1_takeStep 57 = .ok (.invokevirtual 67, 3) := by decide +kernel
theorem dX1_takeStep_60 : decode cX1_takeStep 60 = .ok (.istore_n 2, 1) := by decide +kernel
theorem dX1_takeStep_61 : decode cX1_takeStep 61 = .ok (.aload_n 0, 1) := by decide +kernel
theorem dX1_takeStep_62 : decode cX1_takeStep 62 = .ok (.getfield 12, 3) := by decide +kernel
theorem dX1_takeStep_65 : decode cX1_takeStep 65 = .ok (.iload_n 1, 1) := by decide +kernel
theorem dX1_takeStep_66 : decode cX1_takeStep 66 = .ok (.invokevirtual 59, 3) := by decide +kernel
theorem dX1_takeStep_69 : decode cX1_takeStep 69 = .ok (.pop, 1) := by decide +kernel
theorem dX1_takeStep_70 : decode cX1_takeStep 70 = .ok (.iload_n 2, 1) := by decide +kernel
theorem dX1_takeStep_71 : decode cX1_takeStep 71 = .ok (.ireturn, 1) := by decide +kernel
theorem dX1_takeStep_72 : decode cX1_takeStep 72 = .ok (.iconst 0, 1) := by decide +kernel
theorem dX1_takeStep_73 : decode cX1_takeStep 73 = .ok (.ireturn, 1) := by decide +kernel
theorem dX1_isComplete_0 : decode cX1_isComplete 0 = .ok (.aload_n 0, 1) := by decide +kernel
theorem dX1_isComplete_1 : decode cX1_isComplete 1 = .ok (.getfield 33, 3) := by decide +kernel
theorem dX1_isComplete_4 : decode cX1_isComplete 4 = .ok (.aload_n 0, 1) := by decide +kernel
theorem dX1_isComplete_5 : decode cX1_isComplete 5 = .ok (.getfield 29, 3) := by decide +kernel
theorem dX1_isComplete_8 : decode cX1_isComplete 8 = .ok (.if_icmp .ne 14, 3) := by decide +kernel
theorem dX1_isComplete_11 : decode cX1_isComplete 11 = .ok (.aload_n 0, 1) := by decide +kernel
theorem dX1_isComplete_12 : decode cX1_isComplete 12 = .ok (.getfield 36, 3) := by decide +kernel
theorem dX1_isComplete_15 : decode cX1_isComplete 15 = .ok (.ifCond .ne 7, 3) := by decide +kernel
theorem dX1_isComplete_18 : decode cX1_isComplete 18 = .ok (.iconst 1, 1) := by decide +kernel
theorem dX1_isComplete_19 : decode cX1_isComplete 19 = .ok (.goto 4, 3) := by decide +kernel
theorem dX1_isComplete_22 : decode cX1_isComplete 22 = .ok (.iconst 0, 1) := by decide +kernel
theorem dX1_isComplete_23 : decode cX1_isComplete 23 = .ok (.ireturn, 1) := by decide +kernel
theorem dX1_condition_0 : decode cX1_condition 0 = .ok (.aload_n 0, 1) := by decide +kernel
theorem dX1_condition_1 : decode cX1_condition 1 = .ok (.getfield 39, 3) := by decide +kernel
theorem dX1_condition_4 : decode cX1_condition 4 = .ok (.ifCond .ne 5, 3) := by decide +kernel
theorem dX1_condition_7 : decode cX1_condition 7 = .ok (.iconst 0, 1) := by decide +kernel
theorem dX1_condition_8 : decode cX1_condition 8 = .ok (.ireturn, 1) := by decide +kernel
theorem dX1_condition_9 : decode cX1_condition 9 = .ok (.aload_n 0, 1) := by decide +kernel
theorem dX1_condition_10 : decode cX1_condition 10 = .ok (.getfield 33, 3) := by decide +kernel
theorem dX1_condition_13 : decode cX1_condition 13 = .ok (.aload_n 0, 1) := by decide +kernel
theorem dX1_condition_14 : decode cX1_condition 14 = .ok (.getfield 29, 3) := by decide +kernel
theorem dX1_condition_17 : decode cX1_condition 17 = .ok (.if_icmp .ge 7, 3) := by decide +kernel
theorem dX1_condition_20 : decode cX1_condition 20 = .ok (.iconst 1, 1) := by decide +kernel
theorem dX1_condition_21 : decode cX1_condition 21 = .ok (.goto 4, 3) := by decide +kernel
theorem dX1_condition_24 : decode cX1_condition 24 = .ok (.iconst 2, 1) := by decide +kernel
theorem dX1_condition_25 : decode cX1_condition 25 = .ok (.ireturn, 1) := by decide +kernel
theorem dX1_nextKey_0 : decode cX1_nextKey 0 = .ok (.aload_n 0, 1) := by decide +kernel
theorem dX1_nextKey_1 : decode cX1_nextKey 1 = .ok (.getfield 33, 3) := by decide +kernel
theorem dX1_nextKey_4 : decode cX1_nextKey 4 = .ok (.aload_n 0, 1) := by decide +kernel
theorem dX1_nextKey_5 : decode cX1_nextKey 5 = .ok (.getfield 29, 3) := by decide +kernel
theorem dX1_nextKey_8 : decode cX1_nextKey 8 = .ok (.if_icmp .ge 15, 3) := by decide +kernel
theorem dX1_nextKey_11 : decode cX1_nextKey 11 = .ok (.aload_n 0, 1) := by decide +kernel
theorem dX1_nextKey_12 : decode cX1_nextKey 12 = .ok (.getfield 18, 3) := by decide +kernel
theorem dX1_nextKey_15 : decode cX1_nextKey 15 = .ok (.aload_n 0, 1) := by decide +kernel
theorem dX1_nextKey_16 : decode cX1_nextKey 16 = .ok (.getfield 33, 3) := by decide +kernel
theorem dX1_nextKey_19 : decode cX1_nextKey 19 = .ok (.iaload, 1) := by decide +kernel
theorem dX1_nextKey_20 : decode cX1_nextKey 20 = .ok (.goto 4, 3) := by decide +kernel
theorem dX1_nextKey_23 : decode cX1_nextKey 23 = .ok (.iconst (-1), 1) := by decide +kernel
theorem dX1_nextKey_24 : decode cX1_nextKey 24 = .ok (.ireturn, 1) := by decide +kernel
theorem dX1_stepsLeft_0 : decode cX1_stepsLeft 0 = .ok (.iconst 1, 1) := by decide +kernel
theorem dX1_stepsLeft_1 : decode cX1_stepsLeft 1 = .ok (.aload_n 0, 1) := by decide +kernel
theorem dX1_stepsLeft_2 : decode cX1_stepsLeft 2 = .ok (.getfield 29, 3) := by decide +kernel
theorem dX1_stepsLeft_5 : decode cX1_stepsLeft 5 = .ok (.aload_n 0, 1) := by decide +kernel
theorem dX1_stepsLeft_6 : decode cX1_stepsLeft 6 = .ok (.getfield 33, 3) := by decide +kernel
theorem dX1_stepsLeft_9 : decode cX1_stepsLeft 9 = .ok (.isub, 1) := by decide +kernel
theorem dX1_stepsLeft_10 : decode cX1_stepsLeft 10 = .ok (.aload_n 0, 1) := by decide +kernel
theorem dX1_stepsLeft_11 : decode cX1_stepsLeft 11 = .ok (.getfield 36, 3) := by decide +kernel
theorem dX1_stepsLeft_14 : decode cX1_stepsLeft 14 = .ok (.iadd, 1) := by decide +kernel
theorem dX1_stepsLeft_15 : decode cX1_stepsLeft 15 = .ok (.invokestatic 71, 3) := by decide +kernel
theorem dX1_stepsLeft_18 : decode cX1_stepsLeft 18 = .ok (.ireturn, 1) := by decide +kernel
set_option maxRecDepth 20000 in
theorem ggX1_callsLeft_X1_stepsLeft : GoodIn wsX1_callsLeft wsX1_stepsLeft := goodIn_r _ [5, 6, 7, 8, 9, 10, 11, 12, 13, 14, 15, 16, 17, 18, 19] (by decide +kernel) (by decide +kernel)
set_option maxRecDepth 20000 in
theorem gX1_callsLeft_X1_stepsLeft : GoodIn wsX1_callsLeft (wsV RX1 76 RX1 yX1_stepsLeft wsX1_stepsLeft) := goodIn_app (goodIn_of _ (by decide +kernel)) ggX1_callsLeft_X1_stepsLeft
theorem dX1_callsLeft_0 : decode cX1_callsLeft 0 = .ok (.iload_n 1, 1) := by decide +kernel
theorem dX1_callsLeft_1 : decode cX1_callsLeft 1 = .ok (.iconst 1, 1) := by decide +kernel
theorem dX1_callsLeft_2 : decode cX1_callsLeft 2 = .ok (.if_icmp .ge 7, 3) := by decide +kernel
theorem dX1_callsLeft_5 : decode cX1_callsLeft 5 = .ok (.iconst (-1), 1) := by decide +kernel
theorem dX1_callsLeft_6 : decode cX1_callsLeft 6 = .ok (.goto 13, 3) := by decide +kernel
theorem dX1_callsLeft_9 : decode cX1_callsLeft 9 = .ok (.aload_n 0, 1) := by decide +kernel
theorem dX1_callsLeft_10 : decode cX1_callsLeft 10 = .ok (.invokevirtual 76, 3) := by decide +kernel
theorem dX1_callsLeft_13 : decode cX1_callsLeft 13 = .ok (.iload_n 1, 1) := by decide +kernel
theorem dX1_callsLeft_14 : decode cX1_callsLeft 14 = .ok (.iadd, 1) := by decide +kernel
theorem dX1_callsLeft_15 : decode cX1_callsLeft 15 = .ok (.iconst 1, 1) := by decide +kernel
theorem dX1_callsLeft_16 : decode cX1_callsLeft 16 = .ok (.isub, 1) := by decide +kernel
theorem dX1_callsLeft_17 : decode cX1_callsLeft 17 = .ok (.iload_n 1, 1) := by decide +kernel
theorem dX1_callsLeft_18 : decode cX1_callsLeft 18 = .ok (.idiv, 1) := by decide +kernel
theorem dX1_callsLeft_19 : decode cX1_callsLeft 19 = .ok (.ireturn, 1) := by decide +kernel
set_option maxRecDepth 20000 in
theorem ggX2_init_X3_init : GoodIn wsX2_init wsX3_init := goodIn_r _ [22, 23, 2, 3, 19, 24, 25, 26, 27, 35, 36, 37, 38] (by decide +kernel) (by decide +kernel)
set_option maxRecDepth 20000 in
theorem gX2_init_X3_init_n11 : GoodIn wsX2_init (wsX3_init) := ggX2_init_X3_init
set_option maxRecDepth 20000 in
theorem ggX2_init_X1_init : GoodIn wsX2_init wsX1_init := goodIn_r _ [29, 30, 2, 3, 31, 5, 6, 32, 19, 33, 34, 21, 22, 23, 24, 25, 26, 27, 35, 36, 37, 38, 43, 44, 45, 46, 47, 48, 49] (by decide +kernel) (by decide +kernel)
set_option maxRecDepth 20000 in
theorem gX2_init_X1_init_n20 : GoodIn wsX2_init (wsX1_init) := ggX2_init_X1_init
theorem dX2_init_0 : decode cX2_init 0 = .ok (.aload_n 0, 1) := by decide +kernel
theorem dX2_init_1 : decode cX2_init 1 = .ok (.invokespecial 3, 3) := by decide +kernel
theorem dX2_init_4 : decode cX2_init 4 = .ok (.aload_n 0, 1) := by decide +kernel
theorem dX2_init_5 : decode cX2_init 5 = .ok (.new 9, 3) := by decide +kernel
theorem dX2_init_8 : decode cX2_init 8 = .ok (.dup, 1) := by decide +kernel
theorem dX2_init_9 : decode cX2_init 9 = .ok (.invokespecial 11, 3) := by decide +kernel
theorem dX2_init_12 : decode cX2_init 12 = .ok (.putfield 12, 3) := by decide +kernel
theorem dX2_init_15 : decode cX2_init 15 = .ok (.aload_n 0, 1) := by decide +kernel
theorem dX2_init_16 : decode cX2_init 16 = .ok (.new 18, 3) := by decide +kernel
theorem dX2_init_19 : decode cX2_init 19 = .ok (.dup, 1) := by decide +kernel
theorem dX2_init_20 : decode cX2_init 20 = .ok (.invokespecial 20, 3) := by decide +kernel
theorem dX2_init_23 : decode cX2_init 23 = .ok (.putfield 21, 3) := by decide +kernel
theorem dX2_init_26 : decode cX2_init 26 = .ok (.aload_n 0, 1) := by decide +kernel
theorem dX2_init_27 : decode cX2_init 27 = .ok (.getstatic 25, 3) := by decide +kernel
theorem dX2_init_30 : decode cX2_init 30 = .ok (.invokevirtual 29, 3) := by decide +kernel
theorem dX2_init_33 : decode cX2_init 33 = .ok (.checkcast 30, 3) := by decide +kernel
theorem dX2_init_36 : decode cX2_init 36 = .ok (.putfield 34, 3) := by decide +kernel
theorem dX2_init_39 : decode cX2_init 39 = .ok (.aload_n 0, 1) := by decide +kernel
theorem dX2_init_40 : decode cX2_init 40 = .ok (.bipush 7, 2) := by decide +kernel
theorem dX2_init_42 : decode cX2_init 42 = .ok (.newarray .int, 2) := by decide +kernel
theorem dX2_init_44 : decode cX2_init 44 = .ok (.putfield 37, 3) := by decide +kernel
theorem dX2_init_47 : decode cX2_init 47 = .ok (.return_, 1) := by decide +kernel
set_option maxRecDepth 20000 in
theorem ggX2_becomeCopyOf_X3_becomeCopyOf : GoodIn wsX2_becomeCopyOf wsX3_becomeCopyOf := goodIn_r _ [13, 14, 15, 16, 5, 6, 7, 17, 18, 37, 38, 39, 40] (by decide +kernel) (by decide +kernel)
set_option maxRecDepth 20000 in
theorem gX2_becomeCopyOf_X3_becomeCopyOf : GoodIn wsX2_becomeCopyOf (wsV RX2 40 RX3 yX3_becomeCopyOf wsX3_becomeCopyOf) := goodIn_app (goodIn_of _ (by decide +kernel)) ggX2_becomeCopyOf_X3_becomeCopyOf
set_option maxRecDepth 20000 in
theorem ggX2_becomeCopyOf_X1_becomeCopyOf : GoodIn wsX2_becomeCopyOf wsX1_becomeCopyOf := goodIn_r _ [23, 24, 25, 26, 27, 28, 29, 30, 5, 6, 7, 31, 32, 10, 11, 12, 13, 14, 15, 16, 17, 18, 41, 42, 43, 44, 45, 46, 47, 37, 38, 39, 40] (by decide +kernel) (by decide +kernel)
set_option maxRecDepth 20000 in
theorem gX2_becomeCopyOf_X1_becomeCopyOf : GoodIn wsX2_becomeCopyOf (wsV RX2 44 RX1 yX1_becomeCopyOf wsX1_becomeCopyOf) := goodIn_app (goodIn_of _ (by decide +kernel)) ggX2_becomeCopyOf_X1_becomeCopyOf
theorem dX2_becomeCopyOf_0 : decode cX2_becomeCopyOf 0 = .ok (.aload_n 0, 1) := by decide +kernel
theorem dX2_becomeCopyOf_1 : decode cX2_becomeCopyOf 1 = .ok (.getfield 12, 3) := by decide +kernel
theorem dX2_becomeCopyOf_4 : decode cX2_becomeCopyOf 4 = .ok (.aload_n 1, 1) := by decide +kernel
theorem dX2_becomeCopyOf_5 : decode cX2_becomeCopyOf 5 = .ok (.getfield 12, 3) := by decide +kernel
theorem dX2_becomeCopyOf_8 : decode cX2_becomeCopyOf 8 = .ok (.invokevirtual 40, 3) := by decide +kernel
theorem dX2_becomeCopyOf_11 : decode cX2_becomeCopyOf 11 = .ok (.aload_n 0, 1) := by decide +kernel
theorem dX2_becomeCopyOf_12 : decode cX2_becomeCopyOf 12 = .ok (.getfield 21, 3) := by decide +kernel
theorem dX2_becomeCopyOf_15 : decode cX2_becomeCopyOf 15 = .ok (.aload_n 1, 1) := by decide +kernel
theorem dX2_becomeCopyOf_16 : decode cX2_becomeCopyOf 16 = .ok (.getfield 21, 3) := by decide +kernel
theorem dX2_becomeCopyOf_19 : decode cX2_becomeCopyOf 19 = .ok (.invokevirtual 44, 3) := by decide +kernel
theorem dX2_becomeCopyOf_22 : decode cX2_becomeCopyOf 22 = .ok (.aload_n 1, 1) := by decide +kernel
theorem dX2_becomeCopyOf_23 : decode cX2_becomeCopyOf 23 = .ok (.getfield 34, 3) := by decide +kernel
theorem dX2_becomeCopyOf_26 : decode cX2_becomeCopyOf 26 = .ok (.iconst 0, 1) := by decide +kernel
theorem dX2_becomeCopyOf_27 : decode cX2_becomeCopyOf 27 = .ok (.aload_n 0, 1) := by decide +kernel
theorem dX2_becomeCopyOf_28 : decode cX2_becomeCopyOf 28 = .ok (.getfield 34, 3) := by decide +kernel
theorem dX2_becomeCopyOf_31 : decode cX2_becomeCopyOf 31 = .ok (.iconst 0, 1) := by decide +kernel
theorem dX2_becomeCopyOf_32 : decode cX2_becomeCopyOf 32 = .ok (.iconst 3, 1) := by decide +kernel
theorem dX2_becomeCopyOf_33 : decode cX2_becomeCopyOf 33 = .ok (.invokestatic 47, 3) := by decide +kernel
theorem dX2_becomeCopyOf_36 : decode cX2_becomeCopyOf 36 = .ok (.aload_n 1, 1) := by decide +kernel
theorem dX2_becomeCopyOf_37 : decode cX2_becomeCopyOf 37 = .ok (.getfield 37, 3) := by decide +kernel
theorem dX2_becomeCopyOf_40 : decode cX2_becomeCopyOf 40 = .ok (.iconst 0, 1) := by decide +kernel
theorem dX2_becomeCopyOf_41 : decode cX2_becomeCopyOf 41 = .ok (.aload_n 0, 1) := by decide +kernel
theorem dX2_becomeCopyOf_42 : decode cX2_becomeCopyOf 42 = .ok (.getfield 37, 3) := by decide +kernel
theorem dX2_becomeCopyOf_45 : decode cX2_becomeCopyOf 45 = .ok (.iconst 0, 1) := by decide +kernel
theorem dX2_becomeCopyOf_46 : decode cX2_becomeCopyOf 46 = .ok (.bipush 7, 2) := by decide +kernel
theorem dX2_becomeCopyOf_48 : decode cX2_becomeCopyOf 48 = .ok (.invokestatic 47, 3) := by decide +kernel
theorem dX2_becomeCopyOf_51 : decode cX2_becomeCopyOf 51 = .ok (.return_, 1) := by decide +kernel
theorem dX3_init_0 : decode cX3_init 0 = .ok (.aload_n 0, 1) := by decide +kernel
theorem dX3_init_1 : decode cX3_init 1 = .ok (.invokespecial 3, 3) := by decide +kernel
theorem dX3_init_4 : decode cX3_init 4 = .ok (.aload_n 0, 1) := by decide +kernel
theorem dX3_init_5 : decode cX3_init 5 = .ok (.bipush 120, 2) := by decide +kernel
theorem dX3_init_7 : decode cX3_init 7 = .ok (.newarray .int, 2) := by decide +kernel
theorem dX3_init_9 : decode cX3_init 9 = .ok (.putfield 9, 3) := by decide +kernel
theorem dX3_init_12 : decode cX3_init 12 = .ok (.aload_n 0, 1) := by decide +kernel
theorem dX3_init_13 : decode cX3_init 13 = .ok (.bipush 120, 2) := by decide +kernel
theorem dX3_init_15 : decode cX3_init 15 = .ok (.newarray .int, 2) := by decide +kernel
theorem dX3_init_17 : decode cX3_init 17 = .ok (.putfield 15, 3) := by decide +kernel
theorem dX3_init_20 : decode cX3_init 20 = .ok (.aload_n 0, 1) := by decide +kernel
theorem dX3_init_21 : decode cX3_init 21 = .ok (.bipush 120, 2) := by decide +kernel
theorem dX3_init_23 : decode cX3_init 23 = .ok (.newarray .boolean, 2) := by decide +kernel
theorem dX3_init_25 : decode cX3_init 25 = .ok (.putfield 18, 3) := by decide +kernel
theorem dX3_init_28 : decode cX3_init 28 = .ok (.return_, 1) := by decide +kernel
theorem dX3_becomeCopyOf_0 : decode cX3_becomeCopyOf 0 = .ok (.aload_n 0, 1) := by decide +kernel
theorem dX3_becomeCopyOf_1 : decode cX3_becomeCopyOf 1 = .ok (.aload_n 1, 1) := by decide +kernel
theorem dX3_becomeCopyOf_2 : decode cX3_becomeCopyOf 2 = .ok (.getfield 22, 3) := by decide +kernel
theorem dX3_becomeCopyOf_5 : decode cX3_becomeCopyOf 5 = .ok (.putfield 22, 3) := by decide +kernel
theorem dX3_becomeCopyOf_8 : decode cX3_becomeCopyOf 8 = .ok (.aload_n 1, 1) := by decide +kernel
theorem dX3_becomeCopyOf_9 : decode cX3_becomeCopyOf 9 = .ok (.getfield 9, 3) := by decide +kernel
theorem dX3_becomeCopyOf_12 : decode cX3_becomeCopyOf 12 = .ok (.iconst 0, 1) := by decide +kernel
theorem dX3_becomeCopyOf_13 : decode cX3_becomeCopyOf 13 = .ok (.aload_n 0, 1) := by decide +kernel
theorem dX3_becomeCopyOf_14 : decode cX3_becomeCopyOf 14 = .ok (.getfield 9, 3) := by decide +kernel
theorem dX3_becomeCopyOf_17 : decode cX3_becomeCopyOf 17 = .ok (.iconst 0, 1) := by decide +kernel
theorem dX3_becomeCopyOf_18 : decode cX3_becomeCopyOf 18 = .ok (.aload_n 0, 1) := by decide +kernel
theorem dX3_becomeCopyOf_19 : decode cX3_becomeCopyOf 19 = .ok (.getfield 22, 3) := by decide +kernel
theorem dX3_becomeCopyOf_22 : decode cX3_becomeCopyOf 22 = .ok (.invokestatic 26, 3) := by decide +kernel
theorem dX3_becomeCopyOf_25 : decode cX3_becomeCopyOf 25 = .ok (.aload_n 1, 1) := by decide +kernel
theorem dX3_becomeCopyOf_26 : decode cX3_becomeCopyOf 26 = .ok (.getfield 15, 3) := by decide +kernel
theorem dX3_becomeCopyOf_29 : decode cX3_becomeCopyOf 29 = .ok (.iconst 0, 1) := by decide +kernel
theorem dX3_becomeCopyOf_30 : decode cX3_becomeCopyOf 30 = .ok (.aload_n 0, 1) := by decide +kernel
theorem dX3_becomeCopyOf_31 : decode cX3_becomeCopyOf 31 = .ok (.getfield 15, 3) := by decide +kernel
theorem dX3_becomeCopyOf_34 : decode cX3_becomeCopyOf 34 = .ok (.iconst 0, 1) := by decide +kernel
theorem dX3_becomeCopyOf_35 : decode cX3_becomeCopyOf 35 = .ok (.aload_n 0, 1) := by decide +kernel
theorem dX3_becomeCopyOf_36 : decode cX3_becomeCopyOf 36 = .ok (.getfield 22, 3) := by decide +kernel
theorem dX3_becomeCopyOf_39 : decode cX3_becomeCopyOf 39 = .ok (.invokestatic 26, 3) := by decide +kernel
theorem dX3_becomeCopyOf_42 : decode cX3_becomeCopyOf 42 = .ok (.aload_n 1, 1) := by decide +kernel
theorem dX3_becomeCopyOf_43 : decode cX3_becomeCopyOf 43 = .ok (.getfield 18, 3) := by decide +kernel
theorem dX3_becomeCopyOf_46 : decode cX3_becomeCopyOf 46 = .ok (.iconst 0, 1) := by decide +kernel
theorem dX3_becomeCopyOf_47 : decode cX3_becomeCopyOf 47 = .ok (.aload_n 0, 1) := by decide +kernel
theorem dX3_becomeCopyOf_48 : decode cX3_becomeCopyOf 48 = .ok (.getfield 18, 3) := by decide +kernel
theorem dX3_becomeCopyOf_51 : decode cX3_becomeCopyOf 51 = .ok (.iconst 0, 1) := by decide +kernel
theorem dX3_becomeCopyOf_52 : decode cX3_becomeCopyOf 52 = .ok (.aload_n 0, 1) := by decide +kernel
theorem dX3_becomeCopyOf_53 : decode cX3_becomeCopyOf 53 = .ok (.getfield 22, 3) := by decide +kernel
theorem dX3_becomeCopyOf_56 : decode cX3_becomeCopyOf 56 = .ok (.invokestatic 26, 3) := by decide +kernel
theorem dX3_becomeCopyOf_59 : decode cX3_becomeCopyOf 59 = .ok (.return_, 1) := by decide +kernel
theorem dX3_lastVisited_0 : decode cX3_lastVisited 0 = .ok (.iconst (-1), 1) := by decide +kernel
theorem dX3_lastVisited_1 : decode cX3_lastVisited 1 = .ok (.istore_n 2, 1) := by decide +kernel
theorem dX3_lastVisited_2 : decode cX3_lastVisited 2 = .ok (.sipush 500, 3) := by decide +kernel
theorem dX3_lastVisited_5 : decode cX3_lastVisited 5 = .ok (.istore_n 3, 1) := by decide +kernel
theorem dX3_lastVisited_6 : decode cX3_lastVisited 6 = .ok (.iconst (-1), 1) := by decide +kernel
theorem dX3_lastVisited_7 : decode cX3_lastVisited 7 = .ok (.istore 4, 2) := by decide +kernel
theorem dX3_lastVisited_9 : decode cX3_lastVisited 9 = .ok (.iconst 0, 1) := by decide +kernel
theorem dX3_lastVisited_10 : decode cX3_lastVisited 10 = .ok (.istore 5, 2) := by decide +kernel
theorem dX3_lastVisited_12 : decode cX3_lastVisited 12 = .ok (.iload 5, 2) := by decide +kernel
theorem dX3_lastVisited_14 : decode cX3_lastVisited 14 = .ok (.aload_n 0, 1) := by decide +kernel
theorem dX3_lastVisited_15 : decode cX3_lastVisited 15 = .ok (.getfield 22, 3) := by decide +kernel
theorem dX3_lastVisited_18 : decode cX3_lastVisited 18 = .ok (.if_icmp .ge 58, 3) := by decide +kernel
theorem dX3_lastVisited_21 : decode cX3_lastVisited 21 = .ok (.aload_n 0, 1) := by decide +kernel
theorem dX3_lastVisited_22 : decode cX3_lastVisited 22 = .ok (.getfield 9, 3) := by decide +kernel
theorem dX3_lastVisited_25 : decode cX3_lastVisited 25 = .ok (.iload 5, 2) := by decide +kernel
theorem dX3_lastVisited_27 : decode cX3_lastVisited 27 = .ok (.iaload, 1) := by decide +kernel
theorem dX3_lastVisited_28 : decode cX3_lastVisited 28 = .ok (.istore 6, 2) := by decide +kernel
theorem dX3_lastVisited_30 : decode cX3_lastVisited 30 = .ok (.iload 6, 2) := by decide +kernel
theorem dX3_lastVisited_32 : decode cX3_lastVisited 32 = .ok (.iload_n 2, 1) := by decide +kernel
theorem dX3_lastVisited_33 : decode cX3_lastVisited 33 = .ok (.if_icmp .le 37, 3) := by decide +kernel
theorem dX3_lastVisited_36 : decode cX3_lastVisited 36 = .ok (.iload 6, 2) := by decide +kernel
theorem dX3_lastVisited_38 : decode cX3_lastVisited 38 = .ok (.iload_n 3, 1) := by decide +kernel
theorem dX3_lastVisited_39 : decode cX3_lastVisited 39 = .ok (.if_icmp .ge 31, 3) := by decide +kernel
theorem dX3_lastVisited_42 : decode cX3_lastVisited 42 = .ok (.iload 5, 2) := by decide +kernel
theorem dX3_lastVisited_44 : decode cX3_lastVisited 44 = .ok (.istore 4, 2) := by decide +kernel
theorem dX3_lastVisited_46 : decode cX3_lastVisited 46 = .ok (.iload 6, 2) := by decide +kernel
theorem dX3_lastVisited_48 : decode cX3_lastVisited 48 = .ok (.iload_n 1, 1) := by decide +kernel
theorem dX3_lastVisited_49 : decode cX3_lastVisited 49 = .ok (.if_icmp .ne 6, 3) := by decide +kernel
theorem dX3_lastVisited_52 : decode cX3_lastVisited 52 = .ok (.iload 5, 2) := by decide +kernel
theorem dX3_lastVisited_54 : decode cX3_lastVisited 54 = .ok (.ireturn, 1) := by decide +kernel
theorem dX3_lastVisited_55 : decode cX3_lastVisited 55 = .ok (.iload_n 1, 1) := by decide +kernel
theorem dX3_lastVisited_56 : decode cX3_lastVisited 56 = .ok (.iload 6, 2) := by decide +kernel
theorem dX3_lastVisited_58 : decode cX3_lastVisited 58 = .ok (.if_icmp .ge 9, 3) := by decide +kernel
theorem dX3_lastVisited_61 : decode cX3_lastVisited 61 = .ok (.iload 6, 2) := by decide +kernel
theorem dX3_lastVisited_63 : decode cX3_lastVisited 63 = .ok (.istore_n 3, 1) := by decide +kernel
theorem dX3_lastVisited_64 : decode cX3_lastVisited 64 = .ok (.goto 6, 3) := by decide +kernel
theorem dX3_lastVisited_67 : decode cX3_lastVisited 67 = .ok (.iload 6, 2) := by decide +kernel
theorem dX3_lastVisited_69 : decode cX3_lastVisited 69 = .ok (.istore_n 2, 1) := by decide +kernel
theorem dX3_lastVisited_70 : decode cX3_lastVisited 70 = .ok (.iinc 5 1, 3) := by decide +kernel
theorem dX3_lastVisited_73 : decode cX3_lastVisited 73 = .ok (.goto (-61), 3) := by decide +kernel
theorem dX3_lastVisited_76 : decode cX3_lastVisited 76 = .ok (.iload 4, 2) := by decide +kernel
theorem dX3_lastVisited_78 : decode cX3_lastVisited 78 = .ok (.ireturn, 1) := by decide +kernel
set_option maxRecDepth 20000 in
theorem ggX3_nodeWith_X3_lastVisited : GoodIn wsX3_nodeWith wsX3_lastVisited := goodIn_r _ [6, 7, 1, 8, 9, 10, 11] (by decide +kernel) (by decide +kernel)
set_option maxRecDepth 20000 in
theorem gX3_nodeWith_X3_lastVisited : GoodIn wsX3_nodeWith (wsV RX3 32 RX3 yX3_lastVisited wsX3_lastVisited) := goodIn_app (goodIn_of _ (by decide +kernel)) ggX3_nodeWith_X3_lastVisited
theorem dX3_nodeWith_0 : decode cX3_nodeWith 0 = .ok (.aload_n 0, 1) := by decide +kernel
theorem dX3_nodeWith_1 : decode cX3_nodeWith 1 = .ok (.iload_n 1, 1) := by decide +kernel
theorem dX3_nodeWith_2 : decode cX3_nodeWith 2 = .ok (.invokevirtual 32, 3) := by decide +kernel
theorem dX3_nodeWith_5 : decode cX3_nodeWith 5 = .ok (.istore_n 2, 1) := by decide +kernel
theorem dX3_nodeWith_6 : decode cX3_nodeWith 6 = .ok (.iload_n 2, 1) := by decide +kernel
theorem dX3_nodeWith_7 : decode cX3_nodeWith 7 = .ok (.iconst (-1), 1) := by decide +kernel
theorem dX3_nodeWith_8 : decode cX3_nodeWith 8 = .ok (.if_icmp .eq 17, 3) := by decide +kernel
theorem dX3_nodeWith_11 : decode cX3_nodeWith 11 = .ok (.aload_n 0, 1) := by decide +kernel
theorem dX3_nodeWith_12 : decode cX3_nodeWith 12 = .ok (.getfield 9, 3) := by decide +kernel
theorem dX3_nodeWith_15 : decode cX3_nodeWith 15 = .ok (.iload_n 2, 1) := by decide +kernel
theorem dX3_nodeWith_16 : decode cX3_nodeWith 16 = .ok (.iaload, 1) := by decide +kernel
theorem dX3_nodeWith_17 : decode cX3_nodeWith 17 = .ok (.iload_n 1, 1) := by decide +kernel
theorem dX3_nodeWith_18 : decode cX3_nodeWith 18 = .ok (.if_icmp .ne 7, 3) := by decide +kernel
theorem dX3_nodeWith_21 : decode cX3_nodeWith 21 = .ok (.iload_n 2, 1) := by decide +kernel
theorem dX3_nodeWith_22 : decode cX3_nodeWith 22 = .ok (.goto 4, 3) := by decide +kernel
theorem dX3_nodeWith_25 : decode cX3_nodeWith 25 = .ok (.iconst (-1), 1) := by decide +kernel
theorem dX3_nodeWith_26 : decode cX3_nodeWith 26 = .ok (.ireturn, 1) := by decide +kernel
set_option maxRecDepth 20000 in
theorem ggX3_hasNode_X3_nodeWith : GoodIn wsX3_hasNode wsX3_nodeWith := goodIn_r _ [5, 6, 7, 8, 9, 4, 10, 11, 12, 13, 14, 15] (by decide +kernel) (by decide +kernel)
set_option maxRecDepth 20000 in
theorem gX3_hasNode_X3_nodeWith : GoodIn wsX3_hasNode (wsV RX3 36 RX3 yX3_nodeWith wsX3_nodeWith) := goodIn_app (goodIn_of _ (by decide +kernel)) ggX3_hasNode_X3_nodeWith
theorem dX3_hasNode_0 : decode cX3_hasNode 0 = .ok (.aload_n 0, 1) := by decide +kernel
theorem dX3_hasNode_1 : decode cX3_hasNode 1 = .ok (.iload_n 1, 1) := by decide +kernel
theorem dX3_hasNode_2 : decode cX3_hasNode 2 = .ok (.invokevirtual 36, 3) := by decide +kernel
theorem dX3_hasNode_5 : decode cX3_hasNode 5 = .ok (.iconst (-1), 1) := by decide +kernel
theorem dX3_hasNode_6 : decode cX3_hasNode 6 = .ok (.if_icmp .eq 7, 3) := by decide +kernel
theorem dX3_hasNode_9 : decode cX3_hasNode 9 = .ok (.iconst 1, 1) := by decide +kernel
theorem dX3_hasNode_10 : decode cX3_hasNode 10 = .ok (.goto 4, 3) := by decide +kernel
theorem dX3_hasNode_13 : decode cX3_hasNode 13 = .ok (.iconst 0, 1) := by decide +kernel
theorem dX3_hasNode_14 : decode cX3_hasNode 14 = .ok (.ireturn, 1) := by decide +kernel
set_option maxRecDepth 20000 in
theorem ggX3_hasPresent_X3_nodeWith : GoodIn wsX3_hasPresent wsX3_nodeWith := goodIn_r _ [6, 7, 8, 9, 10, 5, 11, 12, 13, 14, 15, 16] (by decide +kernel) (by decide +kernel)
set_option maxRecDepth 20000 in
theorem gX3_hasPresent_X3_nodeWith : GoodIn wsX3_hasPresent (wsV RX3 36 RX3 yX3_nodeWith wsX3_nodeWith) := goodIn_app (goodIn_of _ (by decide +kernel)) ggX3_hasPresent_X3_nodeWith
theorem dX3_hasPresent_0 : decode cX3_hasPresent 0 = .ok (.aload_n 0, 1) := by decide +kernel
theorem dX3_hasPresent_1 : decode cX3_hasPresent 1 = .ok (.iload_n 1, 1) := by decide +kernel
theorem dX3_hasPresent_2 : decode cX3_hasPresent 2 = .ok (.invokevirtual 36, 3) := by decide +kernel
theorem dX3_hasPresent_5 : decode cX3_hasPresent 5 = .ok (.istore_n 2, 1) := by decide +kernel
theorem dX3_hasPresent_6 : decode cX3_hasPresent 6 = .ok (.iload_n 2, 1) := by decide +kernel
theorem dX3_hasPresent_7 : decode cX3_hasPresent 7 = .ok (.iconst (-1), 1) := by decide +kernel
theorem dX3_hasPresent_8 : decode cX3_hasPresent 8 = .ok (.if_icmp .eq 16, 3) := by decide +kernel
theorem dX3_hasPresent_11 : decode cX3_hasPresent 11 = .ok (.aload_n 0, 1) := by decide +kernel
theorem dX3_hasPresent_12 : decode cX3_hasPresent 12 = .ok (.getfield 18, 3) := by decide +kernel
theorem dX3_hasPresent_15 : decode cX3_hasPresent 15 = .ok (.iload_n 2, 1) := by decide +kernel
theorem dX3_hasPresent_16 : decode cX3_hasPresent 16 = .ok (.baload, 1) := by decide +kernel
theorem dX3_hasPresent_17 : decode cX3_hasPresent 17 = .ok (.ifCond .ne 7, 3) := by decide +kernel
theorem dX3_hasPresent_20 : decode cX3_hasPresent 20 = .ok (.iconst 1, 1) := by decide +kernel
theorem dX3_hasPresent_21 : decode cX3_hasPresent 21 = .ok (.goto 4, 3) := by decide +kernel
theorem dX3_hasPresent_24 : decode cX3_hasPresent 24 = .ok (.iconst 0, 1) := by decide +kernel
theorem dX3_hasPresent_25 : decode cX3_hasPresent 25 = .ok (.ireturn, 1) := by decide +kernel
set_option maxRecDepth 20000 in
theorem ggX3_visitsFor_X3_lastVisited : GoodIn wsX3_visitsFor wsX3_lastVisited := goodIn_r _ [6, 7, 8, 9, 10, 11, 12] (by decide +kernel) (by decide +kernel)
set_option maxRecDepth 20000 in
theorem gX3_visitsFor_X3_lastVisited : GoodIn wsX3_visitsFor (wsV RX3 32 RX3 yX3_lastVisited wsX3_lastVisited) := goodIn_app (goodIn_of _ (by decide +kernel)) ggX3_visitsFor_X3_lastVisited
theorem dX3_visitsFor_0 : decode cX3_visitsFor 0 = .ok (.aload_n 0, 1) := by decide +kernel
theorem dX3_visitsFor_1 : decode cX3_visitsFor 1 = .ok (.iload_n 1, 1) := by decide +kernel
theorem dX3_visitsFor_2 : decode cX3_visitsFor 2 = .ok (.sipush 500, 3) := by decide +kernel
theorem dX3_visitsFor_5 : decode cX3_visitsFor 5 = .ok (.irem, 1) := by decide +kernel
theorem dX3_visitsFor_6 : decode cX3_visitsFor 6 = .ok (.invokevirtual 32, 3) := by decide +kernel
theorem dX3_visitsFor_9 : decode cX3_visitsFor 9 = .ok (.istore_n 2, 1) := by decide +kernel
theorem dX3_visitsFor_10 : decode cX3_visitsFor 10 = .ok (.iload_n 2, 1) := by decide +kernel
theorem dX3_visitsFor_11 : decode cX3_visitsFor 11 = .ok (.iconst (-1), 1) := by decide +kernel
theorem dX3_visitsFor_12 : decode cX3_visitsFor 12 = .ok (.if_icmp .ne 7, 3) := by decide +kernel
theorem dX3_visitsFor_15 : decode cX3_visitsFor 15 = .ok (.iconst 0, 1) := by decide +kernel
theorem dX3_visitsFor_16 : decode cX3_visitsFor 16 = .ok (.goto 9, 3) := by decide +kernel
theorem dX3_visitsFor_19 : decode cX3_visitsFor 19 = .ok (.aload_n 0, 1) := by decide +kernel
theorem dX3_visitsFor_20 : decode cX3_visitsFor 20 = .ok (.getfield 15, 3) := by decide +kernel
theorem dX3_visitsFor_23 : decode cX3_visitsFor 23 = .ok (.iload_n 2, 1) := by decide +kernel
theorem dX3_visitsFor_24 : decode cX3_visitsFor 24 = .ok (.iaload, 1) := by decide +kernel
theorem dX3_visitsFor_25 : decode cX3_visitsFor 25 = .ok (.ireturn, 1) := by decide +kernel
set_option maxRecDepth 20000 in
theorem ggX3_visitedKey_X3_lastVisited : GoodIn wsX3_visitedKey wsX3_lastVisited := goodIn_r _ [7, 8, 2, 9, 10, 11, 12] (by decide +kernel) (by decide +kernel)
set_option maxRecDepth 20000 in
theorem gX3_visitedKey_X3_lastVisited : GoodIn wsX3_visitedKey (wsV RX3 32 RX3 yX3_lastVisited wsX3_lastVisited) := goodIn_app (goodIn_of _ (by decide +kernel)) ggX3_visitedKey_X3_lastVisited
theorem dX3_visitedKey_0 : decode cX3_visitedKey 0 = .ok (.aload_n 0, 1) := by decide +kernel
theorem dX3_visitedKey_1 : decode cX3_visitedKey 1 = .ok (.iload_n 1, 1) := by decide +kernel
theorem dX3_visitedKey_2 : decode cX3_visitedKey 2 = .ok (.invokevirtual 32, 3) := by decide +kernel
theorem dX3_visitedKey_5 : decode cX3_visitedKey 5 = .ok (.istore_n 3, 1) := by decide +kernel
theorem dX3_visitedKey_6 : decode cX3_visitedKey 6 = .ok (.iload_n 3, 1) := by decide +kernel
theorem dX3_visitedKey_7 : decode cX3_visitedKey 7 = .ok (.iconst (-1), 1) := by decide +kernel
theorem dX3_visitedKey_8 : decode cX3_visitedKey 8 = .ok (.if_icmp .eq 13, 3) := by decide +kernel
theorem dX3_visitedKey_11 : decode cX3_visitedKey 11 = .ok (.iload_n 2, 1) := by decide +kernel
theorem dX3_visitedKey_12 : decode cX3_visitedKey 12 = .ok (.aload_n 0, 1) := by decide +kernel
theorem dX3_visitedKey_13 : decode cX3_visitedKey 13 = .ok (.getfield 15, 3) := by decide +kernel
theorem dX3_visitedKey_16 : decode cX3_visitedKey 16 = .ok (.iload_n 3, 1) := by decide +kernel
theorem dX3_visitedKey_17 : decode cX3_visitedKey 17 = .ok (.iaload, 1) := by decide +kernel
theorem dX3_visitedKey_18 : decode cX3_visitedKey 18 = .ok (.if_icmp .lt 5, 3) := by decide +kernel
theorem dX3_visitedKey_21 : decode cX3_visitedKey 21 = .ok (.iconst (-1), 1) := by decide +kernel
theorem dX3_visitedKey_22 : decode cX3_visitedKey 22 = .ok (.ireturn, 1) := by decide +kernel
theorem dX3_visitedKey_23 : decode cX3_visitedKey 23 = .ok (.iload_n 3, 1) := by decide +kernel
theorem dX3_visitedKey_24 : decode cX3_visitedKey 24 = .ok (.istore 4, 2) := by decide +kernel
theorem dX3_visitedKey_26 : decode cX3_visitedKey 26 = .ok (.iload 4, 2) := by decide +kernel
theorem dX3_visitedKey_28 : decode cX3_visitedKey 28 = .ok (.ifCond .lt 30, 3) := by decide +kernel
theorem dX3_visitedKey_31 : decode cX3_visitedKey 31 = .ok (.aload_n 0, 1) := by decide +kernel
theorem dX3_visitedKey_32 : decode cX3_visitedKey 32 = .ok (.getfield 15, 3) := by decide +kernel
theorem dX3_visitedKey_35 : decode cX3_visitedKey 35 = .ok (.iload 4, 2) := by decide +kernel
theorem dX3_visitedKey_37 : decode cX3_visitedKey 37 = .ok (.iaload, 1) := by decide +kernel
theorem dX3_visitedKey_38 : decode cX3_visitedKey 38 = .ok (.iload_n 2, 1) := by decide +kernel
theorem dX3_visitedKey_39 : decode cX3_visitedKey 39 = .ok (.iconst 1, 1) := by decide +kernel
theorem dX3_visitedKey_40 : decode cX3_visitedKey 40 = .ok (.iadd, 1) := by decide +kernel
theorem dX3_visitedKey_41 : decode cX3_visitedKey 41 = .ok (.if_icmp .ne 11, 3) := by decide +kernel
theorem dX3_visitedKey_44 : decode cX3_visitedKey 44 = .ok (.aload_n 0, 1) := by decide +kernel
theorem dX3_visitedKey_45 : decode cX3_visitedKey 45 = .ok (.getfield 9, 3) := by decide +kernel
theorem dX3_visitedKey_48 : decode cX3_visitedKey 48 = .ok (.iload 4, 2) := by decide +kernel
theorem dX3_visitedKey_50 : decode cX3_visitedKey 50 = .ok (.iaload, 1) := by decide +kernel
theorem dX3_visitedKey_51 : decode cX3_visitedKey 51 = .ok (.ireturn, 1) := by decide +kernel
theorem dX3_visitedKey_52 : decode cX3_visitedKey 52 = .ok (.iinc 4 (-1), 3) := by decide +kernel
theorem dX3_visitedKey_55 : decode cX3_visitedKey 55 = .ok (.goto (-29), 3) := by decide +kernel
theorem dX3_visitedKey_58 : decode cX3_visitedKey 58 = .ok (.iconst (-1), 1) := by decide +kernel
theorem dX3_visitedKey_59 : decode cX3_visitedKey 59 = .ok (.ireturn, 1) := by decide +kernel
set_option maxRecDepth 20000 in
theorem ggX3_changeBy_X3_lastVisited : GoodIn wsX3_changeBy wsX3_lastVisited := goodIn_r _ [7, 8, 1, 22, 23, 24, 25] (by decide +kernel) (by decide +kernel)
set_option maxRecDepth 20000 in
theorem gX3_changeBy_X3_lastVisited : GoodIn wsX3_changeBy (wsV RX3 32 RX3 yX3_lastVisited wsX3_lastVisited) := goodIn_app (goodIn_of _ (by decide +kernel)) ggX3_changeBy_X3_lastVisited
set_option maxRecDepth 20000 in
theorem ggX3_changeBy_X3_grow : GoodIn wsX3_changeBy wsX3_grow := goodIn_r _ [12, 8, 1, 13, 14, 15, 16, 17, 2, 18, 19, 20, 6, 21, 22, 23, 24, 25] (by decide +kernel) (by decide +kernel)
set_option maxRecDepth 20000 in
theorem gX3_changeBy_X3_grow : GoodIn wsX3_changeBy (wsV RX3 39 RX3 yX3_grow wsX3_grow) := goodIn_app (goodIn_of _ (by decide +kernel)) ggX3_changeBy_X3_grow
theorem dX3_changeBy_0 : decode cX3_changeBy 0 = .ok (.iload_n 1, 1) := by decide +kernel
theorem dX3_changeBy_1 : decode cX3_changeBy 1 = .ok (.sipush 500, 3) := by decide +kernel
theorem dX3_changeBy_4 : decode cX3_changeBy 4 = .ok (.if_icmp .lt 7, 3) := by decide +kernel
theorem dX3_changeBy_7 : decode cX3_changeBy 7 = .ok (.iconst 1, 1) := by decide +kernel
theorem dX3_changeBy_8 : decode cX3_changeBy 8 = .ok (.goto 4, 3) := by decide +kernel
theorem dX3_changeBy_11 : decode cX3_changeBy 11 = .ok (.iconst 0, 1) := by decide +kernel
theorem dX3_changeBy_12 : decode cX3_changeBy 12 = .ok (.istore_n 2, 1) := by decide +kernel
theorem dX3_changeBy_13 : decode cX3_changeBy 13 = .ok (.iload_n 1, 1) := by decide +kernel
theorem dX3_changeBy_14 : decode cX3_changeBy 14 = .ok (.sipush 500, 3) := by decide +kernel
theorem dX3_changeBy_17 : decode cX3_changeBy 17 = .ok (.irem, 1) := by decide +kernel
theorem dX3_changeBy_18 : decode cX3_changeBy 18 = .ok (.istore_n 3, 1) := by decide +kernel
theorem dX3_changeBy_19 : decode cX3_changeBy 19 = .ok (.aload_n 0, 1) := by decide +kernel
theorem dX3_changeBy_20 : decode cX3_changeBy 20 = .ok (.iload_n 3, 1) := by decide +kernel
theorem dX3_changeBy_21 : decode cX3_changeBy 21 = .ok (.invokevirtual 32, 3) := by decide +kernel
theorem dX3_changeBy_24 : decode cX3_changeBy 24 = .ok (.istore 4, 2) := by decide +kernel
theorem dX3_changeBy_26 : decode cX3_changeBy 26 = .ok (.iload 4, 2) := by decide +kernel
theorem dX3_changeBy_28 : decode cX3_changeBy 28 = .ok (.iconst (-1), 1) := by decide +kernel
theorem dX3_changeBy_29 : decode cX3_changeBy 29 = .ok (.if_icmp .eq 14, 3) := by decide +kernel
theorem dX3_changeBy_32 : decode cX3_changeBy 32 = .ok (.aload_n 0, 1) := by decide +kernel
theorem dX3_changeBy_33 : decode cX3_changeBy 33 = .ok (.getfield 9, 3) := by decide +kernel
theorem dX3_changeBy_36 : decode cX3_changeBy 36 = .ok (.iload 4, 2) := by decide +kernel
theorem dX3_changeBy_38 : decode cX3_changeBy 38 = .ok (.iaload, 1) := by decide +kernel
theorem dX3_changeBy_39 : decode cX3_changeBy 39 = .ok (.iload_n 3, 1) := by decide +kernel
theorem dX3_changeBy_40 : decode cX3_changeBy 40 = .ok (.if_icmp .eq 23, 3) := by decide +kernel
theorem dX3_changeBy_43 : decode cX3_changeBy 43 = .ok (.iload_n 2, 1) := by decide +kernel
theorem dX3_changeBy_44 : decode cX3_changeBy 44 = .ok (.ifCond .ne 17, 3) := by decide +kernel
theorem dX3_changeBy_47 : decode cX3_changeBy 47 = .ok (.aload_n 0, 1) := by decide +kernel
theorem dX3_changeBy_48 : decode cX3_changeBy 48 = .ok (.iload 4, 2) := by decide +kernel
theorem dX3_changeBy_50 : decode cX3_changeBy 50 = .ok (.iload_n 3, 1) := by decide +kernel
theorem dX3_changeBy_51 : decode cX3_changeBy 51 = .ok (.invokevirtual 39, 3) := by decide +kernel
theorem dX3_changeBy_54 : decode cX3_changeBy 54 = .ok (.ifCond .eq 7, 3) := by decide +kernel
theorem dX3_changeBy_57 : decode cX3_changeBy 57 = .ok (.iconst 1, 1) := by decide +kernel
theorem dX3_changeBy_58 : decode cX3_changeBy 58 = .ok (.goto 4, 3) := by decide +kernel
theorem dX3_changeBy_61 : decode cX3_changeBy 61 = .ok (.iconst 0, 1) := by decide +kernel
theorem dX3_changeBy_62 : decode cX3_changeBy 62 = .ok (.ireturn, 1) := by decide +kernel
theorem dX3_changeBy_63 : decode cX3_changeBy 63 = .ok (.aload_n 0, 1) := by decide +kernel
theorem dX3_changeBy_64 : decode cX3_changeBy 64 = .ok (.getfield 18, 3) := by decide +kernel
theorem dX3_changeBy_67 : decode cX3_changeBy 67 = .ok (.iload 4, 2) := by decide +kernel
theorem dX3_changeBy_69 : decode cX3_changeBy 69 = .ok (.baload, 1) := by decide +kernel
theorem dX3_changeBy_70 : decode cX3_changeBy 70 = .ok (.iload_n 2, 1) := by decide +kernel
theorem dX3_changeBy_71 : decode cX3_changeBy 71 = .ok (.if_icmp .eq 7, 3) := by decide +kernel
theorem dX3_changeBy_74 : decode cX3_changeBy 74 = .ok (.iconst 1, 1) := by decide +kernel
theorem dX3_changeBy_75 : decode cX3_changeBy 75 = .ok (.goto 4, 3) := by decide +kernel
theorem dX3_changeBy_78 : decode cX3_changeBy 78 = .ok (.iconst 0, 1) := by decide +kernel
theorem dX3_changeBy_79 : decode cX3_changeBy 79 = .ok (.istore 5, 2) := by decide +kernel
theorem dX3_changeBy_81 : decode cX3_changeBy 81 = .ok (.aload_n 0, 1) := by decide +kernel
theorem dX3_changeBy_82 : decode cX3_changeBy 82 = .ok (.getfield 18, 3) := by decide +kernel
theorem dX3_changeBy_85 : decode cX3_changeBy 85 = .ok (.iload 4, 2) := by decide +kernel
theorem dX3_changeBy_87 : decode cX3_changeBy 87 = .ok (.iload_n 2, 1) := by decide +kernel
theorem dX3_changeBy_88 : decode cX3_changeBy 88 = .ok (.bastore, 1) := by decide +kernel
theorem dX3_changeBy_89 : decode cX3_changeBy 89 = .ok (.iload 5, 2) := by decide +kernel
theorem dX3_changeBy_91 : decode cX3_changeBy 91 = .ok (.ireturn, 1) := by decide +kernel
set_option maxRecDepth 20000 in
theorem ggX3_grow_X3_subtreeEnd : GoodIn wsX3_grow wsX3_subtreeEnd := goodIn_r _ [13, 1, 3, 14, 15, 16, 17] (by decide +kernel) (by decide +kernel)
set_option maxRecDepth 20000 in
theorem gX3_grow_X3_subtreeEnd : GoodIn wsX3_grow (wsV RX3 43 RX3 yX3_subtreeEnd wsX3_subtreeEnd) := goodIn_app (goodIn_of _ (by decide +kernel)) ggX3_grow_X3_subtreeEnd
theorem dX3_grow_0 : decode cX3_grow 0 = .ok (.aload_n 0, 1) := by decide +kernel
theorem dX3_grow_1 : decode cX3_grow 1 = .ok (.getfield 22, 3) := by decide +kernel
theorem dX3_grow_4 : decode cX3_grow 4 = .ok (.bipush 120, 2) := by decide +kernel
theorem dX3_grow_6 : decode cX3_grow 6 = .ok (.if_icmp .lt 5, 3) := by decide +kernel
theorem dX3_grow_9 : decode cX3_grow 9 = .ok (.iconst 0, 1) := by decide +kernel
theorem dX3_grow_10 : decode cX3_grow 10 = .ok (.ireturn, 1) := by decide +kernel
theorem dX3_grow_11 : decode cX3_grow 11 = .ok (.iconst 0, 1) := by decide +kernel
theorem dX3_grow_12 : decode cX3_grow 12 = .ok (.istore_n 3, 1) := by decide +kernel
theorem dX3_grow_13 : decode cX3_grow 13 = .ok (.iconst 1, 1) := by decide +kernel
theorem dX3_grow_14 : decode cX3_grow 14 = .ok (.istore 4, 2) := by decide +kernel
theorem dX3_grow_16 : decode cX3_grow 16 = .ok (.iload_n 1, 1) := by decide +kernel
theorem dX3_grow_17 : decode cX3_grow 17 = .ok (.iconst (-1), 1) := by decide +kernel
theorem dX3_grow_18 : decode cX3_grow 18 = .ok (.if_icmp .eq 35, 3) := by decide +kernel
theorem dX3_grow_21 : decode cX3_grow 21 = .ok (.iload_n 2, 1) := by decide +kernel
theorem dX3_grow_22 : decode cX3_grow 22 = .ok (.aload_n 0, 1) := by decide +kernel
theorem dX3_grow_23 : decode cX3_grow 23 = .ok (.getfield 9, 3) := by decide +kernel
theorem dX3_grow_26 : decode cX3_grow 26 = .ok (.iload_n 1, 1) := by decide +kernel
theorem dX3_grow_27 : decode cX3_grow 27 = .ok (.iaload, 1) := by decide +kernel
theorem dX3_grow_28 : decode cX3_grow 28 = .ok (.if_icmp .ge 9, 3) := by decide +kernel
theorem dX3_grow_31 : decode cX3_grow 31 = .ok (.iload_n 1, 1) := by decide +kernel
theorem dX3_grow_32 : decode cX3_grow 32 = .ok (.iconst 1, 1) := by decide +kernel
theorem dX3_grow_33 : decode cX3_grow 33 = .ok (.iadd, 1) := by decide +kernel
theorem dX3_grow_34 : decode cX3_grow 34 = .ok (.goto 8, 3) := by decide +kernel
theorem dX3_grow_37 : decode cX3_grow 37 = .ok (.aload_n 0, 1) := by decide +kernel
theorem dX3_grow_38 : decode cX3_grow 38 = .ok (.iload_n 1, 1) := by decide +kernel
theorem dX3_grow_39 : decode cX3_grow 39 = .ok (.invokevirtual 43, 3) := by decide +kernel
theorem dX3_grow_42 : decode cX3_grow 42 = .ok (.istore_n 3, 1) := by decide +kernel
theorem dX3_grow_43 : decode cX3_grow 43 = .ok (.aload_n 0, 1) := by decide +kernel
theorem dX3_grow_44 : decode cX3_grow 44 = .ok (.getfield 15, 3) := by decide +kernel
theorem dX3_grow_47 : decode cX3_grow 47 = .ok (.iload_n 1, 1) := by decide +kernel
theorem dX3_grow_48 : decode cX3_grow 48 = .ok (.iaload, 1) := by decide +kernel
theorem dX3_grow_49 : decode cX3_grow 49 = .ok (.iconst 1, 1) := by decide +kernel
theorem dX3_grow_50 : decode cX3_grow 50 = .ok (.iadd, 1) := by decide +kernel
theorem dX3_grow_51 : decode cX3_grow 51 = .ok (.istore 4, 2) := by decide +kernel
theorem dX3_grow_53 : decode cX3_grow 53 = .ok (.aload_n 0, 1) := by decide +kernel
theorem dX3_grow_54 : decode cX3_grow 54 = .ok (.getfield 22, 3) := by decide +kernel
theorem dX3_grow_57 : decode cX3_grow 57 = .ok (.iload_n 3, 1) := by decide +kernel
theorem dX3_grow_58 : decode cX3_grow 58 = .ok (.isub, 1) := by decide +kernel
theorem dX3_grow_59 : decode cX3_grow 59 = .ok (.istore 5, 2) := by decide +kernel
theorem dX3_grow_61 : decode cX3_grow 61 = .ok (.aload_n 0, 1) := by decide +kernel
theorem dX3_grow_62 : decode cX3_grow 62 = .ok (.getfield 9, 3) := by decide +kernel
theorem dX3_grow_65 : decode cX3_grow 65 = .ok (.iload_n 3, 1) := by decide +kernel
theorem dX3_grow_66 : decode cX3_grow 66 = .ok (.aload_n 0, 1) := by decide +kernel
theorem dX3_grow_67 : decode cX3_grow 67 = .ok (.getfield 9, 3) := by decide +kernel
theorem dX3_grow_70 : decode cX3_grow 70 = .ok (.iload_n 3, 1) := by decide +kernel
theorem dX3_grow_71 : decode cX3_grow 71 = .ok (.iconst 1, 1) := by decide +kernel
theorem dX3_grow_72 : decode cX3_grow 72 = .ok (.iadd, 1) := by decide +kernel
theorem dX3_grow_73 : decode cX3_grow 73 = .ok (.iload 5, 2) := by decide +kernel
theorem dX3_grow_75 : decode cX3_grow 75 = .ok (.invokestatic 26, 3) := by decide +kernel
theorem dX3_grow_78 : decode cX3_grow 78 = .ok (.aload_n 0, 1) := by decide +kernel
theorem dX3_grow_79 : decode cX3_grow 79 = .ok (.getfield 15, 3) := by decide +kernel
theorem dX3_grow_82 : decode cX3_grow 82 = .ok (.iload_n 3, 1) := by decide +kernel
theorem dX3_grow_83 : decode cX3_grow 83 = .ok (.aload_n 0, 1) := by decide +kernel
theorem dX3_grow_84 : decode cX3_grow 84 = .ok (.getfield 15, 3) := by decide +kernel
theorem dX3_grow_87 : decode cX3_grow 87 = .ok (.iload_n 3, 1) := by decide +kernel
theorem dX3_grow_88 : decode cX3_grow 88 = .ok (.iconst 1, 1) := by decide +kernel
theorem dX3_grow_89 : decode cX3_grow 89 = .ok (.iadd, 1) := by decide +kernel
theorem dX3_grow_90 : decode cX3_grow 90 = .ok (.iload 5, 2) := by decide +kernel
theorem dX3_grow_92 : decode cX3_grow 92 = .ok (.invokestatic 26, 3) := by decide +kernel
theorem dX3_grow_95 : decode cX3_grow 95 = .ok (.aload_n 0, 1) := by decide +kernel
theorem dX3_grow_96 : decode cX3_grow 96 = .ok (.getfield 18, 3) := by decide +kernel
theorem dX3_grow_99 : decode cX3_grow 99 = .ok (.iload_n 3, 1) := by decide +kernel
theorem dX3_grow_100 : decode cX3_grow 100 = .ok (.aload_n 0, 1) := by decide +kernel
theorem dX3_grow_101 : decode cX3_grow 101 = .ok (.getfield 18, 3) := by decide +kernel
theorem dX3_grow_104 : decode cX3_grow 104 = .ok (.iload_n 3, 1) := by decide +kernel
theorem dX3_grow_105 : decode cX3_grow 105 = .ok (.iconst 1, 1) := by decide +kernel
theorem dX3_grow_106 : decode cX3_grow 106 = .ok (.iadd, 1) := by decide +kernel
theorem dX3_grow_107 : decode cX3_grow 107 = .ok (.iload 5, 2) := by decide +kernel
theorem dX3_grow_109 : decode cX3_grow 109 = .ok (.invokestatic 26, 3) := by decide +kernel
theorem dX3_grow_112 : decode cX3_grow 112 = .ok (.aload_n 0, 1) := by decide +kernel
theorem dX3_grow_113 : decode cX3_grow 113 = .ok (.getfield 9, 3) := by decide +kernel
theorem dX3_grow_116 : decode cX3_grow 116 = .ok (.iload_n 3, 1) := by decide +kernel
theorem dX3_grow_117 : decode cX3_grow 117 = .ok (.iload_n 2, 1) := by decide +kernel
theorem dX3_grow_118 : decode cX3_grow 118 = .ok (.iastore, 1) := by decide +kernel
theorem dX3_grow_119 : decode cX3_grow 119 = .ok (.aload_n 0, 1) := by decide +kernel
theorem dX3_grow_120 : decode cX3_grow 120 = .ok (.getfield 15, 3) := by decide +kernel
theorem dX3_grow_123 : decode cX3_grow 123 = .ok (.iload_n 3, 1) := by decide +kernel
theorem dX3_grow_124 : decode cX3_grow 124 = .ok (.iload 4, 2) := by decide +kernel
theorem dX3_grow_126 : decode cX3_grow 126 = .ok (.iastore, 1) := by decide +kernel
theorem dX3_grow_127 : decode cX3_grow 127 = .ok (.aload_n 0, 1) := by decide +kernel
theorem dX3_grow_128 : decode cX3_grow 128 = .ok (.getfield 18, 3) := by decide +kernel
theorem dX3_grow_131 : decode cX3_grow 131 = .ok (.iload_n 3, 1) := by decide +kernel
theorem dX3_grow_132 : decode cX3_grow 132 = .ok (.iconst 0, 1) := by decide +kernel
theorem dX3_grow_133 : decode cX3_grow 133 = .ok (.bastore, 1) := by decide +kernel
theorem dX3_grow_134 : decode cX3_grow 134 = .ok (.aload_n 0, 1) := by decide +kernel
theorem dX3_grow_135 : decode cX3_grow 135 = .ok (.dup, 1) := by decide +kernel
theorem dX3_grow_136 : decode cX3_grow 136 = .ok (.getfield 22, 3) := by decide +kernel
theorem dX3_grow_139 : decode cX3_grow 139 = .ok (.iconst 1, 1) := by decide +kernel
theorem dX3_grow_140 : decode cX3_grow 140 = .ok (.iadd, 1) := by decide +kernel
theorem dX3_grow_141 : decode cX3_grow 141 = .ok (.putfield 22, 3) := by decide +kernel
theorem dX3_grow_144 : decode cX3_grow 144 = .ok (.iconst 1, 1) := by decide +kernel
theorem dX3_grow_145 : decode cX3_grow 145 = .ok (.ireturn, 1) := by decide +kernel
theorem dX3_subtreeEnd_0 : decode cX3_subtreeEnd 0 = .ok (.iload_n 1, 1) := by decide +kernel
theorem dX3_subtreeEnd_1 : decode cX3_subtreeEnd 1 = .ok (.iconst 1, 1) := by decide +kernel
theorem dX3_subtreeEnd_2 : decode cX3_subtreeEnd 2 = .ok (.iadd, 1) := by decide +kernel
theorem dX3_subtreeEnd_3 : decode cX3_subtreeEnd 3 = .ok (.istore_n 2, 1) := by decide +kernel
theorem dX3_subtreeEnd_4 : decode cX3_subtreeEnd 4 = .ok (.iload_n 2, 1) := by decide +kernel
theorem dX3_subtreeEnd_5 : decode cX3_subtreeEnd 5 = .ok (.aload_n 0, 1) := by decide +kernel
theorem dX3_subtreeEnd_6 : decode cX3_subtreeEnd 6 = .ok (.getfield 22, 3) := by decide +kernel
theorem dX3_subtreeEnd_9 : decode cX3_subtreeEnd 9 = .ok (.if_icmp .ge 24, 3) := by decide +kernel
theorem dX3_subtreeEnd_12 : decode cX3_subtreeEnd 12 = .ok (.aload_n 0, 1) := by decide +kernel
theorem dX3_subtreeEnd_13 : decode cX3_subtreeEnd 13 = .ok (.getfield 15, 3) := by decide +kernel
theorem dX3_subtreeEnd_16 : decode cX3_subtreeEnd 16 = .ok (.iload_n 2, 1) := by decide +kernel
theorem dX3_subtreeEnd_17 : decode cX3_subtreeEnd 17 = .ok (.iaload, 1) := by decide +kernel
theorem dX3_subtreeEnd_18 : decode cX3_subtreeEnd 18 = .ok (.aload_n 0, 1) := by decide +kernel
theorem dX3_subtreeEnd_19 : decode cX3_subtreeEnd 19 = .ok (.getfield 15, 3) := by decide +kernel
theorem dX3_subtreeEnd_22 : decode cX3_subtreeEnd 22 = .ok (.iload_n 1, 1) := by decide +kernel
theorem dX3_subtreeEnd_23 : decode cX3_subtreeEnd 23 = .ok (.iaload, 1) := by decide +kernel
theorem dX3_subtreeEnd_24 : decode cX3_subtreeEnd 24 = .ok (.if_icmp .le 9, 3) := by decide +kernel
theorem dX3_subtreeEnd_27 : decode cX3_subtreeEnd 27 = .ok (.iinc 2 1, 3) := by decide +kernel
theorem dX3_subtreeEnd_30 : decode cX3_subtreeEnd 30 = .ok (.goto (-26), 3) := by decide +kernel
theorem dX3_subtreeEnd_33 : decode cX3_subtreeEnd 33 = .ok (.iload_n 2, 1) := by decide +kernel
theorem dX3_subtreeEnd_34 : decode cX3_subtreeEnd 34 = .ok (.ireturn, 1) := by decide +kernel
set_option maxRecDepth 20000 in
theorem ggX3_numberOfNode_X3_subtreeEnd : GoodIn wsX3_numberOfNode wsX3_subtreeEnd := goodIn_r _ [8, 9, 3, 14, 15, 16, 17] (by decide +kernel) (by decide +kernel)
set_option maxRecDepth 20000 in
theorem gX3_numberOfNode_X3_subtreeEnd : GoodIn wsX3_numberOfNode (wsV RX3 43 RX3 yX3_subtreeEnd wsX3_subtreeEnd) := goodIn_app (goodIn_of _ (by decide +kernel)) ggX3_numberOfNode_X3_subtreeEnd
set_option maxRecDepth 20000 in
theorem ggX3_numberOfNode_X3_presentBetween : GoodIn wsX3_numberOfNode wsX3_presentBetween := goodIn_r _ [13, 2, 14, 15, 16, 17] (by decide +kernel) (by decide +kernel)
set_option maxRecDepth 20000 in
theorem gX3_numberOfNode_X3_presentBetween : GoodIn wsX3_numberOfNode (wsV RX3 46 RX3 yX3_presentBetween wsX3_presentBetween) := goodIn_app (goodIn_of _ (by decide +kernel)) ggX3_numberOfNode_X3_presentBetween
theorem dX3_numberOfNode_0 : decode cX3_numberOfNode 0 = .ok (.iload_n 2, 1) := by decide +kernel
theorem dX3_numberOfNode_1 : decode cX3_numberOfNode 1 = .ok (.tableswitch 68 0 3 #[31, 38, 53, 60], 31) := by decide +kernel
theorem dX3_numberOfNode_32 : decode cX3_numberOfNode 32 = .ok (.aload_n 0, 1) := by decide +kernel
theorem dX3_numberOfNode_33 : decode cX3_numberOfNode 33 = .ok (.getfield 9, 3) := by decide +kernel
theorem dX3_numberOfNode_36 : decode cX3_numberOfNode 36 = .ok (.iload_n 1, 1) := by decide +kernel
theorem dX3_numberOfNode_37 : decode cX3_numberOfNode 37 = .ok (.iaload, 1) := by decide +kernel
theorem dX3_numberOfNode_38 : decode cX3_numberOfNode 38 = .ok (.ireturn, 1) := by decide +kernel
theorem dX3_numberOfNode_39 : decode cX3_numberOfNode 39 = .ok (.aload_n 0, 1) := by decide +kernel
theorem dX3_numberOfNode_40 : decode cX3_numberOfNode 40 = .ok (.getfield 18, 3) := by decide +kernel
theorem dX3_numberOfNode_43 : decode cX3_numberOfNode 43 = .ok (.iload_n 1, 1) := by decide +kernel
theorem dX3_numberOfNode_44 : decode cX3_numberOfNode 44 = .ok (.baload, 1) := by decide +kernel
theorem dX3_numberOfNode_45 : decode cX3_numberOfNode 45 = .ok (.ifCond .eq 7, 3) := by decide +kernel
theorem dX3_numberOfNode_48 : decode cX3_numberOfNode 48 = .ok (.iconst 1, 1) := by decide +kernel
theorem dX3_numberOfNode_49 : decode cX3_numberOfNode 49 = .ok (.goto 4, 3) := by decide +kernel
theorem dX3_numberOfNode_52 : decode cX3_numberOfNode 52 = .ok (.iconst 0, 1) := by decide +kernel
theorem dX3_numberOfNode_53 : decode cX3_numberOfNode 53 = .ok (.ireturn, 1) := by decide +kernel
theorem dX3_numberOfNode_54 : decode cX3_numberOfNode 54 = .ok (.aload_n 0, 1) := by decide +kernel
theorem dX3_numberOfNode_55 : decode cX3_numberOfNode 55 = .ok (.getfield 15, 3) := by decide +kernel
theorem dX3_numberOfNode_58 : decode cX3_numberOfNode 58 = .ok (.iload_n 1, 1) := by decide +kernel
theorem dX3_numberOfNode_59 : decode cX3_numberOfNode 59 = .ok (.iaload, 1) := by decide +kernel
theorem dX3_numberOfNode_60 : decode cX3_numberOfNode 60 = .ok (.ireturn, 1) := by decide +kernel
theorem dX3_numberOfNode_61 : decode cX3_numberOfNode 61 = .ok (.aload_n 0, 1) := by decide +kernel
theorem dX3_numberOfNode_62 : decode cX3_numberOfNode 62 = .ok (.iload_n 1, 1) := by decide +kernel
theorem dX3_numberOfNode_63 : decode cX3_numberOfNode 63 = .ok (.invokevirtual 43, 3) := by decide +kernel
theorem dX3_numberOfNode_66 : decode cX3_numberOfNode 66 = .ok (.iload_n 1, 1) := by decide +kernel
theorem dX3_numberOfNode_67 : decode cX3_numberOfNode 67 = .ok (.isub, 1) := by decide +kernel
theorem dX3_numberOfNode_68 : decode cX3_numberOfNode 68 = .ok (.ireturn, 1) := by decide +kernel
theorem dX3_numberOfNode_69 : decode cX3_numberOfNode 69 = .ok (.aload_n 0, 1) := by decide +kernel
theorem dX3_numberOfNode_70 : decode cX3_numberOfNode 70 = .ok (.iload_n 1, 1) := by decide +kernel
theorem dX3_numberOfNode_71 : decode cX3_numberOfNode 71 = .ok (.aload_n 0, 1) := by decide +kernel
theorem dX3_numberOfNode_72 : decode cX3_numberOfNode 72 = .ok (.iload_n 1, 1) := by decide +kernel
theorem dX3_numberOfNode_73 : decode cX3_numberOfNode 73 = .ok (.invokevirtual 43, 3) := by decide +kernel
theorem dX3_numberOfNode_76 : decode cX3_numberOfNode 76 = .ok (.invokevirtual 46, 3) := by decide +kernel
theorem dX3_numberOfNode_79 : decode cX3_numberOfNode 79 = .ok (.ireturn, 1) := by decide +kernel
theorem dX3_presentBetween_0 : decode cX3_presentBetween 0 = .ok (.iconst 0, 1) := by decide +kernel
theorem dX3_presentBetween_1 : decode cX3_presentBetween 1 = .ok (.istore_n 3, 1) := by decide +kernel
theorem dX3_presentBetween_2 : decode cX3_presentBetween 2 = .ok (.iload_n 1, 1) := by decide +kernel
theorem dX3_presentBetween_3 : decode cX3_presentBetween 3 = .ok (.istore 4, 2) := by decide +kernel
theorem dX3_presentBetween_5 : decode cX3_presentBetween 5 = .ok (.iload 4, 2) := by decide +kernel
theorem dX3_presentBetween_7 : decode cX3_presentBetween 7 = .ok (.iload_n 2, 1) := by decide +kernel
theorem dX3_presentBetween_8 : decode cX3_presentBetween 8 = .ok (.if_icmp .ge 22, 3) := by decide +kernel
theorem dX3_presentBetween_11 : decode cX3_presentBetween 11 = .ok (.aload_n 0, 1) := by decide +kernel
theorem dX3_presentBetween_12 : decode cX3_presentBetween 12 = .ok (.getfield 18, 3) := by decide +kernel
theorem dX3_presentBetween_15 : decode cX3_presentBetween 15 = .ok (.iload 4, 2) := by decide +kernel
theorem dX3_presentBetween_17 : decode cX3_presentBetween 17 = .ok (.baload, 1) := by decide +kernel
theorem dX3_presentBetween_18 : decode cX3_presentBetween 18 = .ok (.ifCond .ne 6, 3) := by decide +kernel
theorem dX3_presentBetween_21 : decode cX3_presentBetween 21 = .ok (.iinc 3 1, 3) := by decide +kernel
theorem dX3_presentBetween_24 : decode cX3_presentBetween 24 = .ok (.iinc 4 1, 3) := by decide +kernel
theorem dX3_presentBetween_27 : decode cX3_presentBetween 27 = .ok (.goto (-22), 3) := by decide +kernel
theorem dX3_presentBetween_30 : decode cX3_presentBetween 30 = .ok (.iload_n 3, 1) := by decide +kernel
theorem dX3_presentBetween_31 : decode cX3_presentBetween 31 = .ok (.ireturn, 1) := by decide +kernel
set_option maxRecDepth 20000 in
theorem ggX3_presentKeys_X3_presentBetween : GoodIn wsX3_presentKeys wsX3_presentBetween := goodIn_r _ [6, 7, 8, 9, 10, 11] (by decide +kernel) (by decide +kernel)
set_option maxRecDepth 20000 in
theorem gX3_presentKeys_X3_presentBetween : GoodIn wsX3_presentKeys (wsV RX3 46 RX3 yX3_presentBetween wsX3_presentBetween) := goodIn_app (goodIn_of _ (by decide +kernel)) ggX3_presentKeys_X3_presentBetween
theorem dX3_presentKeys_0 : decode cX3_presentKeys 0 = .ok (.aload_n 0, 1) := by decide +kernel
theorem dX3_presentKeys_1 : decode cX3_presentKeys 1 = .ok (.iconst 0, 1) := by decide +kernel
theorem dX3_presentKeys_2 : decode cX3_presentKeys 2 = .ok (.aload_n 0, 1) := by decide +kernel
theorem dX3_presentKeys_3 : decode cX3_presentKeys 3 = .ok (.getfield 22, 3) := by decide +kernel
theorem dX3_presentKeys_6 : decode cX3_presentKeys 6 = .ok (.invokevirtual 46, 3) := by decide +kernel
theorem dX3_presentKeys_9 : decode cX3_presentKeys 9 = .ok (.ireturn, 1) := by decide +kernel
set_option maxRecDepth 20000 in
theorem ggX3_markedNodes_X3_presentKeys : GoodIn wsX3_markedNodes wsX3_presentKeys := goodIn_r _ [6, 1, 7, 8, 9, 5, 10, 11, 12, 13, 14, 15] (by decide +kernel) (by decide +kernel)
set_option maxRecDepth 20000 in
theorem gX3_markedNodes_X3_presentKeys : GoodIn wsX3_markedNodes (wsV RX3 50 RX3 yX3_presentKeys wsX3_presentKeys) := goodIn_app (goodIn_of _ (by decide +kernel)) ggX3_markedNodes_X3_presentKeys
theorem dX3_markedNodes_0 : decode cX3_markedNodes 0 = .ok (.aload_n 0, 1) := by decide +kernel
theorem dX3_markedNodes_1 : decode cX3_markedNodes 1 = .ok (.getfield 22, 3) := by decide +kernel
theorem dX3_markedNodes_4 : decode cX3_markedNodes 4 = .ok (.aload_n 0, 1) := by decide +kernel
theorem dX3_markedNodes_5 : decode cX3_markedNodes 5 = .ok (.invokevirtual 50, 3) := by decide +kernel
theorem dX3_markedNodes_8 : decode cX3_markedNodes 8 = .ok (.isub, 1) := by decide +kernel
theorem dX3_markedNodes_9 : decode cX3_markedNodes 9 = .ok (.ireturn, 1) := by decide +kernel
theorem dX3_presentBelow_0 : decode cX3_presentBelow 0 = .ok (.iconst 0, 1) := by decide +kernel
theorem dX3_presentBelow_1 : decode cX3_presentBelow 1 = .ok (.istore_n 2, 1) := by decide +kernel
theorem dX3_presentBelow_2 : decode cX3_presentBelow 2 = .ok (.iconst 0, 1) := by decide +kernel
theorem dX3_presentBelow_3 : decode cX3_presentBelow 3 = .ok (.istore_n 3, 1) := by decide +kernel
theorem dX3_presentBelow_4 : decode cX3_presentBelow 4 = .ok (.iload_n 3, 1) := by decide +kernel
theorem dX3_presentBelow_5 : decode cX3_presentBelow 5 = .ok (.aload_n 0, 1) := by decide +kernel
theorem dX3_presentBelow_6 : decode cX3_presentBelow 6 = .ok (.getfield 22, 3) := by decide +kernel
theorem dX3_presentBelow_9 : decode cX3_presentBelow 9 = .ok (.if_icmp .ge 31, 3) := by decide +kernel
theorem dX3_presentBelow_12 : decode cX3_presentBelow 12 = .ok (.aload_n 0, 1) := by decide +kernel
theorem dX3_presentBelow_13 : decode cX3_presentBelow 13 = .ok (.getfield 18, 3) := by decide +kernel
theorem dX3_presentBelow_16 : decode cX3_presentBelow 16 = .ok (.iload_n 3, 1) := by decide +kernel
theorem dX3_presentBelow_17 : decode cX3_presentBelow 17 = .ok (.baload, 1) := by decide +kernel
theorem dX3_presentBelow_18 : decode cX3_presentBelow 18 = .ok (.ifCond .ne 16, 3) := by decide +kernel
theorem dX3_presentBelow_21 : decode cX3_presentBelow 21 = .ok (.aload_n 0, 1) := by decide +kernel
theorem dX3_presentBelow_22 : decode cX3_presentBelow 22 = .ok (.getfield 9, 3) := by decide +kernel
theorem dX3_presentBelow_25 : decode cX3_presentBelow 25 = .ok (.iload_n 3, 1) := by decide +kernel
theorem dX3_presentBelow_26 : decode cX3_presentBelow 26 = .ok (.iaload, 1) := by decide +kernel
theorem dX3_presentBelow_27 : decode cX3_presentBelow 27 = .ok (.iload_n 1, 1) := by decide +kernel
theorem dX3_presentBelow_28 : decode cX3_presentBelow 28 = .ok (.if_icmp .ge 6, 3) := by decide +kernel
theorem dX3_presentBelow_31 : decode cX3_presentBelow 31 = .ok (.iinc 2 1, 3) := by decide +kernel
theorem dX3_presentBelow_34 : decode cX3_presentBelow 34 = .ok (.iinc 3 1, 3) := by decide +kernel
theorem dX3_presentBelow_37 : decode cX3_presentBelow 37 = .ok (.goto (-33), 3) := by decide +kernel
theorem dX3_presentBelow_40 : decode cX3_presentBelow 40 = .ok (.iload_n 2, 1) := by decide +kernel
theorem dX3_presentBelow_41 : decode cX3_presentBelow 41 = .ok (.ireturn, 1) := by decide +kernel
theorem dX3_greatestUpTo_0 : decode cX3_greatestUpTo 0 = .ok (.iconst (-1), 1) := by decide +kernel
theorem dX3_greatestUpTo_1 : decode cX3_greatestUpTo 1 = .ok (.istore_n 2, 1) := by decide +kernel
theorem dX3_greatestUpTo_2 : decode cX3_greatestUpTo 2 = .ok (.iconst 0, 1) := by decide +kernel
theorem dX3_greatestUpTo_3 : decode cX3_greatestUpTo 3 = .ok (.istore_n 3, 1) := by decide +kernel
theorem dX3_greatestUpTo_4 : decode cX3_greatestUpTo 4 = .ok (.iload_n 3, 1) := by decide +kernel
theorem dX3_greatestUpTo_5 : decode cX3_greatestUpTo 5 = .ok (.aload_n 0, 1) := by decide +kernel
theorem dX3_greatestUpTo_6 : decode cX3_greatestUpTo 6 = .ok (.getfield 22, 3) := by decide +kernel
theorem dX3_greatestUpTo_9 : decode cX3_greatestUpTo 9 = .ok (.if_icmp .ge 45, 3) := by decide +kernel
theorem dX3_greatestUpTo_12 : decode cX3_greatestUpTo 12 = .ok (.aload_n 0, 1) := by decide +kernel
theorem dX3_greatestUpTo_13 : decode cX3_greatestUpTo 13 = .ok (.getfield 18, 3) := by decide +kernel
theorem dX3_greatestUpTo_16 : decode cX3_greatestUpTo 16 = .ok (.iload_n 3, 1) := by decide +kernel
theorem dX3_greatestUpTo_17 : decode cX3_greatestUpTo 17 = .ok (.baload, 1) := by decide +kernel
theorem dX3_greatestUpTo_18 : decode cX3_greatestUpTo 18 = .ok (.ifCond .ne 30, 3) := by decide +kernel
theorem dX3_greatestUpTo_21 : decode cX3_greatestUpTo 21 = .ok (.aload_n 0, 1) := by decide +kernel
theorem dX3_greatestUpTo_22 : decode cX3_greatestUpTo 22 = .ok (.getfield 9, 3) := by decide +kernel
theorem dX3_greatestUpTo_25 : decode cX3_greatestUpTo 25 = .ok (.iload_n 3, 1) := by decide +kernel
theorem dX3_greatestUpTo_26 : decode cX3_greatestUpTo 26 = .ok (.iaload, 1) := by decide +kernel
theorem dX3_greatestUpTo_27 : decode cX3_greatestUpTo 27 = .ok (.iload_n 1, 1) := by decide +kernel
theorem dX3_greatestUpTo_28 : decode cX3_greatestUpTo 28 = .ok (.if_icmp .gt 20, 3) := by decide +kernel
theorem dX3_greatestUpTo_31 : decode cX3_greatestUpTo 31 = .ok (.aload_n 0, 1) := by decide +kernel
theorem dX3_greatestUpTo_32 : decode cX3_greatestUpTo 32 = .ok (.getfield 9, 3) := by decide +kernel
theorem dX3_greatestUpTo_35 : decode cX3_greatestUpTo 35 = .ok (.iload_n 3, 1) := by decide +kernel
theorem dX3_greatestUpTo_36 : decode cX3_greatestUpTo 36 = .ok (.iaload, 1) := by decide +kernel
theorem dX3_greatestUpTo_37 : decode cX3_greatestUpTo 37 = .ok (.iload_n 2, 1) := by decide +kernel
theorem dX3_greatestUpTo_38 : decode cX3_greatestUpTo 38 = .ok (.if_icmp .le 10, 3) := by decide +kernel
theorem dX3_greatestUpTo_41 : decode cX3_greatestUpTo 41 = .ok (.aload_n 0, 1) := by decide +kernel
theorem dX3_greatestUpTo_42 : decode cX3_greatestUpTo 42 = .ok (.getfield 9, 3) := by decide +kernel
theorem dX3_greatestUpTo_45 : decode cX3_greatestUpTo 45 = .ok (.iload_n 3, 1) := by decide +kernel
theorem dX3_greatestUpTo_46 : decode cX3_greatestUpTo 46 = .ok (.iaload, 1) := by decide +kernel
theorem dX3_greatestUpTo_47 : decode cX3_greatestUpTo 47 = .ok (.istore_n 2, 1) := by decide +kernel
theorem dX3_greatestUpTo_48 : decode cX3_greatestUpTo 48 = .ok (.iinc 3 1, 3) := by decide +kernel
theorem dX3_greatestUpTo_51 : decode cX3_greatestUpTo 51 = .ok (.goto (-47), 3) := by decide +kernel
theorem dX3_greatestUpTo_54 : decode cX3_greatestUpTo 54 = .ok (.iload_n 2, 1) := by decide +kernel
theorem dX3_greatestUpTo_55 : decode cX3_greatestUpTo 55 = .ok (.ireturn, 1) := by decide +kernel
theorem dX3_leastFrom_0 : decode cX3_leastFrom 0 = .ok (.sipush 500, 3) := by decide +kernel
theorem dX3_leastFrom_3 : decode cX3_leastFrom 3 = .ok (.istore_n 2, 1) := by decide +kernel
theorem dX3_leastFrom_4 : decode cX3_leastFrom 4 = .ok (.iconst 0, 1) := by decide +kernel
theorem dX3_leastFrom_5 : decode cX3_leastFrom 5 = .ok (.istore_n 3, 1) := by decide +kernel
theorem dX3_leastFrom_6 : decode cX3_leastFrom 6 = .ok (.iload_n 3, 1) := by decide +kernel
theorem dX3_leastFrom_7 : decode cX3_leastFrom 7 = .ok (.aload_n 0, 1) := by decide +kernel
theorem dX3_leastFrom_8 : decode cX3_leastFrom 8 = .ok (.getfield 22, 3) := by decide +kernel
theorem dX3_leastFrom_11 : decode cX3_leastFrom 11 = .ok (.if_icmp .ge 45, 3) := by decide +kernel
theorem dX3_leastFrom_14 : decode cX3_leastFrom 14 = .ok (.aload_n 0, 1) := by decide +kernel
theorem dX3_leastFrom_15 : decode cX3_leastFrom 15 = .ok (.getfield 18, 3) := by decide +kernel
theorem dX3_leastFrom_18 : decode cX3_leastFrom 18 = .ok (.iload_n 3, 1) := by decide +kernel
theorem dX3_leastFrom_19 : decode cX3_leastFrom 19 = .ok (.baload, 1) := by decide +kernel
theorem dX3_leastFrom_20 : decode cX3_leastFrom 20 = .ok (.ifCond .ne 30, 3) := by decide +kernel
theorem dX3_leastFrom_23 : decode cX3_leastFrom 23 = .ok (.aload_n 0, 1) := by decide +kernel
theorem dX3_leastFrom_24 : decode cX3_leastFrom 24 = .ok (.getfield 9, 3) := by decide +kernel
theorem dX3_leastFrom_27 : decode cX3_leastFrom 27 = .ok (.iload_n 3, 1) := by decide +kernel
theorem dX3_leastFrom_28 : decode cX3_leastFrom 28 = .ok (.iaload, 1) := by decide +kernel
theorem dX3_leastFrom_29 : decode cX3_leastFrom 29 = .ok (.iload_n 1, 1) := by decide +kernel
theorem dX3_leastFrom_30 : decode cX3_leastFrom 30 = .ok (.if_icmp .lt 20, 3) := by decide +kernel
theorem dX3_leastFrom_33 : decode cX3_leastFrom 33 = .ok (.aload_n 0, 1) := by decide +kernel
theorem dX3_leastFrom_34 : decode cX3_leastFrom 34 = .ok (.getfield 9, 3) := by decide +kernel
theorem dX3_leastFrom_37 : decode cX3_leastFrom 37 = .ok (.iload_n 3, 1) := by decide +kernel
theorem dX3_leastFrom_38 : decode cX3_leastFrom 38 = .ok (.iaload, 1) := by decide +kernel
theorem dX3_leastFrom_39 : decode cX3_leastFrom 39 = .ok (.iload_n 2, 1) := by decide +kernel
theorem dX3_leastFrom_40 : decode cX3_leastFrom 40 = .ok (.if_icmp .ge 10, 3) := by decide +kernel
theorem dX3_leastFrom_43 : decode cX3_leastFrom 43 = .ok (.aload_n 0, 1) := by decide +kernel
theorem dX3_leastFrom_44 : decode cX3_leastFrom 44 = .ok (.getfield 9, 3) := by decide +kernel
theorem dX3_leastFrom_47 : decode cX3_leastFrom 47 = .ok (.iload_n 3, 1) := by decide +kernel
theorem dX3_leastFrom_48 : decode cX3_leastFrom 48 = .ok (.iaload, 1) := by decide +kernel
theorem dX3_leastFrom_49 : decode cX3_leastFrom 49 = .ok (.istore_n 2, 1) := by decide +kernel
theorem dX3_leastFrom_50 : decode cX3_leastFrom 50 = .ok (.iinc 3 1, 3) := by decide +kernel
theorem dX3_leastFrom_53 : decode cX3_leastFrom 53 = .ok (.goto (-47), 3) := by decide +kernel
theorem dX3_leastFrom_56 : decode cX3_leastFrom 56 = .ok (.iload_n 2, 1) := by decide +kernel
theorem dX3_leastFrom_57 : decode cX3_leastFrom 57 = .ok (.sipush 500, 3) := by decide +kernel
theorem dX3_leastFrom_60 : decode cX3_leastFrom 60 = .ok (.if_icmp .ne 7, 3) := by decide +kernel
theorem dX3_leastFrom_63 : decode cX3_leastFrom 63 = .ok (.iconst (-1), 1) := by decide +kernel
theorem dX3_leastFrom_64 : decode cX3_leastFrom 64 = .ok (.goto 4, 3) := by decide +kernel
theorem dX3_leastFrom_67 : decode cX3_leastFrom 67 = .ok (.iload_n 2, 1) := by decide +kernel
theorem dX3_leastFrom_68 : decode cX3_leastFrom 68 = .ok (.ireturn, 1) := by decide +kernel
theorem dX3_greatestDepth_0 : decode cX3_greatestDepth 0 = .ok (.iconst 0, 1) := by decide +kernel
theorem dX3_greatestDepth_1 : decode cX3_greatestDepth 1 = .ok (.istore_n 1, 1) := by decide +kernel
theorem dX3_greatestDepth_2 : decode cX3_greatestDepth 2 = .ok (.iconst 0, 1) := by decide +kernel
theorem dX3_greatestDepth_3 : decode cX3_greatestDepth 3 = .ok (.istore_n 2, 1) := by decide +kernel
theorem dX3_greatestDepth_4 : decode cX3_greatestDepth 4 = .ok (.iload_n 2, 1) := by decide +kernel
theorem dX3_greatestDepth_5 : decode cX3_greatestDepth 5 = .ok (.aload_n 0, 1) := by decide +kernel
theorem dX3_greatestDepth_6 : decode cX3_greatestDepth 6 = .ok (.getfield 22, 3) := by decide +kernel
theorem dX3_greatestDepth_9 : decode cX3_greatestDepth 9 = .ok (.if_icmp .ge 20, 3) := by decide +kernel
theorem dX3_greatestDepth_12 : decode cX3_greatestDepth 12 = .ok (.iload_n 1, 1) := by decide +kernel
theorem dX3_greatestDepth_13 : decode cX3_greatestDepth 13 = .ok (.aload_n 0, 1) := by decide +kernel
theorem dX3_greatestDepth_14 : decode cX3_greatestDepth 14 = .ok (.getfield 15, 3) := by decide +kernel
theorem dX3_greatestDepth_17 : decode cX3_greatestDepth 17 = .ok (.iload_n 2, 1) := by decide +kernel
theorem dX3_greatestDepth_18 : decode cX3_greatestDepth 18 = .ok (.iaload, 1) := by decide +kernel
theorem dX3_greatestDepth_19 : decode cX3_greatestDepth 19 = .ok (.invokestatic 54, 3) := by decide +kernel
theorem dX3_greatestDepth_22 : decode cX3_greatestDepth 22 = .ok (.istore_n 1, 1) := by decide +kernel
theorem dX3_greatestDepth_23 : decode cX3_greatestDepth 23 = .ok (.iinc 2 1, 3) := by decide +kernel
theorem dX3_greatestDepth_26 : decode cX3_greatestDepth 26 = .ok (.goto (-22), 3) := by decide +kernel
theorem dX3_greatestDepth_29 : decode cX3_greatestDepth 29 = .ok (.iload_n 1, 1) := by decide +kernel
theorem dX3_greatestDepth_30 : decode cX3_greatestDepth 30 = .ok (.ireturn, 1) := by decide +kernel
theorem dX3_sumOfDepths_0 : decode cX3_sumOfDepths 0 = .ok (.iconst 0, 1) := by decide +kernel
theorem dX3_sumOfDepths_1 : decode cX3_sumOfDepths 1 = .ok (.istore_n 2, 1) := by decide +kernel
theorem dX3_sumOfDepths_2 : decode cX3_sumOfDepths 2 = .ok (.iconst 0, 1) := by decide +kernel
theorem dX3_sumOfDepths_3 : decode cX3_sumOfDepths 3 = .ok (.istore_n 3, 1) := by decide +kernel
theorem dX3_sumOfDepths_4 : decode cX3_sumOfDepths 4 = .ok (.iload_n 3, 1) := by decide +kernel
theorem dX3_sumOfDepths_5 : decode cX3_sumOfDepths 5 = .ok (.aload_n 0, 1) := by decide +kernel
theorem dX3_sumOfDepths_6 : decode cX3_sumOfDepths 6 = .ok (.getfield 22, 3) := by decide +kernel
theorem dX3_sumOfDepths_9 : decode cX3_sumOfDepths 9 = .ok (.if_icmp .ge 31, 3) := by decide +kernel
theorem dX3_sumOfDepths_12 : decode cX3_sumOfDepths 12 = .ok (.iload_n 1, 1) := by decide +kernel
theorem dX3_sumOfDepths_13 : decode cX3_sumOfDepths 13 = .ok (.ifCond .ne 12, 3) := by decide +kernel
theorem dX3_sumOfDepths_16 : decode cX3_sumOfDepths 16 = .ok (.aload_n 0, 1) := by decide +kernel
theorem dX3_sumOfDepths_17 : decode cX3_sumOfDepths 17 = .ok (.getfield 18, 3) := by decide +kernel
theorem dX3_sumOfDepths_20 : decode cX3_sumOfDepths 20 = .ok (.iload_n 3, 1) := by decide +kernel
theorem dX3_sumOfDepths_21 : decode cX3_sumOfDepths 21 = .ok (.baload, 1) := by decide +kernel
theorem dX3_sumOfDepths_22 : decode cX3_sumOfDepths 22 = .ok (.ifCond .ne 12, 3) := by decide +kernel
theorem dX3_sumOfDepths_25 : decode cX3_sumOfDepths 25 = .ok (.iload_n 2, 1) := by decide +kernel
theorem dX3_sumOfDepths_26 : decode cX3_sumOfDepths 26 = .ok (.aload_n 0, 1) := by decide +kernel
theorem dX3_sumOfDepths_27 : decode cX3_sumOfDepths 27 = .ok (.getfield 15, 3) := by decide +kernel
theorem dX3_sumOfDepths_30 : decode cX3_sumOfDepths 30 = .ok (.iload_n 3, 1) := by decide +kernel
theorem dX3_sumOfDepths_31 : decode cX3_sumOfDepths 31 = .ok (.iaload, 1) := by decide +kernel
theorem dX3_sumOfDepths_32 : decode cX3_sumOfDepths 32 = .ok (.iadd, 1) := by decide +kernel
theorem dX3_sumOfDepths_33 : decode cX3_sumOfDepths 33 = .ok (.istore_n 2, 1) := by decide +kernel
theorem dX3_sumOfDepths_34 : decode cX3_sumOfDepths 34 = .ok (.iinc 3 1, 3) := by decide +kernel
theorem dX3_sumOfDepths_37 : decode cX3_sumOfDepths 37 = .ok (.goto (-33), 3) := by decide +kernel
theorem dX3_sumOfDepths_40 : decode cX3_sumOfDepths 40 = .ok (.iload_n 2, 1) := by decide +kernel
theorem dX3_sumOfDepths_41 : decode cX3_sumOfDepths 41 = .ok (.ireturn, 1) := by decide +kernel
set_option maxRecDepth 20000 in
theorem ggX3_leaves_X3_subtreeEnd : GoodIn wsX3_leaves wsX3_subtreeEnd := goodIn_r _ [6, 1, 7, 8, 9, 10, 11] (by decide +kernel) (by decide +kernel)
set_option maxRecDepth 20000 in
theorem gX3_leaves_X3_subtreeEnd : GoodIn wsX3_leaves (wsV RX3 43 RX3 yX3_subtreeEnd wsX3_subtreeEnd) := goodIn_app (goodIn_of _ (by decide +kernel)) ggX3_leaves_X3_subtreeEnd
theorem dX3_leaves_0 : decode cX3_leaves 0 = .ok (.iconst 0, 1) := by decide +kernel
theorem dX3_leaves_1 : decode cX3_leaves 1 = .ok (.istore_n 1, 1) := by decide +kernel
theorem dX3_leaves_2 : decode cX3_leaves 2 = .ok (.iconst 0, 1) := by decide +kernel
theorem dX3_leaves_3 : decode cX3_leaves 3 = .ok (.istore_n 2, 1) := by decide +kernel
theorem dX3_leaves_4 : decode cX3_leaves 4 = .ok (.iload_n 2, 1) := by decide +kernel
theorem dX3_leaves_5 : decode cX3_leaves 5 = .ok (.aload_n 0, 1) := by decide +kernel
theorem dX3_leaves_6 : decode cX3_leaves 6 = .ok (.getfield 22, 3) := by decide +kernel
theorem dX3_leaves_9 : decode cX3_leaves 9 = .ok (.if_icmp .ge 23, 3) := by decide +kernel
theorem dX3_leaves_12 : decode cX3_leaves 12 = .ok (.aload_n 0, 1) := by decide +kernel
theorem dX3_leaves_13 : decode cX3_leaves 13 = .ok (.iload_n 2, 1) := by decide +kernel
theorem dX3_leaves_14 : decode cX3_leaves 14 = .ok (.invokevirtual 43, 3) := by decide +kernel
theorem dX3_leaves_17 : decode cX3_leaves 17 = .ok (.iload_n 2, 1) := by decide +kernel
theorem dX3_leaves_18 : decode cX3_leaves 18 = .ok (.iconst 1, 1) := by decide +kernel
theorem dX3_leaves_19 : decode cX3_leaves 19 = .ok (.iadd, 1) := by decide +kernel
theorem dX3_leaves_20 : decode cX3_leaves 20 = .ok (.if_icmp .ne 6, 3) := by decide +kernel
theorem dX3_leaves_23 : decode cX3_leaves 23 = .ok (.iinc 1 1, 3) := by decide +kernel
theorem dX3_leaves_26 : decode cX3_leaves 26 = .ok (.iinc 2 1, 3) := by decide +kernel
theorem dX3_leaves_29 : decode cX3_leaves 29 = .ok (.goto (-25), 3) := by decide +kernel
theorem dX3_leaves_32 : decode cX3_leaves 32 = .ok (.iload_n 1, 1) := by decide +kernel
theorem dX3_leaves_33 : decode cX3_leaves 33 = .ok (.ireturn, 1) := by decide +kernel
theorem dX3_tellPresence_0 : decode cX3_tellPresence 0 = .ok (.iconst 0, 1) := by decide +kernel
theorem dX3_tellPresence_1 : decode cX3_tellPresence 1 = .ok (.istore_n 2, 1) := by decide +kernel
theorem dX3_tellPresence_2 : decode cX3_tellPresence 2 = .ok (.iload_n 2, 1) := by decide +kernel
theorem dX3_tellPresence_3 : decode cX3_tellPresence 3 = .ok (.aload_n 1, 1) := by decide +kernel
theorem dX3_tellPresence_4 : decode cX3_tellPresence 4 = .ok (.arraylength, 1) := by decide +kernel
theorem dX3_tellPresence_5 : decode cX3_tellPresence 5 = .ok (.if_icmp .ge 13, 3) := by decide +kernel
theorem dX3_tellPresence_8 : decode cX3_tellPresence 8 = .ok (.aload_n 1, 1) := by decide +kernel
theorem dX3_tellPresence_9 : decode cX3_tellPresence 9 = .ok (.iload_n 2, 1) := by decide +kernel
theorem dX3_tellPresence_10 : decode cX3_tellPresence 10 = .ok (.iconst 0, 1) := by decide +kernel
theorem dX3_tellPresence_11 : decode cX3_tellPresence 11 = .ok (.bastore, 1) := by decide +kernel
theorem dX3_tellPresence_12 : decode cX3_tellPresence 12 = .ok (.iinc 2 1, 3) := by decide +kernel
theorem dX3_tellPresence_15 : decode cX3_tellPresence 15 = .ok (.goto (-13), 3) := by decide +kernel
theorem dX3_tellPresence_18 : decode cX3_tellPresence 18 = .ok (.iconst 0, 1) := by decide +kernel
theorem dX3_tellPresence_19 : decode cX3_tellPresence 19 = .ok (.istore_n 2, 1) := by decide +kernel
theorem dX3_tellPresence_20 : decode cX3_tellPresence 20 = .ok (.iload_n 2, 1) := by decide +kernel
theorem dX3_tellPresence_21 : decode cX3_tellPresence 21 = .ok (.aload_n 0, 1) := by decide +kernel
theorem dX3_tellPresence_22 : decode cX3_tellPresence 22 = .ok (.getfield 22, 3) := by decide +kernel
theorem dX3_tellPresence_25 : decode cX3_tellPresence 25 = .ok (.if_icmp .ge 42, 3) := by decide +kernel
theorem dX3_tellPresence_28 : decode cX3_tellPresence 28 = .ok (.aload_n 0, 1) := by decide +kernel
theorem dX3_tellPresence_29 : decode cX3_tellPresence 29 = .ok (.getfield 9, 3) := by decide +kernel
theorem dX3_tellPresence_32 : decode cX3_tellPresence 32 = .ok (.iload_n 2, 1) := by decide +kernel
theorem dX3_tellPresence_33 : decode cX3_tellPresence 33 = .ok (.iaload, 1) := by decide +kernel
theorem dX3_tellPresence_34 : decode cX3_tellPresence 34 = .ok (.aload_n 1, 1) := by decide +kernel
theorem dX3_tellPresence_35 : decode cX3_tellPresence 35 = .ok (.arraylength, 1) := by decide +kernel
theorem dX3_tellPresence_36 : decode cX3_tellPresence 36 = .ok (.if_icmp .ge 25, 3) := by decide +kernel
theorem dX3_tellPresence_39 : decode cX3_tellPresence 39 = .ok (.aload_n 1, 1) := by decide +kernel
theorem dX3_tellPresence_40 : decode cX3_tellPresence 40 = .ok (.aload_n 0, 1) := by decide +kernel
theorem dX3_tellPresence_41 : decode cX3_tellPresence 41 = .ok (.getfield 9, 3) := by decide +kernel
theorem dX3_tellPresence_44 : decode cX3_tellPresence 44 = .ok (.iload_n 2, 1) := by decide +kernel
theorem dX3_tellPresence_45 : decode cX3_tellPresence 45 = .ok (.iaload, 1) := by decide +kernel
theorem dX3_tellPresence_46 : decode cX3_tellPresence 46 = .ok (.aload_n 0, 1) := by decide +kernel
theorem dX3_tellPresence_47 : decode cX3_tellPresence 47 = .ok (.getfield 18, 3) := by decide +kernel
theorem dX3_tellPresence_50 : decode cX3_tellPresence 50 = .ok (.iload_n 2, 1) := by decide +kernel
theorem dX3_tellPresence_51 : decode cX3_tellPresence 51 = .ok (.baload, 1) := by decide +kernel
theorem dX3_tellPresence_52 : decode cX3_tellPresence 52 = .ok (.ifCond .ne 7, 3) := by decide +kernel
theorem dX3_tellPresence_55 : decode cX3_tellPresence 55 = .ok (.iconst 1, 1) := by decide +kernel
theorem dX3_tellPresence_56 : decode cX3_tellPresence 56 = .ok (.goto 4, 3) := by decide +kernel
theorem dX3_tellPresence_59 : decode cX3_tellPresence 59 = .ok (.iconst 0, 1) := by decide +kernel
theorem dX3_tellPresence_60 : decode cX3_tellPresence 60 = .ok (.bastore, 1) := by decide +kernel
theorem dX3_tellPresence_61 : decode cX3_tellPresence 61 = .ok (.iinc 2 1, 3) := by decide +kernel
theorem dX3_tellPresence_64 : decode cX3_tellPresence 64 = .ok (.goto (-44), 3) := by decide +kernel
theorem dX3_tellPresence_67 : decode cX3_tellPresence 67 = .ok (.return_, 1) := by decide +kernel
theorem dX3_presentKeysAmong_0 : decode cX3_presentKeysAmong 0 = .ok (.iconst 0, 1) := by decide +kernel
theorem dX3_presentKeysAmong_1 : decode cX3_presentKeysAmong 1 = .ok (.istore_n 2, 1) := by decide +kernel
theorem dX3_presentKeysAmong_2 : decode cX3_presentKeysAmong 2 = .ok (.iconst 0, 1) := by decide +kernel
theorem dX3_presentKeysAmong_3 : decode cX3_presentKeysAmong 3 = .ok (.istore_n 3, 1) := by decide +kernel
theorem dX3_presentKeysAmong_4 : decode cX3_presentKeysAmong 4 = .ok (.iload_n 3, 1) := by decide +kernel
theorem dX3_presentKeysAmong_5 : decode cX3_presentKeysAmong 5 = .ok (.aload_n 0, 1) := by decide +kernel
theorem dX3_presentKeysAmong_6 : decode cX3_presentKeysAmong 6 = .ok (.getfield 22, 3) := by decide +kernel
theorem dX3_presentKeysAmong_9 : decode cX3_presentKeysAmong 9 = .ok (.if_icmp .ge 43, 3) := by decide +kernel
theorem dX3_presentKeysAmong_12 : decode cX3_presentKeysAmong 12 = .ok (.aload_n 0, 1) := by decide +kernel
theorem dX3_presentKeysAmong_13 : decode cX3_presentKeysAmong 13 = .ok (.getfield 18, 3) := by decide +kernel
theorem dX3_presentKeysAmong_16 : decode cX3_presentKeysAmong 16 = .ok (.iload_n 3, 1) := by decide +kernel
theorem dX3_presentKeysAmong_17 : decode cX3_presentKeysAmong 17 = .ok (.baload, 1) := by decide +kernel
theorem dX3_presentKeysAmong_18 : decode cX3_presentKeysAmong 18 = .ok (.ifCond .ne 28, 3) := by decide +kernel
theorem dX3_presentKeysAmong_21 : decode cX3_presentKeysAmong 21 = .ok (.aload_n 0, 1) := by decide +kernel
theorem dX3_presentKeysAmong_22 : decode cX3_presentKeysAmong 22 = .ok (.getfield 9, 3) := by decide +kernel
theorem dX3_presentKeysAmong_25 : decode cX3_presentKeysAmong 25 = .ok (.iload_n 3, 1) := by decide +kernel
theorem dX3_presentKeysAmong_26 : decode cX3_presentKeysAmong 26 = .ok (.iaload, 1) := by decide +kernel
theorem dX3_presentKeysAmong_27 : decode cX3_presentKeysAmong 27 = .ok (.aload_n 1, 1) := by decide +kernel
theorem dX3_presentKeysAmong_28 : decode cX3_presentKeysAmong 28 = .ok (.arraylength, 1) := by decide +kernel
theorem dX3_presentKeysAmong_29 : decode cX3_presentKeysAmong 29 = .ok (.if_icmp .ge 17, 3) := by decide +kernel
theorem dX3_presentKeysAmong_32 : decode cX3_presentKeysAmong 32 = .ok (.aload_n 1, 1) := by decide +kernel
theorem dX3_presentKeysAmong_33 : decode cX3_presentKeysAmong 33 = .ok (.aload_n 0, 1) := by decide +kernel
theorem dX3_presentKeysAmong_34 : decode cX3_presentKeysAmong 34 = .ok (.getfield 9, 3) := by decide +kernel
theorem dX3_presentKeysAmong_37 : decode cX3_presentKeysAmong 37 = .ok (.iload_n 3, 1) := by decide +kernel
theorem dX3_presentKeysAmong_38 : decode cX3_presentKeysAmong 38 = .ok (.iaload, 1) := by decide +kernel
theorem dX3_presentKeysAmong_39 : decode cX3_presentKeysAmong 39 = .ok (.baload, 1) := by decide +kernel
theorem dX3_presentKeysAmong_40 : decode cX3_presentKeysAmong 40 = .ok (.ifCond .eq 6, 3) := by decide +kernel
theorem dX3_presentKeysAmong_43 : decode cX3_presentKeysAmong 43 = .ok (.iinc 2 1, 3) := by decide +kernel
theorem dX3_presentKeysAmong_46 : decode cX3_presentKeysAmong 46 = .ok (.iinc 3 1, 3) := by decide +kernel
theorem dX3_presentKeysAmong_49 : decode cX3_presentKeysAmong 49 = .ok (.goto (-45), 3) := by decide +kernel
theorem dX3_presentKeysAmong_52 : decode cX3_presentKeysAmong 52 = .ok (.iload_n 2, 1) := by decide +kernel
theorem dX3_presentKeysAmong_53 : decode cX3_presentKeysAmong 53 = .ok (.ireturn, 1) := by decide +kernel
theorem dJ9_max_7cf53_0 : decode cJ9_max_7cf53 0 = .ok (.iload_n 0, 1) := by decide +kernel
theorem dJ9_max_7cf53_1 : decode cJ9_max_7cf53 1 = .ok (.iload_n 1, 1) := by decide +kernel
theorem dJ9_max_7cf53_2 : decode cJ9_max_7cf53 2 = .ok (.if_icmp .lt 7, 3) := by decide +kernel
theorem dJ9_max_7cf53_5 : decode cJ9_max_7cf53 5 = .ok (.iload_n 0, 1) := by decide +kernel
theorem dJ9_max_7cf53_6 : decode cJ9_max_7cf53 6 = .ok (.goto 4, 3) := by decide +kernel
theorem dJ9_max_7cf53_9 : decode cJ9_max_7cf53 9 = .ok (.iload_n 1, 1) := by decide +kernel
theorem dJ9_max_7cf53_10 : decode cJ9_max_7cf53 10 = .ok (.ireturn, 1) := by decide +kernel
