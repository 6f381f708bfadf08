theorem dX0_wordWith_30 : decode cX0_wordWith 30 = .ok (.ireturn, 1) := by decide +kernel
set_option maxRecDepth 20000 in
theorem ggX0_wordBehind_X0_part : GoodIn wsX0_wordBehind wsX0_part := goodIn_r _ [6, 7, 28, 29, 30, 31] (by decide +kernel) (by decide +kernel)
set_option maxRecDepth 20000 in
theorem gX0_wordBehind_X0_part : GoodIn wsX0_wordBehind (wsV RX0 56 RX0 yX0_part wsX0_part) := goodIn_app (goodIn_of _ (by decide +kernel)) ggX0_wordBehind_X0_part
set_option maxRecDepth 20000 in
theorem ggX0_wordBehind_X0_wordWith : GoodIn wsX0_wordBehind wsX0_wordWith := goodIn_r _ [11, 1, 12, 13, 14, 15, 16, 17, 18, 19, 20, 21, 28, 29, 30, 31] (by decide +kernel) (by decide +kernel)
set_option maxRecDepth 20000 in
theorem gX0_wordBehind_X0_wordWith : GoodIn wsX0_wordBehind (wsV RX0 59 RX0 yX0_wordWith wsX0_wordWith) := goodIn_app (goodIn_of _ (by decide +kernel)) ggX0_wordBehind_X0_wordWith
set_option maxRecDepth 20000 in
theorem ggX0_wordBehind_X6_find : GoodIn wsX0_wordBehind wsX6_find := goodIn_r _ [24] (by decide +kernel) (by decide +kernel)
set_option maxRecDepth 20000 in
theorem gX0_wordBehind_X6_find : GoodIn wsX0_wordBehind (va_wsS RX0 62 yX6_find wsX6_find) := goodIn_app (goodIn_of _ (by decide +kernel)) ggX0_wordBehind_X6_find
set_option maxRecDepth 20000 in
theorem ggX0_wordBehind_X6_without : GoodIn wsX0_wordBehind wsX6_without := goodIn_r _ [27] (by decide +kernel) (by decide +kernel)
set_option maxRecDepth 20000 in
theorem gX0_wordBehind_X6_without : GoodIn wsX0_wordBehind (va_wsS RX0 65 yX6_without wsX6_without) := goodIn_app (goodIn_of _ (by decide +kernel)) ggX0_wordBehind_X6_without
theorem dX0_wordBehind_0 : decode cX0_wordBehind 0 = .ok (.aload_n 0, 1) := by decide +kernel
theorem dX0_wordBehind_1 : decode cX0_wordBehind 1 = .ok (.iload_n 1, 1) := by decide +kernel
theorem dX0_wordBehind_2 : decode cX0_wordBehind 2 = .ok (.iconst 2, 1) := by decide +kernel
theorem dX0_wordBehind_3 : decode cX0_wordBehind 3 = .ok (.invokevirtual 56, 3) := by decide +kernel
theorem dX0_wordBehind_6 : decode cX0_wordBehind 6 = .ok (.istore_n 3, 1) := by decide +kernel
theorem dX0_wordBehind_7 : decode cX0_wordBehind 7 = .ok (.aload_n 0, 1) := by decide +kernel
theorem dX0_wordBehind_8 : decode cX0_wordBehind 8 = .ok (.iload_n 1, 1) := by decide +kernel
theorem dX0_wordBehind_9 : decode cX0_wordBehind 9 = .ok (.iconst 3, 1) := by decide +kernel
theorem dX0_wordBehind_10 : decode cX0_wordBehind 10 = .ok (.invokevirtual 56, 3) := by decide +kernel
theorem dX0_wordBehind_13 : decode cX0_wordBehind 13 = .ok (.istore 4, 2) := by decide +kernel
theorem dX0_wordBehind_15 : decode cX0_wordBehind 15 = .ok (.aload_n 0, 1) := by decide +kernel
theorem dX0_wordBehind_16 : decode cX0_wordBehind 16 = .ok (.iload_n 1, 1) := by decide +kernel
theorem dX0_wordBehind_17 : decode cX0_wordBehind 17 = .ok (.iconst 1, 1) := by decide +kernel
theorem dX0_wordBehind_18 : decode cX0_wordBehind 18 = .ok (.invokevirtual 56, 3) := by decide +kernel
theorem dX0_wordBehind_21 : decode cX0_wordBehind 21 = .ok (.lookupswitch 94 #[(1, 27), (2, 36)], 27) := by decide +kernel
theorem dX0_wordBehind_48 : decode cX0_wordBehind 48 = .ok (.aload_n 0, 1) := by decide +kernel
theorem dX0_wordBehind_49 : decode cX0_wordBehind 49 = .ok (.iload_n 3, 1) := by decide +kernel
theorem dX0_wordBehind_50 : decode cX0_wordBehind 50 = .ok (.iload_n 2, 1) := by decide +kernel
theorem dX0_wordBehind_51 : decode cX0_wordBehind 51 = .ok (.iload 4, 2) := by decide +kernel
theorem dX0_wordBehind_53 : decode cX0_wordBehind 53 = .ok (.invokevirtual 59, 3) := by decide +kernel
theorem dX0_wordBehind_56 : decode cX0_wordBehind 56 = .ok (.ireturn, 1) := by decide +kernel
theorem dX0_wordBehind_57 : decode cX0_wordBehind 57 = .ok (.iload_n 2, 1) := by decide +kernel
theorem dX0_wordBehind_58 : decode cX0_wordBehind 58 = .ok (.iload 4, 2) := by decide +kernel
theorem dX0_wordBehind_60 : decode cX0_wordBehind 60 = .ok (.invokestatic 62, 3) := by decide +kernel
theorem dX0_wordBehind_63 : decode cX0_wordBehind 63 = .ok (.istore 5, 2) := by decide +kernel
theorem dX0_wordBehind_65 : decode cX0_wordBehind 65 = .ok (.aload_n 0, 1) := by decide +kernel
theorem dX0_wordBehind_66 : decode cX0_wordBehind 66 = .ok (.getfield 15, 3) := by decide +kernel
theorem dX0_wordBehind_69 : decode cX0_wordBehind 69 = .ok (.iload_n 3, 1) := by decide +kernel
theorem dX0_wordBehind_70 : decode cX0_wordBehind 70 = .ok (.baload, 1) := by decide +kernel
theorem dX0_wordBehind_71 : decode cX0_wordBehind 71 = .ok (.ifCond .eq 16, 3) := by decide +kernel
theorem dX0_wordBehind_74 : decode cX0_wordBehind 74 = .ok (.iload 5, 2) := by decide +kernel
theorem dX0_wordBehind_76 : decode cX0_wordBehind 76 = .ok (.ifCond .lt 7, 3) := by decide +kernel
theorem dX0_wordBehind_79 : decode cX0_wordBehind 79 = .ok (.iconst 1, 1) := by decide +kernel
theorem dX0_wordBehind_80 : decode cX0_wordBehind 80 = .ok (.goto 17, 3) := by decide +kernel
theorem dX0_wordBehind_83 : decode cX0_wordBehind 83 = .ok (.iconst 0, 1) := by decide +kernel
theorem dX0_wordBehind_84 : decode cX0_wordBehind 84 = .ok (.goto 13, 3) := by decide +kernel
theorem dX0_wordBehind_87 : decode cX0_wordBehind 87 = .ok (.iload 5, 2) := by decide +kernel
theorem dX0_wordBehind_89 : decode cX0_wordBehind 89 = .ok (.ifCond .ne 7, 3) := by decide +kernel
theorem dX0_wordBehind_92 : decode cX0_wordBehind 92 = .ok (.iconst 1, 1) := by decide +kernel
theorem dX0_wordBehind_93 : decode cX0_wordBehind 93 = .ok (.goto 4, 3) := by decide +kernel
theorem dX0_wordBehind_96 : decode cX0_wordBehind 96 = .ok (.iconst 0, 1) := by decide +kernel
theorem dX0_wordBehind_97 : decode cX0_wordBehind 97 = .ok (.istore 6, 2) := by decide +kernel
theorem dX0_wordBehind_99 : decode cX0_wordBehind 99 = .ok (.iload 6, 2) := by decide +kernel
theorem dX0_wordBehind_101 : decode cX0_wordBehind 101 = .ok (.ifCond .eq 12, 3) := by decide +kernel
theorem dX0_wordBehind_104 : decode cX0_wordBehind 104 = .ok (.iload_n 2, 1) := by decide +kernel
theorem dX0_wordBehind_105 : decode cX0_wordBehind 105 = .ok (.iload 5, 2) := by decide +kernel
theorem dX0_wordBehind_107 : decode cX0_wordBehind 107 = .ok (.invokestatic 65, 3) := by decide +kernel
theorem dX0_wordBehind_110 : decode cX0_wordBehind 110 = .ok (.goto 4, 3) := by decide +kernel
theorem dX0_wordBehind_113 : decode cX0_wordBehind 113 = .ok (.iconst (-1), 1) := by decide +kernel
theorem dX0_wordBehind_114 : decode cX0_wordBehind 114 = .ok (.ireturn, 1) := by decide +kernel
theorem dX0_wordBehind_115 : decode cX0_wordBehind 115 = .ok (.iload_n 2, 1) := by decide +kernel
theorem dX0_wordBehind_116 : decode cX0_wordBehind 116 = .ok (.ireturn, 1) := by decide +kernel
set_option maxRecDepth 20000 in
theorem ggX0_wordAhead_X0_part : GoodIn wsX0_wordAhead wsX0_part := goodIn_r _ [6, 7, 31, 32, 33, 34] (by decide +kernel) (by decide +kernel)
set_option maxRecDepth 20000 in
theorem gX0_wordAhead_X0_part : GoodIn wsX0_wordAhead (wsV RX0 56 RX0 yX0_part wsX0_part) := goodIn_app (goodIn_of _ (by decide +kernel)) ggX0_wordAhead_X0_part
set_option maxRecDepth 20000 in
theorem ggX0_wordAhead_X6_find : GoodIn wsX0_wordAhead wsX6_find := goodIn_r _ [11] (by decide +kernel) (by decide +kernel)
set_option maxRecDepth 20000 in
theorem gX0_wordAhead_X6_find : GoodIn wsX0_wordAhead (va_wsS RX0 62 yX6_find wsX6_find) := goodIn_app (goodIn_of _ (by decide +kernel)) ggX0_wordAhead_X6_find
set_option maxRecDepth 20000 in
theorem ggX0_wordAhead_X6_size : GoodIn wsX0_wordAhead wsX6_size := goodIn_r _ [14] (by decide +kernel) (by decide +kernel)
set_option maxRecDepth 20000 in
theorem gX0_wordAhead_X6_size : GoodIn wsX0_wordAhead (va_wsS RX0 48 yX6_size wsX6_size) := goodIn_app (goodIn_of _ (by decide +kernel)) ggX0_wordAhead_X6_size
set_option maxRecDepth 20000 in
theorem ggX0_wordAhead_X6_at : GoodIn wsX0_wordAhead wsX6_at := goodIn_r _ [17] (by decide +kernel) (by decide +kernel)
set_option maxRecDepth 20000 in
theorem gX0_wordAhead_X6_at : GoodIn wsX0_wordAhead (va_wsS RX0 68 yX6_at wsX6_at) := goodIn_app (goodIn_of _ (by decide +kernel)) ggX0_wordAhead_X6_at
set_option maxRecDepth 20000 in
theorem ggX0_wordAhead_X6_without : GoodIn wsX0_wordAhead wsX6_without := goodIn_r _ [20] (by decide +kernel) (by decide +kernel)
set_option maxRecDepth 20000 in
theorem gX0_wordAhead_X6_without : GoodIn wsX0_wordAhead (va_wsS RX0 65 yX6_without wsX6_without) := goodIn_app (goodIn_of _ (by decide +kernel)) ggX0_wordAhead_X6_without
set_option maxRecDepth 20000 in
theorem ggX0_wordAhead_X0_wordWith : GoodIn wsX0_wordAhead wsX0_wordWith := goodIn_r _ [24, 1, 25, 26, 10, 27, 12, 13, 14, 28, 29, 30, 31, 32, 33, 34] (by decide +kernel) (by decide +kernel)
set_option maxRecDepth 20000 in
theorem gX0_wordAhead_X0_wordWith : GoodIn wsX0_wordAhead (wsV RX0 59 RX0 yX0_wordWith wsX0_wordWith) := goodIn_app (goodIn_of _ (by decide +kernel)) ggX0_wordAhead_X0_wordWith
set_option maxRecDepth 20000 in
theorem ggX0_wordAhead_X6_with : GoodIn wsX0_wordAhead wsX6_with := goodIn_r _ [30] (by decide +kernel) (by decide +kernel)
set_option maxRecDepth 20000 in
theorem gX0_wordAhead_X6_with : GoodIn wsX0_wordAhead (va_wsS RX0 52 yX6_with wsX6_with) := goodIn_app (goodIn_of _ (by decide +kernel)) ggX0_wordAhead_X6_with
theorem dX0_wordAhead_0 : decode cX0_wordAhead 0 = .ok (.aload_n 0, 1) := by decide +kernel
theorem dX0_wordAhead_1 : decode cX0_wordAhead 1 = .ok (.iload_n 1, 1) := by decide +kernel
theorem dX0_wordAhead_2 : decode cX0_wordAhead 2 = .ok (.iconst 2, 1) := by decide +kernel
theorem dX0_wordAhead_3 : decode cX0_wordAhead 3 = .ok (.invokevirtual 56, 3) := by decide +kernel
theorem dX0_wordAhead_6 : decode cX0_wordAhead 6 = .ok (.istore_n 3, 1) := by decide +kernel
theorem dX0_wordAhead_7 : decode cX0_wordAhead 7 = .ok (.aload_n 0, 1) := by decide +kernel
theorem dX0_wordAhead_8 : decode cX0_wordAhead 8 = .ok (.iload_n 1, 1) := by decide +kernel
theorem dX0_wordAhead_9 : decode cX0_wordAhead 9 = .ok (.iconst 3, 1) := by decide +kernel
theorem dX0_wordAhead_10 : decode cX0_wordAhead 10 = .ok (.invokevirtual 56, 3) := by decide +kernel
theorem dX0_wordAhead_13 : decode cX0_wordAhead 13 = .ok (.istore 4, 2) := by decide +kernel
theorem dX0_wordAhead_15 : decode cX0_wordAhead 15 = .ok (.aload_n 0, 1) := by decide +kernel
theorem dX0_wordAhead_16 : decode cX0_wordAhead 16 = .ok (.iload_n 1, 1) := by decide +kernel
theorem dX0_wordAhead_17 : decode cX0_wordAhead 17 = .ok (.iconst 1, 1) := by decide +kernel
theorem dX0_wordAhead_18 : decode cX0_wordAhead 18 = .ok (.invokevirtual 56, 3) := by decide +kernel
theorem dX0_wordAhead_21 : decode cX0_wordAhead 21 = .ok (.lookupswitch 108 #[(1, 27), (2, 80)], 27) := by decide +kernel
theorem dX0_wordAhead_48 : decode cX0_wordAhead 48 = .ok (.aload_n 0, 1) := by decide +kernel
theorem dX0_wordAhead_49 : decode cX0_wordAhead 49 = .ok (.getfield 15, 3) := by decide +kernel
theorem dX0_wordAhead_52 : decode cX0_wordAhead 52 = .ok (.iload_n 3, 1) := by decide +kernel
theorem dX0_wordAhead_53 : decode cX0_wordAhead 53 = .ok (.baload, 1) := by decide +kernel
theorem dX0_wordAhead_54 : decode cX0_wordAhead 54 = .ok (.ifCond .eq 12, 3) := by decide +kernel
theorem dX0_wordAhead_57 : decode cX0_wordAhead 57 = .ok (.iload_n 2, 1) := by decide +kernel
theorem dX0_wordAhead_58 : decode cX0_wordAhead 58 = .ok (.iload 4, 2) := by decide +kernel
theorem dX0_wordAhead_60 : decode cX0_wordAhead 60 = .ok (.invokestatic 62, 3) := by decide +kernel
theorem dX0_wordAhead_63 : decode cX0_wordAhead 63 = .ok (.goto 9, 3) := by decide +kernel
theorem dX0_wordAhead_66 : decode cX0_wordAhead 66 = .ok (.iload_n 2, 1) := by decide +kernel
theorem dX0_wordAhead_67 : decode cX0_wordAhead 67 = .ok (.invokestatic 48, 3) := by decide +kernel
theorem dX0_wordAhead_70 : decode cX0_wordAhead 70 = .ok (.iconst 1, 1) := by decide +kernel
theorem dX0_wordAhead_71 : decode cX0_wordAhead 71 = .ok (.isub, 1) := by decide +kernel
theorem dX0_wordAhead_72 : decode cX0_wordAhead 72 = .ok (.istore 5, 2) := by decide +kernel
theorem dX0_wordAhead_74 : decode cX0_wordAhead 74 = .ok (.iload 5, 2) := by decide +kernel
theorem dX0_wordAhead_76 : decode cX0_wordAhead 76 = .ok (.ifCond .lt 23, 3) := by decide +kernel
theorem dX0_wordAhead_79 : decode cX0_wordAhead 79 = .ok (.iload_n 2, 1) := by decide +kernel
theorem dX0_wordAhead_80 : decode cX0_wordAhead 80 = .ok (.iload 5, 2) := by decide +kernel
theorem dX0_wordAhead_82 : decode cX0_wordAhead 82 = .ok (.invokestatic 68, 3) := by decide +kernel
theorem dX0_wordAhead_85 : decode cX0_wordAhead 85 = .ok (.iload 4, 2) := by decide +kernel
theorem dX0_wordAhead_87 : decode cX0_wordAhead 87 = .ok (.if_icmp .ne 12, 3) := by decide +kernel
theorem dX0_wordAhead_90 : decode cX0_wordAhead 90 = .ok (.iload_n 2, 1) := by decide +kernel
theorem dX0_wordAhead_91 : decode cX0_wordAhead 91 = .ok (.iload 5, 2) := by decide +kernel
theorem dX0_wordAhead_93 : decode cX0_wordAhead 93 = .ok (.invokestatic 65, 3) := by decide +kernel
theorem dX0_wordAhead_96 : decode cX0_wordAhead 96 = .ok (.goto 4, 3) := by decide +kernel
theorem dX0_wordAhead_99 : decode cX0_wordAhead 99 = .ok (.iload_n 2, 1) := by decide +kernel
theorem dX0_wordAhead_100 : decode cX0_wordAhead 100 = .ok (.ireturn, 1) := by decide +kernel
theorem dX0_wordAhead_101 : decode cX0_wordAhead 101 = .ok (.aload_n 0, 1) := by decide +kernel
theorem dX0_wordAhead_102 : decode cX0_wordAhead 102 = .ok (.getfield 15, 3) := by decide +kernel
theorem dX0_wordAhead_105 : decode cX0_wordAhead 105 = .ok (.iload_n 3, 1) := by decide +kernel
theorem dX0_wordAhead_106 : decode cX0_wordAhead 106 = .ok (.baload, 1) := by decide +kernel
theorem dX0_wordAhead_107 : decode cX0_wordAhead 107 = .ok (.ifCond .eq 14, 3) := by decide +kernel
theorem dX0_wordAhead_110 : decode cX0_wordAhead 110 = .ok (.aload_n 0, 1) := by decide +kernel
theorem dX0_wordAhead_111 : decode cX0_wordAhead 111 = .ok (.iload_n 3, 1) := by decide +kernel
theorem dX0_wordAhead_112 : decode cX0_wordAhead 112 = .ok (.iload_n 2, 1) := by decide +kernel
theorem dX0_wordAhead_113 : decode cX0_wordAhead 113 = .ok (.iload 4, 2) := by decide +kernel
theorem dX0_wordAhead_115 : decode cX0_wordAhead 115 = .ok (.invokevirtual 59, 3) := by decide +kernel
theorem dX0_wordAhead_118 : decode cX0_wordAhead 118 = .ok (.goto 10, 3) := by decide +kernel
theorem dX0_wordAhead_121 : decode cX0_wordAhead 121 = .ok (.iload_n 2, 1) := by decide +kernel
theorem dX0_wordAhead_122 : decode cX0_wordAhead 122 = .ok (.iconst 0, 1) := by decide +kernel
theorem dX0_wordAhead_123 : decode cX0_wordAhead 123 = .ok (.iload 4, 2) := by decide +kernel
theorem dX0_wordAhead_125 : decode cX0_wordAhead 125 = .ok (.invokestatic 52, 3) := by decide +kernel
theorem dX0_wordAhead_128 : decode cX0_wordAhead 128 = .ok (.ireturn, 1) := by decide +kernel
theorem dX0_wordAhead_129 : decode cX0_wordAhead 129 = .ok (.iload_n 2, 1) := by decide +kernel
theorem dX0_wordAhead_130 : decode cX0_wordAhead 130 = .ok (.ireturn, 1) := by decide +kernel
theorem dX1_init_0 : decode cX1_init 0 = .ok (.aload_n 0, 1) := by decide +kernel
theorem dX1_init_1 : decode cX1_init 1 = .ok (.invokespecial 3, 3) := by decide +kernel
theorem dX1_init_4 : decode cX1_init 4 = .ok (.aload_n 0, 1) := by decide +kernel
theorem dX1_init_5 : decode cX1_init 5 = .ok (.iconst 2, 1) := by decide +kernel
theorem dX1_init_6 : decode cX1_init 6 = .ok (.newarray .int, 2) := by decide +kernel
theorem dX1_init_8 : decode cX1_init 8 = .ok (.putfield 9, 3) := by decide +kernel
theorem dX1_init_11 : decode cX1_init 11 = .ok (.return_, 1) := by decide +kernel
theorem dX1_clear_0 : decode cX1_clear 0 = .ok (.aload_n 0, 1) := by decide +kernel
theorem dX1_clear_1 : decode cX1_clear 1 = .ok (.iload_n 1, 1) := by decide +kernel
theorem dX1_clear_2 : decode cX1_clear 2 = .ok (.putfield 15, 3) := by decide +kernel
theorem dX1_clear_5 : decode cX1_clear 5 = .ok (.aload_n 0, 1) := by decide +kernel
theorem dX1_clear_6 : decode cX1_clear 6 = .ok (.getfield 9, 3) := by decide +kernel
theorem dX1_clear_9 : decode cX1_clear 9 = .ok (.iconst 0, 1) := by decide +kernel
theorem dX1_clear_10 : decode cX1_clear 10 = .ok (.iconst 0, 1) := by decide +kernel
theorem dX1_clear_11 : decode cX1_clear 11 = .ok (.iastore, 1) := by decide +kernel
theorem dX1_clear_12 : decode cX1_clear 12 = .ok (.aload_n 0, 1) := by decide +kernel
theorem dX1_clear_13 : decode cX1_clear 13 = .ok (.getfield 9, 3) := by decide +kernel
theorem dX1_clear_16 : decode cX1_clear 16 = .ok (.iconst 1, 1) := by decide +kernel
theorem dX1_clear_17 : decode cX1_clear 17 = .ok (.iconst 0, 1) := by decide +kernel
theorem dX1_clear_18 : decode cX1_clear 18 = .ok (.iastore, 1) := by decide +kernel
theorem dX1_clear_19 : decode cX1_clear 19 = .ok (.return_, 1) := by decide +kernel
set_option maxRecDepth 20000 in
theorem ggX1_isLonger_X6_isLonger : GoodIn wsX1_isLonger wsX6_isLonger := goodIn_r _ [5] (by decide +kernel) (by decide +kernel)
set_option maxRecDepth 20000 in
theorem gX1_isLonger_X6_isLonger : GoodIn wsX1_isLonger (va_wsS RX1 19 yX6_isLonger wsX6_isLonger) := goodIn_app (goodIn_of _ (by decide +kernel)) ggX1_isLonger_X6_isLonger
theorem dX1_isLonger_0 : decode cX1_isLonger 0 = .ok (.aload_n 0, 1) := by decide +kernel
theorem dX1_isLonger_1 : decode cX1_isLonger 1 = .ok (.getfield 9, 3) := by decide +kernel
theorem dX1_isLonger_4 : decode cX1_isLonger 4 = .ok (.iconst 0, 1) := by decide +kernel
theorem dX1_isLonger_5 : decode cX1_isLonger 5 = .ok (.iaload, 1) := by decide +kernel
theorem dX1_isLonger_6 : decode cX1_isLonger 6 = .ok (.iload_n 1, 1) := by decide +kernel
theorem dX1_isLonger_7 : decode cX1_isLonger 7 = .ok (.invokestatic 19, 3) := by decide +kernel
theorem dX1_isLonger_10 : decode cX1_isLonger 10 = .ok (.ifCond .ne 16, 3) := by decide +kernel
theorem dX1_isLonger_13 : decode cX1_isLonger 13 = .ok (.aload_n 0, 1) := by decide +kernel
theorem dX1_isLonger_14 : decode cX1_isLonger 14 = .ok (.getfield 9, 3) := by decide +kernel
theorem dX1_isLonger_17 : decode cX1_isLonger 17 = .ok (.iconst 1, 1) := by decide +kernel
theorem dX1_isLonger_18 : decode cX1_isLonger 18 = .ok (.iaload, 1) := by decide +kernel
theorem dX1_isLonger_19 : decode cX1_isLonger 19 = .ok (.iload_n 1, 1) := by decide +kernel
theorem dX1_isLonger_20 : decode cX1_isLonger 20 = .ok (.invokestatic 19, 3) := by decide +kernel
theorem dX1_isLonger_23 : decode cX1_isLonger 23 = .ok (.ifCond .eq 7, 3) := by decide +kernel
theorem dX1_isLonger_26 : decode cX1_isLonger 26 = .ok (.iconst 1, 1) := by decide +kernel
theorem dX1_isLonger_27 : decode cX1_isLonger 27 = .ok (.goto 4, 3) := by decide +kernel
theorem dX1_isLonger_30 : decode cX1_isLonger 30 = .ok (.iconst 0, 1) := by decide +kernel
theorem dX1_isLonger_31 : decode cX1_isLonger 31 = .ok (.ireturn, 1) := by decide +kernel
theorem dX2_init_0 : decode cX2_init 0 = .ok (.aload_n 0, 1) := by decide +kernel
theorem dX2_init_1 : decode cX2_init 1 = .ok (.invokespecial 3, 3) := by decide +kernel
theorem dX2_init_4 : decode cX2_init 4 = .ok (.aload_n 0, 1) := by decide +kernel
theorem dX2_init_5 : decode cX2_init 5 = .ok (.bipush 80, 2) := by decide +kernel
theorem dX2_init_7 : decode cX2_init 7 = .ok (.newarray .int, 2) := by decide +kernel
theorem dX2_init_9 : decode cX2_init 9 = .ok (.putfield 9, 3) := by decide +kernel
theorem dX2_init_12 : decode cX2_init 12 = .ok (.aload_n 0, 1) := by decide +kernel
theorem dX2_init_13 : decode cX2_init 13 = .ok (.bipush 80, 2) := by decide +kernel
theorem dX2_init_15 : decode cX2_init 15 = .ok (.newarray .int, 2) := by decide +kernel
theorem dX2_init_17 : decode cX2_init 17 = .ok (.putfield 15, 3) := by decide +kernel
theorem dX2_init_20 : decode cX2_init 20 = .ok (.aload_n 0, 1) := by decide +kernel
theorem dX2_init_21 : decode cX2_init 21 = .ok (.bipush 80, 2) := by decide +kernel
theorem dX2_init_23 : decode cX2_init 23 = .ok (.newarray .int, 2) := by decide +kernel
theorem dX2_init_25 : decode cX2_init 25 = .ok (.putfield 18, 3) := by decide +kernel
theorem dX2_init_28 : decode cX2_init 28 = .ok (.aload_n 0, 1) := by decide +kernel
theorem dX2_init_29 : decode cX2_init 29 = .ok (.bipush 80, 2) := by decide +kernel
theorem dX2_init_31 : decode cX2_init 31 = .ok (.newarray .int, 2) := by decide +kernel
theorem dX2_init_33 : decode cX2_init 33 = .ok (.putfield 21, 3) := by decide +kernel
theorem dX2_init_36 : decode cX2_init 36 = .ok (.aload_n 0, 1) := by decide +kernel
theorem dX2_init_37 : decode cX2_init 37 = .ok (.bipush 80, 2) := by decide +kernel
theorem dX2_init_39 : decode cX2_init 39 = .ok (.newarray .int, 2) := by decide +kernel
theorem dX2_init_41 : decode cX2_init 41 = .ok (.putfield 24, 3) := by decide +kernel
theorem dX2_init_44 : decode cX2_init 44 = .ok (.aload_n 0, 1) := by decide +kernel
theorem dX2_init_45 : decode cX2_init 45 = .ok (.bipush 80, 2) := by decide +kernel
theorem dX2_init_47 : decode cX2_init 47 = .ok (.newarray .int, 2) := by decide +kernel
theorem dX2_init_49 : decode cX2_init 49 = .ok (.putfield 27, 3) := by decide +kernel
theorem dX2_init_52 : decode cX2_init 52 = .ok (.return_, 1) := by decide +kernel
set_option maxRecDepth 20000 in
theorem ggX2_run_X2_add : GoodIn wsX2_run wsX2_add := goodIn_r _ [11, 6, 1, 12, 13, 14, 15, 16, 70, 71, 72, 73, 74, 75, 76, 77] (by decide +kernel) (by decide +kernel)
set_option maxRecDepth 20000 in
theorem gX2_run_X2_add : GoodIn wsX2_run (wsV RX2 46 RX2 yX2_add wsX2_add) := goodIn_app (goodIn_of _ (by decide +kernel)) ggX2_run_X2_add
set_option maxRecDepth 20000 in
theorem ggX2_run_X0_part : GoodIn wsX2_run wsX0_part := goodIn_r _ [21, 22, 80, 81, 82, 83] (by decide +kernel) (by decide +kernel)
set_option maxRecDepth 20000 in
theorem gX2_run_X0_part : GoodIn wsX2_run (wsV RX2 53 RX0 yX0_part wsX0_part) := goodIn_app (goodIn_of _ (by decide +kernel)) ggX2_run_X0_part
set_option maxRecDepth 20000 in
theorem ggX2_run_X2_lookAhead : GoodIn wsX2_run wsX2_lookAhead := goodIn_r _ [26, 12, 13, 1, 2, 17, 18, 19, 20, 21, 22, 27, 28, 29, 30, 31, 32, 33, 34, 35, 36, 37, 38, 39, 40, 41, 42, 43, 44, 45, 46, 47, 48, 49, 50, 51, 52, 53, 54, 55, 56, 57, 58, 10, 59, 60, 61, 62, 63, 6, 64, 65, 66, 67, 68, 69, 7, 8, 9, 11, 14, 15, 16, 70, 71, 72, 73, 74, 75, 76, 77, 80, 81, 82, 83] (by decide +kernel) (by decide +kernel)
set_option maxRecDepth 20000 in
theorem gX2_run_X2_lookAhead : GoodIn wsX2_run (wsV RX2 57 RX2 yX2_lookAhead wsX2_lookAhead) := goodIn_app (goodIn_of _ (by decide +kernel)) ggX2_run_X2_lookAhead
theorem dX2_run_0 : decode cX2_run 0 = .ok (.aload_n 0, 1) := by decide +kernel
theorem dX2_run_1 : decode cX2_run 1 = .ok (.iconst 0, 1) := by decide +kernel
theorem dX2_run_2 : decode cX2_run 2 = .ok (.putfield 30, 3) := by decide +kernel
theorem dX2_run_5 : decode cX2_run 5 = .ok (.aload_n 0, 1) := by decide +kernel
theorem dX2_run_6 : decode cX2_run 6 = .ok (.iconst 0, 1) := by decide +kernel
theorem dX2_run_7 : decode cX2_run 7 = .ok (.putfield 34, 3) := by decide +kernel
theorem dX2_run_10 : decode cX2_run 10 = .ok (.aload_n 0, 1) := by decide +kernel
theorem dX2_run_11 : decode cX2_run 11 = .ok (.aload_n 2, 1) := by decide +kernel
theorem dX2_run_12 : decode cX2_run 12 = .ok (.getfield 38, 3) := by decide +kernel
theorem dX2_run_15 : decode cX2_run 15 = .ok (.aload_n 2, 1) := by decide +kernel
theorem dX2_run_16 : decode cX2_run 16 = .ok (.getfield 43, 3) := by decide +kernel
theorem dX2_run_19 : decode cX2_run 19 = .ok (.iconst 0, 1) := by decide +kernel
theorem dX2_run_20 : decode cX2_run 20 = .ok (.iaload, 1) := by decide +kernel
theorem dX2_run_21 : decode cX2_run 21 = .ok (.aload_n 2, 1) := by decide +kernel
theorem dX2_run_22 : decode cX2_run 22 = .ok (.getfield 43, 3) := by decide +kernel
theorem dX2_run_25 : decode cX2_run 25 = .ok (.iconst 1, 1) := by decide +kernel
theorem dX2_run_26 : decode cX2_run 26 = .ok (.iaload, 1) := by decide +kernel
theorem dX2_run_27 : decode cX2_run 27 = .ok (.bipush (-2), 2) := by decide +kernel
theorem dX2_run_29 : decode cX2_run 29 = .ok (.bipush (-2), 2) := by decide +kernel
theorem dX2_run_31 : decode cX2_run 31 = .ok (.invokevirtual 46, 3) := by decide +kernel
theorem dX2_run_34 : decode cX2_run 34 = .ok (.iconst 0, 1) := by decide +kernel
theorem dX2_run_35 : decode cX2_run 35 = .ok (.istore_n 3, 1) := by decide +kernel
theorem dX2_run_36 : decode cX2_run 36 = .ok (.iload_n 3, 1) := by decide +kernel
theorem dX2_run_37 : decode cX2_run 37 = .ok (.bipush 80, 2) := by decide +kernel
theorem dX2_run_39 : decode cX2_run 39 = .ok (.if_icmp .ge 73, 3) := by decide +kernel
theorem dX2_run_42 : decode cX2_run 42 = .ok (.iload_n 3, 1) := by decide +kernel
theorem dX2_run_43 : decode cX2_run 43 = .ok (.aload_n 0, 1) := by decide +kernel
theorem dX2_run_44 : decode cX2_run 44 = .ok (.getfield 30, 3) := by decide +kernel
theorem dX2_run_47 : decode cX2_run 47 = .ok (.if_icmp .ge 65, 3) := by decide +kernel
theorem dX2_run_50 : decode cX2_run 50 = .ok (.aload_n 0, 1) := by decide +kernel
theorem dX2_run_51 : decode cX2_run 51 = .ok (.getfield 34, 3) := by decide +kernel
theorem dX2_run_54 : decode cX2_run 54 = .ok (.ifCond .ne 58, 3) := by decide +kernel
theorem dX2_run_57 : decode cX2_run 57 = .ok (.iconst 0, 1) := by decide +kernel
theorem dX2_run_58 : decode cX2_run 58 = .ok (.istore 4, 2) := by decide +kernel
theorem dX2_run_60 : decode cX2_run 60 = .ok (.iload 4, 2) := by decide +kernel
theorem dX2_run_62 : decode cX2_run 62 = .ok (.aload_n 1, 1) := by decide +kernel
theorem dX2_run_63 : decode cX2_run 63 = .ok (.getfield 50, 3) := by decide +kernel
theorem dX2_run_66 : decode cX2_run 66 = .ok (.if_icmp .ge 40, 3) := by decide +kernel
theorem dX2_run_69 : decode cX2_run 69 = .ok (.aload_n 0, 1) := by decide +kernel
theorem dX2_run_70 : decode cX2_run 70 = .ok (.getfield 34, 3) := by decide +kernel
theorem dX2_run_73 : decode cX2_run 73 = .ok (.ifCond .ne 33, 3) := by decide +kernel
theorem dX2_run_76 : decode cX2_run 76 = .ok (.aload_n 1, 1) := by decide +kernel
theorem dX2_run_77 : decode cX2_run 77 = .ok (.iload 4, 2) := by decide +kernel
theorem dX2_run_79 : decode cX2_run 79 = .ok (.iconst 4, 1) := by decide +kernel
theorem dX2_run_80 : decode cX2_run 80 = .ok (.invokevirtual 53, 3) := by decide +kernel
theorem dX2_run_83 : decode cX2_run 83 = .ok (.aload_n 0, 1) := by decide +kernel
theorem dX2_run_84 : decode cX2_run 84 = .ok (.getfield 15, 3) := by decide +kernel
theorem dX2_run_87 : decode cX2_run 87 = .ok (.iload_n 3, 1) := by decide +kernel
theorem dX2_run_88 : decode cX2_run 88 = .ok (.iaload, 1) := by decide +kernel
theorem dX2_run_89 : decode cX2_run 89 = .ok (.if_icmp .ne 11, 3) := by decide +kernel
theorem dX2_run_92 : decode cX2_run 92 = .ok (.aload_n 0, 1) := by decide +kernel
theorem dX2_run_93 : decode cX2_run 93 = .ok (.aload_n 1, 1) := by decide +kernel
theorem dX2_run_94 : decode cX2_run 94 = .ok (.iload 4, 2) := by decide +kernel
theorem dX2_run_96 : decode cX2_run 96 = .ok (.iload_n 3, 1) := by decide +kernel
theorem dX2_run_97 : decode cX2_run 97 = .ok (.invokevirtual 57, 3) := by decide +kernel
theorem dX2_run_100 : decode cX2_run 100 = .ok (.iinc 4 1, 3) := by decide +kernel
theorem dX2_run_103 : decode cX2_run 103 = .ok (.goto (-43), 3) := by decide +kernel
theorem dX2_run_106 : decode cX2_run 106 = .ok (.iinc 3 1, 3) := by decide +kernel
theorem dX2_run_109 : decode cX2_run 109 = .ok (.goto (-73), 3) := by decide +kernel
theorem dX2_run_112 : decode cX2_run 112 = .ok (.return_, 1) := by decide +kernel
set_option maxRecDepth 20000 in
theorem ggX2_lookAhead_X0_part : GoodIn wsX2_lookAhead wsX0_part := goodIn_r _ [9, 10, 71, 72, 73, 74] (by decide +kernel) (by decide +kernel)
set_option maxRecDepth 20000 in
theorem gX2_lookAhead_X0_part : GoodIn wsX2_lookAhead (wsV RX2 53 RX0 yX0_part wsX0_part) := goodIn_app (goodIn_of _ (by decide +kernel)) ggX2_lookAhead_X0_part
set_option maxRecDepth 20000 in
theorem ggX2_lookAhead_X0_wordAhead : GoodIn wsX2_lookAhead wsX0_wordAhead := goodIn_r _ [14, 15, 16, 6, 7, 8, 9, 10, 17, 18, 19, 20, 21, 22, 23, 24, 25, 26, 27, 28, 29, 30, 31, 32, 33, 34, 35, 36, 37, 38, 39, 71, 72, 73, 74] (by decide +kernel) (by decide +kernel)
set_option maxRecDepth 20000 in
theorem gX2_lookAhead_X0_wordAhead : GoodIn wsX2_lookAhead (wsV RX2 61 RX0 yX0_wordAhead wsX0_wordAhead) := goodIn_app (goodIn_of _ (by decide +kernel)) ggX2_lookAhead_X0_wordAhead
set_option maxRecDepth 20000 in
theorem ggX2_lookAhead_X2_firstBelow : GoodIn wsX2_lookAhead wsX2_firstBelow := goodIn_r _ [44, 3, 45, 46, 47, 43, 48, 49, 1, 2, 50, 51, 19, 52, 63, 64, 65, 66, 67, 68, 69, 70] (by decide +kernel) (by decide +kernel)
set_option maxRecDepth 20000 in
theorem gX2_lookAhead_X2_firstBelow : GoodIn wsX2_lookAhead (wsV RX2 64 RX2 yX2_firstBelow wsX2_firstBelow) := goodIn_app (goodIn_of _ (by decide +kernel)) ggX2_lookAhead_X2_firstBelow
set_option maxRecDepth 20000 in
theorem ggX2_lookAhead_X6_isLonger : GoodIn wsX2_lookAhead wsX6_isLonger := goodIn_r _ [55] (by decide +kernel) (by decide +kernel)
set_option maxRecDepth 20000 in
theorem gX2_lookAhead_X6_isLonger : GoodIn wsX2_lookAhead (va_wsS RX2 68 yX6_isLonger wsX6_isLonger) := goodIn_app (goodIn_of _ (by decide +kernel)) ggX2_lookAhead_X6_isLonger
set_option maxRecDepth 20000 in
theorem ggX2_lookAhead_X2_add : GoodIn wsX2_lookAhead wsX2_add := goodIn_r _ [59, 49, 3, 1, 2, 60, 61, 62, 63, 64, 65, 66, 67, 68, 69, 70] (by decide +kernel) (by decide +kernel)
set_option maxRecDepth 20000 in
theorem gX2_lookAhead_X2_add : GoodIn wsX2_lookAhead (wsV RX2 46 RX2 yX2_add wsX2_add) := goodIn_app (goodIn_of _ (by decide +kernel)) ggX2_lookAhead_X2_add
theorem dX2_lookAhead_0 : decode cX2_lookAhead 0 = .ok (.aload_n 1, 1) := by decide +kernel
theorem dX2_lookAhead_1 : decode cX2_lookAhead 1 = .ok (.iload_n 2, 1) := by decide +kernel
theorem dX2_lookAhead_2 : decode cX2_lookAhead 2 = .ok (.iconst 0, 1) := by decide +kernel
theorem dX2_lookAhead_3 : decode cX2_lookAhead 3 = .ok (.invokevirtual 53, 3) := by decide +kernel
theorem dX2_lookAhead_6 : decode cX2_lookAhead 6 = .ok (.istore 4, 2) := by decide +kernel
theorem dX2_lookAhead_8 : decode cX2_lookAhead 8 = .ok (.aload_n 1, 1) := by decide +kernel
theorem dX2_lookAhead_9 : decode cX2_lookAhead 9 = .ok (.iload_n 2, 1) := by decide +kernel
theorem dX2_lookAhead_10 : decode cX2_lookAhead 10 = .ok (.iconst 2, 1) := by decide +kernel
theorem dX2_lookAhead_11 : decode cX2_lookAhead 11 = .ok (.invokevirtual 53, 3) := by decide +kernel
theorem dX2_lookAhead_14 : decode cX2_lookAhead 14 = .ok (.istore 5, 2) := by decide +kernel
theorem dX2_lookAhead_16 : decode cX2_lookAhead 16 = .ok (.iload 5, 2) := by decide +kernel
theorem dX2_lookAhead_18 : decode cX2_lookAhead 18 = .ok (.ifCond .ne 17, 3) := by decide +kernel
theorem dX2_lookAhead_21 : decode cX2_lookAhead 21 = .ok (.aload_n 1, 1) := by decide +kernel
theorem dX2_lookAhead_22 : decode cX2_lookAhead 22 = .ok (.iload_n 2, 1) := by decide +kernel
theorem dX2_lookAhead_23 : decode cX2_lookAhead 23 = .ok (.aload_n 0, 1) := by decide +kernel
theorem dX2_lookAhead_24 : decode cX2_lookAhead 24 = .ok (.getfield 18, 3) := by decide +kernel
theorem dX2_lookAhead_27 : decode cX2_lookAhead 27 = .ok (.iload_n 3, 1) := by decide +kernel
theorem dX2_lookAhead_28 : decode cX2_lookAhead 28 = .ok (.iaload, 1) := by decide +kernel
theorem dX2_lookAhead_29 : decode cX2_lookAhead 29 = .ok (.invokevirtual 61, 3) := by decide +kernel
theorem dX2_lookAhead_32 : decode cX2_lookAhead 32 = .ok (.goto 9, 3) := by decide +kernel
theorem dX2_lookAhead_35 : decode cX2_lookAhead 35 = .ok (.aload_n 0, 1) := by decide +kernel
theorem dX2_lookAhead_36 : decode cX2_lookAhead 36 = .ok (.getfield 18, 3) := by decide +kernel
theorem dX2_lookAhead_39 : decode cX2_lookAhead 39 = .ok (.iload_n 3, 1) := by decide +kernel
theorem dX2_lookAhead_40 : decode cX2_lookAhead 40 = .ok (.iaload, 1) := by decide +kernel
theorem dX2_lookAhead_41 : decode cX2_lookAhead 41 = .ok (.istore 6, 2) := by decide +kernel
theorem dX2_lookAhead_43 : decode cX2_lookAhead 43 = .ok (.iload 5, 2) := by decide +kernel
theorem dX2_lookAhead_45 : decode cX2_lookAhead 45 = .ok (.iconst 1, 1) := by decide +kernel
theorem dX2_lookAhead_46 : decode cX2_lookAhead 46 = .ok (.if_icmp .ne 17, 3) := by decide +kernel
theorem dX2_lookAhead_49 : decode cX2_lookAhead 49 = .ok (.aload_n 1, 1) := by decide +kernel
theorem dX2_lookAhead_50 : decode cX2_lookAhead 50 = .ok (.iload_n 2, 1) := by decide +kernel
theorem dX2_lookAhead_51 : decode cX2_lookAhead 51 = .ok (.aload_n 0, 1) := by decide +kernel
theorem dX2_lookAhead_52 : decode cX2_lookAhead 52 = .ok (.getfield 21, 3) := by decide +kernel
theorem dX2_lookAhead_55 : decode cX2_lookAhead 55 = .ok (.iload_n 3, 1) := by decide +kernel
theorem dX2_lookAhead_56 : decode cX2_lookAhead 56 = .ok (.iaload, 1) := by decide +kernel
theorem dX2_lookAhead_57 : decode cX2_lookAhead 57 = .ok (.invokevirtual 61, 3) := by decide +kernel
theorem dX2_lookAhead_60 : decode cX2_lookAhead 60 = .ok (.goto 9, 3) := by decide +kernel
theorem dX2_lookAhead_63 : decode cX2_lookAhead 63 = .ok (.aload_n 0, 1) := by decide +kernel
theorem dX2_lookAhead_64 : decode cX2_lookAhead 64 = .ok (.getfield 21, 3) := by decide +kernel
theorem dX2_lookAhead_67 : decode cX2_lookAhead 67 = .ok (.iload_n 3, 1) := by decide +kernel
theorem dX2_lookAhead_68 : decode cX2_lookAhead 68 = .ok (.iaload, 1) := by decide +kernel
theorem dX2_lookAhead_69 : decode cX2_lookAhead 69 = .ok (.istore 7, 2) := by decide +kernel
theorem dX2_lookAhead_71 : decode cX2_lookAhead 71 = .ok (.aload_n 0, 1) := by decide +kernel
theorem dX2_lookAhead_72 : decode cX2_lookAhead 72 = .ok (.iload 4, 2) := by decide +kernel
theorem dX2_lookAhead_74 : decode cX2_lookAhead 74 = .ok (.iload 6, 2) := by decide +kernel
theorem dX2_lookAhead_76 : decode cX2_lookAhead 76 = .ok (.iload 7, 2) := by decide +kernel
theorem dX2_lookAhead_78 : decode cX2_lookAhead 78 = .ok (.invokevirtual 64, 3) := by decide +kernel
theorem dX2_lookAhead_81 : decode cX2_lookAhead 81 = .ok (.ifCond .lt 4, 3) := by decide +kernel
theorem dX2_lookAhead_84 : decode cX2_lookAhead 84 = .ok (.return_, 1) := by decide +kernel
theorem dX2_lookAhead_85 : decode cX2_lookAhead 85 = .ok (.aload_n 0, 1) := by decide +kernel
theorem dX2_lookAhead_86 : decode cX2_lookAhead 86 = .ok (.getfield 30, 3) := by decide +kernel
theorem dX2_lookAhead_89 : decode cX2_lookAhead 89 = .ok (.bipush 80, 2) := by decide +kernel
theorem dX2_lookAhead_91 : decode cX2_lookAhead 91 = .ok (.if_icmp .ge 23, 3) := by decide +kernel
theorem dX2_lookAhead_94 : decode cX2_lookAhead 94 = .ok (.iload 6, 2) := by decide +kernel
theorem dX2_lookAhead_96 : decode cX2_lookAhead 96 = .ok (.bipush 10, 2) := by decide +kernel
theorem dX2_lookAhead_98 : decode cX2_lookAhead 98 = .ok (.invokestatic 68, 3) := by decide +kernel
theorem dX2_lookAhead_101 : decode cX2_lookAhead 101 = .ok (.ifCond .ne 13, 3) := by decide +kernel
theorem dX2_lookAhead_104 : decode cX2_lookAhead 104 = .ok (.iload 7, 2) := by decide +kernel
theorem dX2_lookAhead_106 : decode cX2_lookAhead 106 = .ok (.bipush 10, 2) := by decide +kernel
theorem dX2_lookAhead_108 : decode cX2_lookAhead 108 = .ok (.invokestatic 68, 3) := by decide +kernel
theorem dX2_lookAhead_111 : decode cX2_lookAhead 111 = .ok (.ifCond .eq 9, 3) := by decide +kernel
theorem dX2_lookAhead_114 : decode cX2_lookAhead 114 = .ok (.aload_n 0, 1) := by decide +kernel
theorem dX2_lookAhead_115 : decode cX2_lookAhead 115 = .ok (.iconst 1, 1) := by decide +kernel
theorem dX2_lookAhead_116 : decode cX2_lookAhead 116 = .ok (.putfield 34, 3) := by decide +kernel
theorem dX2_lookAhead_119 : decode cX2_lookAhead 119 = .ok (.return_, 1) := by decide +kernel
theorem dX2_lookAhead_120 : decode cX2_lookAhead 120 = .ok (.aload_n 0, 1) := by decide +kernel
theorem dX2_lookAhead_121 : decode cX2_lookAhead 121 = .ok (.iload 4, 2) := by decide +kernel
theorem dX2_lookAhead_123 : decode cX2_lookAhead 123 = .ok (.iload 6, 2) := by decide +kernel
theorem dX2_lookAhead_125 : decode cX2_lookAhead 125 = .ok (.iload 7, 2) := by decide +kernel
theorem dX2_lookAhead_127 : decode cX2_lookAhead 127 = .ok (.iload_n 2, 1) := by decide +kernel
theorem dX2_lookAhead_128 : decode cX2_lookAhead 128 = .ok (.iload_n 3, 1) := by decide +kernel
theorem dX2_lookAhead_129 : decode cX2_lookAhead 129 = .ok (.invokevirtual 46, 3) := by decide +kernel
theorem dX2_lookAhead_132 : decode cX2_lookAhead 132 = .ok (.return_, 1) := by decide +kernel
theorem dX2_add_0 : decode cX2_add 0 = .ok (.aload_n 0, 1) := by decide +kernel
theorem dX2_add_1 : decode cX2_add 1 = .ok (.getfield 15, 3) := by decide +kernel
theorem dX2_add_4 : decode cX2_add 4 = .ok (.aload_n 0, 1) := by decide +kernel
theorem dX2_add_5 : decode cX2_add 5 = .ok (.getfield 30, 3) := by decide +kernel
theorem dX2_add_8 : decode cX2_add 8 = .ok (.iload_n 1, 1) := by decide +kernel
theorem dX2_add_9 : decode cX2_add 9 = .ok (.iastore, 1) := by decide +kernel
theorem dX2_add_10 : decode cX2_add 10 = .ok (.aload_n 0, 1) := by decide +kernel
theorem dX2_add_11 : decode cX2_add 11 = .ok (.getfield 18, 3) := by decide +kernel
theorem dX2_add_14 : decode cX2_add 14 = .ok (.aload_n 0, 1) := by decide +kernel
theorem dX2_add_15 : decode cX2_add 15 = .ok (.getfield 30, 3) := by decide +kernel
theorem dX2_add_18 : decode cX2_add 18 = .ok (.iload_n 2, 1) := by decide +kernel
theorem dX2_add_19 : decode cX2_add 19 = .ok (.iastore, 1) := by decide +kernel
theorem dX2_add_20 : decode cX2_add 20 = .ok (.aload_n 0, 1) := by decide +kernel
theorem dX2_add_21 : decode cX2_add 21 = .ok (.getfield 21, 3) := by decide +kernel
theorem dX2_add_24 : decode cX2_add 24 = .ok (.aload_n 0, 1) := by decide +kernel
theorem dX2_add_25 : decode cX2_add 25 = .ok (.getfield 30, 3) := by decide +kernel
theorem dX2_add_28 : decode cX2_add 28 = .ok (.iload_n 3, 1) := by decide +kernel
theorem dX2_add_29 : decode cX2_add 29 = .ok (.iastore, 1) := by decide +kernel
theorem dX2_add_30 : decode cX2_add 30 = .ok (.aload_n 0, 1) := by decide +kernel
theorem dX2_add_31 : decode cX2_add 31 = .ok (.getfield 24, 3) := by decide +kernel
theorem dX2_add_34 : decode cX2_add 34 = .ok (.aload_n 0, 1) := by decide +kernel
theorem dX2_add_35 : decode cX2_add 35 = .ok (.getfield 30, 3) := by decide +kernel
theorem dX2_add_38 : decode cX2_add 38 = .ok (.iload 4, 2) := by decide +kernel
theorem dX2_add_40 : decode cX2_add 40 = .ok (.iastore, 1) := by decide +kernel
theorem dX2_add_41 : decode cX2_add 41 = .ok (.aload_n 0, 1) := by decide +kernel
theorem dX2_add_42 : decode cX2_add 42 = .ok (.getfield 27, 3) := by decide +kernel
theorem dX2_add_45 : decode cX2_add 45 = .ok (.aload_n 0, 1) := by decide +kernel
theorem dX2_add_46 : decode cX2_add 46 = .ok (.getfield 30, 3) := by decide +kernel
theorem dX2_add_49 : decode cX2_add 49 = .ok (.iload 5, 2) := by decide +kernel
theorem dX2_add_51 : decode cX2_add 51 = .ok (.iastore, 1) := by decide +kernel
theorem dX2_add_52 : decode cX2_add 52 = .ok (.aload_n 0, 1) := by decide +kernel
theorem dX2_add_53 : decode cX2_add 53 = .ok (.getfield 9, 3) := by decide +kernel
theorem dX2_add_56 : decode cX2_add 56 = .ok (.aload_n 0, 1) := by decide +kernel
theorem dX2_add_57 : decode cX2_add 57 = .ok (.getfield 30, 3) := by decide +kernel
theorem dX2_add_60 : decode cX2_add 60 = .ok (.iload 5, 2) := by decide +kernel
theorem dX2_add_62 : decode cX2_add 62 = .ok (.ifCond .ge 7, 3) := by decide +kernel
theorem dX2_add_65 : decode cX2_add 65 = .ok (.iconst 0, 1) := by decide +kernel
theorem dX2_add_66 : decode cX2_add 66 = .ok (.goto 12, 3) := by decide +kernel
theorem dX2_add_69 : decode cX2_add 69 = .ok (.aload_n 0, 1) := by decide +kernel
theorem dX2_add_70 : decode cX2_add 70 = .ok (.getfield 9, 3) := by decide +kernel
theorem dX2_add_73 : decode cX2_add 73 = .ok (.iload 5, 2) := by decide +kernel
theorem dX2_add_75 : decode cX2_add 75 = .ok (.iaload, 1) := by decide +kernel
theorem dX2_add_76 : decode cX2_add 76 = .ok (.iconst 1, 1) := by decide +kernel
theorem dX2_add_77 : decode cX2_add 77 = .ok (.iadd, 1) := by decide +kernel
theorem dX2_add_78 : decode cX2_add 78 = .ok (.iastore, 1) := by decide +kernel
theorem dX2_add_79 : decode cX2_add 79 = .ok (.aload_n 0, 1) := by decide +kernel
theorem dX2_add_80 : decode cX2_add 80 = .ok (.dup, 1) := by decide +kernel
theorem dX2_add_81 : decode cX2_add 81 = .ok (.getfield 30, 3) := by decide +kernel
theorem dX2_add_84 : decode cX2_add 84 = .ok (.iconst 1, 1) := by decide +kernel
theorem dX2_add_85 : decode cX2_add 85 = .ok (.iadd, 1) := by decide +kernel
theorem dX2_add_86 : decode cX2_add 86 = .ok (.putfield 30, 3) := by decide +kernel
theorem dX2_add_89 : decode cX2_add 89 = .ok (.return_, 1) := by decide +kernel
set_option maxRecDepth 20000 in
theorem ggX2_firstBelow_X2_isBelowPlace : GoodIn wsX2_firstBelow wsX2_isBelowPlace := goodIn_r _ [6, 7, 8, 9, 10, 11, 12, 13, 14, 15, 16, 17, 18, 19, 20, 21] (by decide +kernel) (by decide +kernel)
set_option maxRecDepth 20000 in
theorem gX2_firstBelow_X2_isBelowPlace : GoodIn wsX2_firstBelow (wsV RX2 74 RX2 yX2_isBelowPlace wsX2_isBelowPlace) := goodIn_app (goodIn_of _ (by decide +kernel)) ggX2_firstBelow_X2_isBelowPlace
theorem dX2_firstBelow_0 : decode cX2_firstBelow 0 = .ok (.iconst 0, 1) := by decide +kernel
theorem dX2_firstBelow_1 : decode cX2_firstBelow 1 = .ok (.istore 4, 2) := by decide +kernel
theorem dX2_firstBelow_3 : decode cX2_firstBelow 3 = .ok (.iload 4, 2) := by decide +kernel
theorem dX2_firstBelow_5 : decode cX2_firstBelow 5 = .ok (.aload_n 0, 1) := by decide +kernel
theorem dX2_firstBelow_6 : decode cX2_firstBelow 6 = .ok (.getfield 30, 3) := by decide +kernel
theorem dX2_firstBelow_9 : decode cX2_firstBelow 9 = .ok (.if_icmp .ge 24, 3) := by decide +kernel
theorem dX2_firstBelow_12 : decode cX2_firstBelow 12 = .ok (.aload_n 0, 1) := by decide +kernel
theorem dX2_firstBelow_13 : decode cX2_firstBelow 13 = .ok (.iload 4, 2) := by decide +kernel
theorem dX2_firstBelow_15 : decode cX2_firstBelow 15 = .ok (.iload_n 1, 1) := by decide +kernel
theorem dX2_firstBelow_16 : decode cX2_firstBelow 16 = .ok (.iload_n 2, 1) := by decide +kernel
theorem dX2_firstBelow_17 : decode cX2_firstBelow 17 = .ok (.iload_n 3, 1) := by decide +kernel
theorem dX2_firstBelow_18 : decode cX2_firstBelow 18 = .ok (.invokevirtual 74, 3) := by decide +kernel
theorem dX2_firstBelow_21 : decode cX2_firstBelow 21 = .ok (.ifCond .eq 6, 3) := by decide +kernel
theorem dX2_firstBelow_24 : decode cX2_firstBelow 24 = .ok (.iload 4, 2) := by decide +kernel
theorem dX2_firstBelow_26 : decode cX2_firstBelow 26 = .ok (.ireturn, 1) := by decide +kernel
theorem dX2_firstBelow_27 : decode cX2_firstBelow 27 = .ok (.iinc 4 1, 3) := by decide +kernel
theorem dX2_firstBelow_30 : decode cX2_firstBelow 30 = .ok (.goto (-27), 3) := by decide +kernel
theorem dX2_firstBelow_33 : decode cX2_firstBelow 33 = .ok (.iconst (-1), 1) := by decide +kernel
theorem dX2_firstBelow_34 : decode cX2_firstBelow 34 = .ok (.ireturn, 1) := by decide +kernel
set_option maxRecDepth 20000 in
theorem ggX2_isBelowPlace_X6_isIn : GoodIn wsX2_isBelowPlace wsX6_isIn := goodIn_r _ [7] (by decide +kernel) (by decide +kernel)
set_option maxRecDepth 20000 in
theorem gX2_isBelowPlace_X6_isIn : GoodIn wsX2_isBelowPlace (va_wsS RX2 78 yX6_isIn wsX6_isIn) := goodIn_app (goodIn_of _ (by decide +kernel)) ggX2_isBelowPlace_X6_isIn
theorem dX2_isBelowPlace_0 : decode cX2_isBelowPlace 0 = .ok (.aload_n 0, 1) := by decide +kernel
theorem dX2_isBelowPlace_1 : decode cX2_isBelowPlace 1 = .ok (.getfield 15, 3) := by decide +kernel
theorem dX2_isBelowPlace_4 : decode cX2_isBelowPlace 4 = .ok (.iload_n 1, 1) := by decide +kernel
theorem dX2_isBelowPlace_5 : decode cX2_isBelowPlace 5 = .ok (.iaload, 1) := by decide +kernel
theorem dX2_isBelowPlace_6 : decode cX2_isBelowPlace 6 = .ok (.iload_n 2, 1) := by decide +kernel
theorem dX2_isBelowPlace_7 : decode cX2_isBelowPlace 7 = .ok (.if_icmp .ne 34, 3) := by decide +kernel
theorem dX2_isBelowPlace_10 : decode cX2_isBelowPlace 10 = .ok (.aload_n 0, 1) := by decide +kernel
theorem dX2_isBelowPlace_11 : decode cX2_isBelowPlace 11 = .ok (.getfield 18, 3) := by decide +kernel
theorem dX2_isBelowPlace_14 : decode cX2_isBelowPlace 14 = .ok (.iload_n 1, 1) := by decide +kernel
theorem dX2_isBelowPlace_15 : decode cX2_isBelowPlace 15 = .ok (.iaload, 1) := by decide +kernel
theorem dX2_isBelowPlace_16 : decode cX2_isBelowPlace 16 = .ok (.iload_n 3, 1) := by decide +kernel
theorem dX2_isBelowPlace_17 : decode cX2_isBelowPlace 17 = .ok (.invokestatic 78, 3) := by decide +kernel
theorem dX2_isBelowPlace_20 : decode cX2_isBelowPlace 20 = .ok (.ifCond .eq 21, 3) := by decide +kernel
theorem dX2_isBelowPlace_23 : decode cX2_isBelowPlace 23 = .ok (.aload_n 0, 1) := by decide +kernel
theorem dX2_isBelowPlace_24 : decode cX2_isBelowPlace 24 = .ok (.getfield 21, 3) := by decide +kernel
theorem dX2_isBelowPlace_27 : decode cX2_isBelowPlace 27 = .ok (.iload_n 1, 1) := by decide +kernel
theorem dX2_isBelowPlace_28 : decode cX2_isBelowPlace 28 = .ok (.iaload, 1) := by decide +kernel
theorem dX2_isBelowPlace_29 : decode cX2_isBelowPlace 29 = .ok (.iload 4, 2) := by decide +kernel
theorem dX2_isBelowPlace_31 : decode cX2_isBelowPlace 31 = .ok (.invokestatic 78, 3) := by decide +kernel
theorem dX2_isBelowPlace_34 : decode cX2_isBelowPlace 34 = .ok (.ifCond .eq 7, 3) := by decide +kernel
theorem dX2_isBelowPlace_37 : decode cX2_isBelowPlace 37 = .ok (.iconst 1, 1) := by decide +kernel
theorem dX2_isBelowPlace_38 : decode cX2_isBelowPlace 38 = .ok (.goto 4, 3) := by decide +kernel
theorem dX2_isBelowPlace_41 : decode cX2_isBelowPlace 41 = .ok (.iconst 0, 1) := by decide +kernel
theorem dX2_isBelowPlace_42 : decode cX2_isBelowPlace 42 = .ok (.ireturn, 1) := by decide +kernel
set_option maxRecDepth 20000 in
theorem ggX2_isLeast_X2_isBelowPlace : GoodIn wsX2_isLeast wsX2_isBelowPlace := goodIn_r _ [9, 2, 3, 4, 10, 11, 12, 13, 14, 15, 16, 17, 18, 19, 20, 21] (by decide +kernel) (by decide +kernel)
set_option maxRecDepth 20000 in
theorem gX2_isLeast_X2_isBelowPlace : GoodIn wsX2_isLeast (wsV RX2 74 RX2 yX2_isBelowPlace wsX2_isBelowPlace) := goodIn_app (goodIn_of _ (by decide +kernel)) ggX2_isLeast_X2_isBelowPlace
theorem dX2_isLeast_0 : decode cX2_isLeast 0 = .ok (.iconst 0, 1) := by decide +kernel
theorem dX2_isLeast_1 : decode cX2_isLeast 1 = .ok (.istore_n 2, 1) := by decide +kernel
theorem dX2_isLeast_2 : decode cX2_isLeast 2 = .ok (.iload_n 2, 1) := by decide +kernel
theorem dX2_isLeast_3 : decode cX2_isLeast 3 = .ok (.aload_n 0, 1) := by decide +kernel
theorem dX2_isLeast_4 : decode cX2_isLeast 4 = .ok (.getfield 30, 3) := by decide +kernel
theorem dX2_isLeast_7 : decode cX2_isLeast 7 = .ok (.if_icmp .ge 42, 3) := by decide +kernel
theorem dX2_isLeast_10 : decode cX2_isLeast 10 = .ok (.iload_n 2, 1) := by decide +kernel
theorem dX2_isLeast_11 : decode cX2_isLeast 11 = .ok (.iload_n 1, 1) := by decide +kernel
theorem dX2_isLeast_12 : decode cX2_isLeast 12 = .ok (.if_icmp .eq 31, 3) := by decide +kernel
theorem dX2_isLeast_15 : decode cX2_isLeast 15 = .ok (.aload_n 0, 1) := by decide +kernel
theorem dX2_isLeast_16 : decode cX2_isLeast 16 = .ok (.iload_n 2, 1) := by decide +kernel
theorem dX2_isLeast_17 : decode cX2_isLeast 17 = .ok (.aload_n 0, 1) := by decide +kernel
theorem dX2_isLeast_18 : decode cX2_isLeast 18 = .ok (.getfield 15, 3) := by decide +kernel
theorem dX2_isLeast_21 : decode cX2_isLeast 21 = .ok (.iload_n 1, 1) := by decide +kernel
theorem dX2_isLeast_22 : decode cX2_isLeast 22 = .ok (.iaload, 1) := by decide +kernel
theorem dX2_isLeast_23 : decode cX2_isLeast 23 = .ok (.aload_n 0, 1) := by decide +kernel
theorem dX2_isLeast_24 : decode cX2_isLeast 24 = .ok (.getfield 18, 3) := by decide +kernel
theorem dX2_isLeast_27 : decode cX2_isLeast 27 = .ok (.iload_n 1, 1) := by decide +kernel
theorem dX2_isLeast_28 : decode cX2_isLeast 28 = .ok (.iaload, 1) := by decide +kernel
theorem dX2_isLeast_29 : decode cX2_isLeast 29 = .ok (.aload_n 0, 1) := by decide +kernel
theorem dX2_isLeast_30 : decode cX2_isLeast 30 = .ok (.getfield 21, 3) := by decide +kernel
theorem dX2_isLeast_33 : decode cX2_isLeast 33 = .ok (.iload_n 1, 1) := by decide +kernel
theorem dX2_isLeast_34 : decode cX2_isLeast 34 = .ok (.iaload, 1) := by decide +kernel
theorem dX2_isLeast_35 : decode cX2_isLeast 35 = .ok (.invokevirtual 74, 3) := by decide +kernel
theorem dX2_isLeast_38 : decode cX2_isLeast 38 = .ok (.ifCond .eq 5, 3) := by decide +kernel
theorem dX2_isLeast_41 : decode cX2_isLeast 41 = .ok (.iconst 0, 1) := by decide +kernel
theorem dX2_isLeast_42 : decode cX2_isLeast 42 = .ok (.ireturn, 1) := by decide +kernel
theorem dX2_isLeast_43 : decode cX2_isLeast 43 = .ok (.iinc 2 1, 3) := by decide +kernel
theorem dX2_isLeast_46 : decode cX2_isLeast 46 = .ok (.goto (-44), 3) := by decide +kernel
theorem dX2_isLeast_49 : decode cX2_isLeast 49 = .ok (.iconst 1, 1) := by decide +kernel
theorem dX2_isLeast_50 : decode cX2_isLeast 50 = .ok (.ireturn, 1) := by decide +kernel
set_option maxRecDepth 20000 in
theorem ggX2_countLeast_X2_isLeast : GoodIn wsX2_countLeast wsX2_isLeast := goodIn_r _ [6, 1, 7, 8, 9, 10, 11, 12, 5, 13, 14, 15, 16, 17, 18, 19, 20, 21, 22, 23, 24, 25] (by decide +kernel) (by decide +kernel)
set_option maxRecDepth 20000 in
theorem gX2_countLeast_X2_isLeast : GoodIn wsX2_countLeast (wsV RX2 81 RX2 yX2_isLeast wsX2_isLeast) := goodIn_app (goodIn_of _ (by decide +kernel)) ggX2_countLeast_X2_isLeast
theorem dX2_countLeast_0 : decode cX2_countLeast 0 = .ok (.iconst 0, 1) := by decide +kernel
theorem dX2_countLeast_1 : decode cX2_countLeast 1 = .ok (.istore_n 1, 1) := by decide +kernel
theorem dX2_countLeast_2 : decode cX2_countLeast 2 = .ok (.iconst 0, 1) := by decide +kernel
theorem dX2_countLeast_3 : decode cX2_countLeast 3 = .ok (.istore_n 2, 1) := by decide +kernel
theorem dX2_countLeast_4 : decode cX2_countLeast 4 = .ok (.iload_n 2, 1) := by decide +kernel
theorem dX2_countLeast_5 : decode cX2_countLeast 5 = .ok (.aload_n 0, 1) := by decide +kernel
theorem dX2_countLeast_6 : decode cX2_countLeast 6 = .ok (.getfield 30, 3) := by decide +kernel
theorem dX2_countLeast_9 : decode cX2_countLeast 9 = .ok (.if_icmp .ge 20, 3) := by decide +kernel
theorem dX2_countLeast_12 : decode cX2_countLeast 12 = .ok (.aload_n 0, 1) := by decide +kernel
theorem dX2_countLeast_13 : decode cX2_countLeast 13 = .ok (.iload_n 2, 1) := by decide +kernel
theorem dX2_countLeast_14 : decode cX2_countLeast 14 = .ok (.invokevirtual 81, 3) := by decide +kernel
theorem dX2_countLeast_17 : decode cX2_countLeast 17 = .ok (.ifCond .eq 6, 3) := by decide +kernel
theorem dX2_countLeast_20 : decode cX2_countLeast 20 = .ok (.iinc 1 1, 3) := by decide +kernel
theorem dX2_countLeast_23 : decode cX2_countLeast 23 = .ok (.iinc 2 1, 3) := by decide +kernel
theorem dX2_countLeast_26 : decode cX2_countLeast 26 = .ok (.goto (-22), 3) := by decide +kernel
theorem dX2_countLeast_29 : decode cX2_countLeast 29 = .ok (.iload_n 1, 1) := by decide +kernel
theorem dX2_countLeast_30 : decode cX2_countLeast 30 = .ok (.ireturn, 1) := by decide +kernel
theorem dX2_wordOf_0 : decode cX2_wordOf 0 = .ok (.iload_n 2, 1) := by decide +kernel
theorem dX2_wordOf_1 : decode cX2_wordOf 1 = .ok (.ifCond .ne 12, 3) := by decide +kernel
theorem dX2_wordOf_4 : decode cX2_wordOf 4 = .ok (.aload_n 0, 1) := by decide +kernel
theorem dX2_wordOf_5 : decode cX2_wordOf 5 = .ok (.getfield 18, 3) := by decide +kernel
theorem dX2_wordOf_8 : decode cX2_wordOf 8 = .ok (.iload_n 1, 1) := by decide +kernel
theorem dX2_wordOf_9 : decode cX2_wordOf 9 = .ok (.iaload, 1) := by decide +kernel
theorem dX2_wordOf_10 : decode cX2_wordOf 10 = .ok (.goto 9, 3) := by decide +kernel
theorem dX2_wordOf_13 : decode cX2_wordOf 13 = .ok (.aload_n 0, 1) := by decide +kernel
theorem dX2_wordOf_14 : decode cX2_wordOf 14 = .ok (.getfield 21, 3) := by decide +kernel
theorem dX2_wordOf_17 : decode cX2_wordOf 17 = .ok (.iload_n 1, 1) := by decide +kernel
theorem dX2_wordOf_18 : decode cX2_wordOf 18 = .ok (.iaload, 1) := by decide +kernel
theorem dX2_wordOf_19 : decode cX2_wordOf 19 = .ok (.ireturn, 1) := by decide +kernel
set_option maxRecDepth 20000 in
theorem ggX2_fact_X6_size : GoodIn wsX2_fact wsX6_size := goodIn_r _ [10] (by decide +kernel) (by decide +kernel)
set_option maxRecDepth 20000 in
theorem gX2_fact_X6_size : GoodIn wsX2_fact (va_wsS RX2 85 yX6_size wsX6_size) := goodIn_app (goodIn_of _ (by decide +kernel)) ggX2_fact_X6_size
set_option maxRecDepth 20000 in
theorem ggX2_fact_X2_isLeast : GoodIn wsX2_fact wsX2_isLeast := goodIn_r _ [15, 16, 1, 3, 4, 17, 18, 19, 14, 20, 21, 22, 9, 23, 24, 25, 26, 27, 28, 29, 30, 31] (by decide +kernel) (by decide +kernel)
set_option maxRecDepth 20000 in
theorem gX2_fact_X2_isLeast : GoodIn wsX2_fact (wsV RX2 81 RX2 yX2_isLeast wsX2_isLeast) := goodIn_app (goodIn_of _ (by decide +kernel)) ggX2_fact_X2_isLeast
theorem dX2_fact_0 : decode cX2_fact 0 = .ok (.iload_n 2, 1) := by decide +kernel
theorem dX2_fact_1 : decode cX2_fact 1 = .ok (.tableswitch 87 0 5 #[39, 46, 53, 63, 73, 80], 39) := by decide +kernel
theorem dX2_fact_40 : decode cX2_fact 40 = .ok (.aload_n 0, 1) := by decide +kernel
theorem dX2_fact_41 : decode cX2_fact 41 = .ok (.getfield 15, 3) := by decide +kernel
theorem dX2_fact_44 : decode cX2_fact 44 = .ok (.iload_n 1, 1) := by decide +kernel
theorem dX2_fact_45 : decode cX2_fact 45 = .ok (.iaload, 1) := by decide +kernel
theorem dX2_fact_46 : decode cX2_fact 46 = .ok (.ireturn, 1) := by decide +kernel
theorem dX2_fact_47 : decode cX2_fact 47 = .ok (.aload_n 0, 1) := by decide +kernel
theorem dX2_fact_48 : decode cX2_fact 48 = .ok (.getfield 9, 3) := by decide +kernel
theorem dX2_fact_51 : decode cX2_fact 51 = .ok (.iload_n 1, 1) := by decide +kernel
theorem dX2_fact_52 : decode cX2_fact 52 = .ok (.iaload, 1) := by decide +kernel
theorem dX2_fact_53 : decode cX2_fact 53 = .ok (.ireturn, 1) := by decide +kernel
theorem dX2_fact_54 : decode cX2_fact 54 = .ok (.aload_n 0, 1) := by decide +kernel
theorem dX2_fact_55 : decode cX2_fact 55 = .ok (.getfield 18, 3) := by decide +kernel
theorem dX2_fact_58 : decode cX2_fact 58 = .ok (.iload_n 1, 1) := by decide +kernel
theorem dX2_fact_59 : decode cX2_fact 59 = .ok (.iaload, 1) := by decide +kernel
theorem dX2_fact_60 : decode cX2_fact 60 = .ok (.invokestatic 85, 3) := by decide +kernel
theorem dX2_fact_63 : decode cX2_fact 63 = .ok (.ireturn, 1) := by decide +kernel
theorem dX2_fact_64 : decode cX2_fact 64 = .ok (.aload_n 0, 1) := by decide +kernel
theorem dX2_fact_65 : decode cX2_fact 65 = .ok (.getfield 21, 3) := by decide +kernel
theorem dX2_fact_68 : decode cX2_fact 68 = .ok (.iload_n 1, 1) := by decide +kernel
theorem dX2_fact_69 : decode cX2_fact 69 = .ok (.iaload, 1) := by decide +kernel
theorem dX2_fact_70 : decode cX2_fact 70 = .ok (.invokestatic 85, 3) := by decide +kernel
theorem dX2_fact_73 : decode cX2_fact 73 = .ok (.ireturn, 1) := by decide +kernel
theorem dX2_fact_74 : decode cX2_fact 74 = .ok (.aload_n 0, 1) := by decide +kernel
theorem dX2_fact_75 : decode cX2_fact 75 = .ok (.getfield 24, 3) := by decide +kernel
theorem dX2_fact_78 : decode cX2_fact 78 = .ok (.iload_n 1, 1) := by decide +kernel
theorem dX2_fact_79 : decode cX2_fact 79 = .ok (.iaload, 1) := by decide +kernel
theorem dX2_fact_80 : decode cX2_fact 80 = .ok (.ireturn, 1) := by decide +kernel
theorem dX2_fact_81 : decode cX2_fact 81 = .ok (.aload_n 0, 1) := by decide +kernel
theorem dX2_fact_82 : decode cX2_fact 82 = .ok (.getfield 27, 3) := by decide +kernel
theorem dX2_fact_85 : decode cX2_fact 85 = .ok (.iload_n 1, 1) := by decide +kernel
theorem dX2_fact_86 : decode cX2_fact 86 = .ok (.iaload, 1) := by decide +kernel
theorem dX2_fact_87 : decode cX2_fact 87 = .ok (.ireturn, 1) := by decide +kernel
theorem dX2_fact_88 : decode cX2_fact 88 = .ok (.aload_n 0, 1) := by decide +kernel
theorem dX2_fact_89 : decode cX2_fact 89 = .ok (.iload_n 1, 1) := by decide +kernel
theorem dX2_fact_90 : decode cX2_fact 90 = .ok (.invokevirtual 81, 3) := by decide +kernel
theorem dX2_fact_93 : decode cX2_fact 93 = .ok (.ifCond .eq 7, 3) := by decide +kernel
theorem dX2_fact_96 : decode cX2_fact 96 = .ok (.iconst 1, 1) := by decide +kernel
theorem dX2_fact_97 : decode cX2_fact 97 = .ok (.goto 4, 3) := by decide +kernel
theorem dX2_fact_100 : decode cX2_fact 100 = .ok (.iconst 0, 1) := by decide +kernel
theorem dX2_fact_101 : decode cX2_fact 101 = .ok (.ireturn, 1) := by decide +kernel
theorem dX2_arcOfWay_0 : decode cX2_arcOfWay 0 = .ok (.iload_n 1, 1) := by decide +kernel
theorem dX2_arcOfWay_1 : decode cX2_arcOfWay 1 = .ok (.istore_n 3, 1) := by decide +kernel
theorem dX2_arcOfWay_2 : decode cX2_arcOfWay 2 = .ok (.iconst 0, 1) := by decide +kernel
theorem dX2_arcOfWay_3 : decode cX2_arcOfWay 3 = .ok (.istore 4, 2) := by decide +kernel
theorem dX2_arcOfWay_5 : decode cX2_arcOfWay 5 = .ok (.iload 4, 2) := by decide +kernel
theorem dX2_arcOfWay_7 : decode cX2_arcOfWay 7 = .ok (.iload_n 2, 1) := by decide +kernel
theorem dX2_arcOfWay_8 : decode cX2_arcOfWay 8 = .ok (.if_icmp .ge 25, 3) := by decide +kernel
theorem dX2_arcOfWay_11 : decode cX2_arcOfWay 11 = .ok (.aload_n 0, 1) := by decide +kernel
theorem dX2_arcOfWay_12 : decode cX2_arcOfWay 12 = .ok (.getfield 27, 3) := by decide +kernel
theorem dX2_arcOfWay_15 : decode cX2_arcOfWay 15 = .ok (.iload_n 3, 1) := by decide +kernel
theorem dX2_arcOfWay_16 : decode cX2_arcOfWay 16 = .ok (.iaload, 1) := by decide +kernel
theorem dX2_arcOfWay_17 : decode cX2_arcOfWay 17 = .ok (.ifCond .lt 16, 3) := by decide +kernel
theorem dX2_arcOfWay_20 : decode cX2_arcOfWay 20 = .ok (.aload_n 0, 1) := by decide +kernel
theorem dX2_arcOfWay_21 : decode cX2_arcOfWay 21 = .ok (.getfield 27, 3) := by decide +kernel
theorem dX2_arcOfWay_24 : decode cX2_arcOfWay 24 = .ok (.iload_n 3, 1) := by decide +kernel
theorem dX2_arcOfWay_25 : decode cX2_arcOfWay 25 = .ok (.iaload, 1) := by decide +kernel
theorem dX2_arcOfWay_26 : decode cX2_arcOfWay 26 = .ok (.istore_n 3, 1) := by decide +kernel
theorem dX2_arcOfWay_27 : decode cX2_arcOfWay 27 = .ok (.iinc 4 1, 3) := by decide +kernel
theorem dX2_arcOfWay_30 : decode cX2_arcOfWay 30 = .ok (.goto (-25), 3) := by decide +kernel
theorem dX2_arcOfWay_33 : decode cX2_arcOfWay 33 = .ok (.aload_n 0, 1) := by decide +kernel
theorem dX2_arcOfWay_34 : decode cX2_arcOfWay 34 = .ok (.getfield 24, 3) := by decide +kernel
theorem dX2_arcOfWay_37 : decode cX2_arcOfWay 37 = .ok (.iload_n 3, 1) := by decide +kernel
theorem dX2_arcOfWay_38 : decode cX2_arcOfWay 38 = .ok (.iaload, 1) := by decide +kernel
theorem dX2_arcOfWay_39 : decode cX2_arcOfWay 39 = .ok (.ireturn, 1) := by decide +kernel
theorem dX3_init_0 : decode cX3_init 0 = .ok (.aload_n 0, 1) := by decide +kernel
theorem dX3_init_1 : decode cX3_init 1 = .ok (.invokespecial 3, 3) := by decide +kernel
theorem dX3_init_4 : decode cX3_init 4 = .ok (.aload_n 0, 1) := by decide +kernel
theorem dX3_init_5 : decode cX3_init 5 = .ok (.bipush 60, 2) := by decide +kernel
theorem dX3_init_7 : decode cX3_init 7 = .ok (.newarray .int, 2) := by decide +kernel
theorem dX3_init_9 : decode cX3_init 9 = .ok (.putfield 9, 3) := by decide +kernel
theorem dX3_init_12 : decode cX3_init 12 = .ok (.return_, 1) := by decide +kernel
set_option maxRecDepth 20000 in
theorem ggX3_hold_J7_fill_53178 : GoodIn wsX3_hold wsJ7_fill_53178 := goodIn_r _ [8] (by decide +kernel) (by decide +kernel)
set_option maxRecDepth 20000 in
theorem gX3_hold_J7_fill_53178 : GoodIn wsX3_hold (va_wsS RX3 26 yJ7_fill_53178 wsJ7_fill_53178) := goodIn_app (goodIn_of _ (by decide +kernel)) ggX3_hold_J7_fill_53178
theorem dX3_hold_0 : decode cX3_hold 0 = .ok (.aload_n 0, 1) := by decide +kernel
theorem dX3_hold_1 : decode cX3_hold 1 = .ok (.iconst 1, 1) := by decide +kernel
theorem dX3_hold_2 : decode cX3_hold 2 = .ok (.putfield 15, 3) := by decide +kernel
theorem dX3_hold_5 : decode cX3_hold 5 = .ok (.aload_n 0, 1) := by decide +kernel
theorem dX3_hold_6 : decode cX3_hold 6 = .ok (.iload_n 1, 1) := by decide +kernel
theorem dX3_hold_7 : decode cX3_hold 7 = .ok (.putfield 19, 3) := by decide +kernel
theorem dX3_hold_10 : decode cX3_hold 10 = .ok (.aload_n 0, 1) := by decide +kernel
theorem dX3_hold_11 : decode cX3_hold 11 = .ok (.iload_n 2, 1) := by decide +kernel
theorem dX3_hold_12 : decode cX3_hold 12 = .ok (.putfield 23, 3) := by decide +kernel
theorem dX3_hold_15 : decode cX3_hold 15 = .ok (.aload_n 0, 1) := by decide +kernel
theorem dX3_hold_16 : decode cX3_hold 16 = .ok (.getfield 9, 3) := by decide +kernel
theorem dX3_hold_19 : decode cX3_hold 19 = .ok (.iconst 0, 1) := by decide +kernel
theorem dX3_hold_20 : decode cX3_hold 20 = .ok (.invokestatic 26, 3) := by decide +kernel
theorem dX3_hold_23 : decode cX3_hold 23 = .ok (.return_, 1) := by decide +kernel
theorem dX3_faultAs_0 : decode cX3_faultAs 0 = .ok (.aload_n 0, 1) := by decide +kernel
theorem dX3_faultAs_1 : decode cX3_faultAs 1 = .ok (.getfield 15, 3) := by decide +kernel
theorem dX3_faultAs_4 : decode cX3_faultAs 4 = .ok (.ifCond .ne 6, 3) := by decide +kernel
theorem dX3_faultAs_7 : decode cX3_faultAs 7 = .ok (.bipush (-11), 2) := by decide +kernel
theorem dX3_faultAs_9 : decode cX3_faultAs 9 = .ok (.ireturn, 1) := by decide +kernel
theorem dX3_faultAs_10 : decode cX3_faultAs 10 = .ok (.iload_n 1, 1) := by decide +kernel
theorem dX3_faultAs_11 : decode cX3_faultAs 11 = .ok (.aload_n 0, 1) := by decide +kernel
theorem dX3_faultAs_12 : decode cX3_faultAs 12 = .ok (.getfield 19, 3) := by decide +kernel
theorem dX3_faultAs_15 : decode cX3_faultAs 15 = .ok (.if_icmp .ne 7, 3) := by decide +kernel
theorem dX3_faultAs_18 : decode cX3_faultAs 18 = .ok (.iconst 0, 1) := by decide +kernel
theorem dX3_faultAs_19 : decode cX3_faultAs 19 = .ok (.goto 5, 3) := by decide +kernel
theorem dX3_faultAs_22 : decode cX3_faultAs 22 = .ok (.bipush (-12), 2) := by decide +kernel
theorem dX3_faultAs_24 : decode cX3_faultAs 24 = .ok (.ireturn, 1) := by decide +kernel
theorem dX3_put_0 : decode cX3_put 0 = .ok (.aload_n 0, 1) := by decide +kernel
theorem dX3_put_1 : decode cX3_put 1 = .ok (.getfield 9, 3) := by decide +kernel
theorem dX3_put_4 : decode cX3_put 4 = .ok (.iload_n 1, 1) := by decide +kernel
theorem dX3_put_5 : decode cX3_put 5 = .ok (.aload_n 0, 1) := by decide +kernel
theorem dX3_put_6 : decode cX3_put 6 = .ok (.getfield 19, 3) := by decide +kernel
theorem dX3_put_9 : decode cX3_put 9 = .ok (.ifCond .ne 8, 3) := by decide +kernel
theorem dX3_put_12 : decode cX3_put 12 = .ok (.iload_n 2, 1) := by decide +kernel
theorem dX3_put_13 : decode cX3_put 13 = .ok (.i2b, 1) := by decide +kernel
theorem dX3_put_14 : decode cX3_put 14 = .ok (.goto 4, 3) := by decide +kernel
theorem dX3_put_17 : decode cX3_put 17 = .ok (.iload_n 2, 1) := by decide +kernel
theorem dX3_put_18 : decode cX3_put 18 = .ok (.iastore, 1) := by decide +kernel
theorem dX3_put_19 : decode cX3_put 19 = .ok (.return_, 1) := by decide +kernel
theorem dX4_init_0 : decode cX4_init 0 = .ok (.aload_n 0, 1) := by decide +kernel
theorem dX4_init_1 : decode cX4_init 1 = .ok (.invokespecial 3, 3) := by decide +kernel
theorem dX4_init_4 : decode cX4_init 4 = .ok (.aload_n 0, 1) := by decide +kernel
theorem dX4_init_5 : decode cX4_init 5 = .ok (.bipush 100, 2) := by decide +kernel
theorem dX4_init_7 : decode cX4_init 7 = .ok (.newarray .int, 2) := by decide +kernel
theorem dX4_init_9 : decode cX4_init 9 = .ok (.putfield 9, 3) := by decide +kernel
theorem dX4_init_12 : decode cX4_init 12 = .ok (.aload_n 0, 1) := by decide +kernel
theorem dX4_init_13 : decode cX4_init 13 = .ok (.sipush 130, 3) := by decide +kernel
theorem dX4_init_16 : decode cX4_init 16 = .ok (.newarray .byte, 2) := by decide +kernel
theorem dX4_init_18 : decode cX4_init 18 = .ok (.putfield 15, 3) := by decide +kernel
theorem dX4_init_21 : decode cX4_init 21 = .ok (.return_, 1) := by decide +kernel
set_option maxRecDepth 20000 in
theorem ggX4_canHave_X4_byteOf : GoodIn wsX4_canHave wsX4_byteOf := goodIn_r _ [4] (by decide +kernel) (by decide +kernel)
set_option maxRecDepth 20000 in
theorem gX4_canHave_X4_byteOf : GoodIn wsX4_canHave (va_wsS RX4 19 yX4_byteOf wsX4_byteOf) := goodIn_app (goodIn_of _ (by decide +kernel)) ggX4_canHave_X4_byteOf
theorem dX4_canHave_0 : decode cX4_canHave 0 = .ok (.iconst 0, 1) := by decide +kernel
theorem dX4_canHave_1 : decode cX4_canHave 1 = .ok (.istore_n 3, 1) := by decide +kernel
theorem dX4_canHave_2 : decode cX4_canHave 2 = .ok (.iload_n 3, 1) := by decide +kernel
theorem dX4_canHave_3 : decode cX4_canHave 3 = .ok (.iload_n 2, 1) := by decide +kernel
theorem dX4_canHave_4 : decode cX4_canHave 4 = .ok (.if_icmp .ge 32, 3) := by decide +kernel
theorem dX4_canHave_7 : decode cX4_canHave 7 = .ok (.lload_n 0, 1) := by decide +kernel
theorem dX4_canHave_8 : decode cX4_canHave 8 = .ok (.iload_n 3, 1) := by decide +kernel
theorem dX4_canHave_9 : decode cX4_canHave 9 = .ok (.invokestatic 19, 3) := by decide +kernel
theorem dX4_canHave_12 : decode cX4_canHave 12 = .ok (.istore 4, 2) := by decide +kernel
theorem dX4_canHave_14 : decode cX4_canHave 14 = .ok (.iload 4, 2) := by decide +kernel
theorem dX4_canHave_16 : decode cX4_canHave 16 = .ok (.bipush 32, 2) := by decide +kernel
theorem dX4_canHave_18 : decode cX4_canHave 18 = .ok (.if_icmp .lt 10, 3) := by decide +kernel
theorem dX4_canHave_21 : decode cX4_canHave 21 = .ok (.iload 4, 2) := by decide +kernel
theorem dX4_canHave_23 : decode cX4_canHave 23 = .ok (.bipush 126, 2) := by decide +kernel
theorem dX4_canHave_25 : decode cX4_canHave 25 = .ok (.if_icmp .le 5, 3) := by decide +kernel
theorem dX4_canHave_28 : decode cX4_canHave 28 = .ok (.iconst 0, 1) := by decide +kernel
theorem dX4_canHave_29 : decode cX4_canHave 29 = .ok (.ireturn, 1) := by decide +kernel
theorem dX4_canHave_30 : decode cX4_canHave 30 = .ok (.iinc 3 1, 3) := by decide +kernel
theorem dX4_canHave_33 : decode cX4_canHave 33 = .ok (.goto (-31), 3) := by decide +kernel
theorem dX4_canHave_36 : decode cX4_canHave 36 = .ok (.iconst 1, 1) := by decide +kernel
theorem dX4_canHave_37 : decode cX4_canHave 37 = .ok (.ireturn, 1) := by decide +kernel
theorem dX4_byteOf_0 : decode cX4_byteOf 0 = .ok (.lload_n 0, 1) := by decide +kernel
theorem dX4_byteOf_1 : decode cX4_byteOf 1 = .ok (.bipush 8, 2) := by decide +kernel
theorem dX4_byteOf_3 : decode cX4_byteOf 3 = .ok (.iload_n 2, 1) := by decide +kernel
theorem dX4_byteOf_4 : decode cX4_byteOf 4 = .ok (.imul, 1) := by decide +kernel
theorem dX4_byteOf_5 : decode cX4_byteOf 5 = .ok (.lushr, 1) := by decide +kernel
theorem dX4_byteOf_6 : decode cX4_byteOf 6 = .ok (.l2i, 1) := by decide +kernel
theorem dX4_byteOf_7 : decode cX4_byteOf 7 = .ok (.sipush 255, 3) := by decide +kernel
theorem dX4_byteOf_10 : decode cX4_byteOf 10 = .ok (.iand, 1) := by decide +kernel
theorem dX4_byteOf_11 : decode cX4_byteOf 11 = .ok (.ireturn, 1) := by decide +kernel
set_option maxRecDepth 20000 in
theorem ggX4_add_X4_byteOf : GoodIn wsX4_add wsX4_byteOf := goodIn_r _ [6] (by decide +kernel) (by decide +kernel)
set_option maxRecDepth 20000 in
theorem gX4_add_X4_byteOf : GoodIn wsX4_add (va_wsS RX4 19 yX4_byteOf wsX4_byteOf) := goodIn_app (goodIn_of _ (by decide +kernel)) ggX4_add_X4_byteOf
theorem dX4_add_0 : decode cX4_add 0 = .ok (.iload_n 3, 1) := by decide +kernel
theorem dX4_add_1 : decode cX4_add 1 = .ok (.iconst 1, 1) := by decide +kernel
theorem dX4_add_2 : decode cX4_add 2 = .ok (.isub, 1) := by decide +kernel
theorem dX4_add_3 : decode cX4_add 3 = .ok (.istore 4, 2) := by decide +kernel
theorem dX4_add_5 : decode cX4_add 5 = .ok (.iload 4, 2) := by decide +kernel
theorem dX4_add_7 : decode cX4_add 7 = .ok (.ifCond .lt 35, 3) := by decide +kernel
theorem dX4_add_10 : decode cX4_add 10 = .ok (.aload_n 0, 1) := by decide +kernel
theorem dX4_add_11 : decode cX4_add 11 = .ok (.getfield 15, 3) := by decide +kernel
theorem dX4_add_14 : decode cX4_add 14 = .ok (.aload_n 0, 1) := by decide +kernel
theorem dX4_add_15 : decode cX4_add 15 = .ok (.getfield 23, 3) := by decide +kernel
theorem dX4_add_18 : decode cX4_add 18 = .ok (.lload_n 1, 1) := by decide +kernel
theorem dX4_add_19 : decode cX4_add 19 = .ok (.iload 4, 2) := by decide +kernel
theorem dX4_add_21 : decode cX4_add 21 = .ok (.invokestatic 19, 3) := by decide +kernel
theorem dX4_add_24 : decode cX4_add 24 = .ok (.i2b, 1) := by decide +kernel
theorem dX4_add_25 : decode cX4_add 25 = .ok (.bastore, 1) := by decide +kernel
theorem dX4_add_26 : decode cX4_add 26 = .ok (.aload_n 0, 1) := by decide +kernel
theorem dX4_add_27 : decode cX4_add 27 = .ok (.dup, 1) := by decide +kernel
theorem dX4_add_28 : decode cX4_add 28 = .ok (.getfield 23, 3) := by decide +kernel
theorem dX4_add_31 : decode cX4_add 31 = .ok (.iconst 1, 1) := by decide +kernel
theorem dX4_add_32 : decode cX4_add 32 = .ok (.iadd, 1) := by decide +kernel
theorem dX4_add_33 : decode cX4_add 33 = .ok (.putfield 23, 3) := by decide +kernel
theorem dX4_add_36 : decode cX4_add 36 = .ok (.iinc 4 (-1), 3) := by decide +kernel
theorem dX4_add_39 : decode cX4_add 39 = .ok (.goto (-34), 3) := by decide +kernel
theorem dX4_add_42 : decode cX4_add 42 = .ok (.return_, 1) := by decide +kernel
set_option maxRecDepth 20000 in
theorem ggX4_parse_X4_parseArc : GoodIn wsX4_parse wsX4_parseArc := goodIn_r _ [8, 9, 10, 11, 12, 7, 13, 1, 2, 3, 14, 15, 16, 17, 18, 19, 20, 21, 22, 23, 24, 25, 26, 27, 28, 29, 30, 31, 32] (by decide +kernel) (by decide +kernel)
set_option maxRecDepth 20000 in
theorem gX4_parse_X4_parseArc : GoodIn wsX4_parse (wsV RX4 30 RX4 yX4_parseArc wsX4_parseArc) := goodIn_app (goodIn_of _ (by decide +kernel)) ggX4_parse_X4_parseArc
set_option maxRecDepth 20000 in
theorem ggX4_parse_X4_skipBlanks : GoodIn wsX4_parse wsX4_skipBlanks := goodIn_r _ [17, 1, 2, 3, 29, 30, 31, 32] (by decide +kernel) (by decide +kernel)
set_option maxRecDepth 20000 in
theorem gX4_parse_X4_skipBlanks : GoodIn wsX4_parse (wsV RX4 34 RX4 yX4_skipBlanks wsX4_skipBlanks) := goodIn_app (goodIn_of _ (by decide +kernel)) ggX4_parse_X4_skipBlanks
theorem dX4_parse_0 : decode cX4_parse 0 = .ok (.aload_n 0, 1) := by decide +kernel
theorem dX4_parse_1 : decode cX4_parse 1 = .ok (.iconst 0, 1) := by decide +kernel
theorem dX4_parse_2 : decode cX4_parse 2 = .ok (.putfield 27, 3) := by decide +kernel
theorem dX4_parse_5 : decode cX4_parse 5 = .ok (.iconst 0, 1) := by decide +kernel
theorem dX4_parse_6 : decode cX4_parse 6 = .ok (.istore_n 2, 1) := by decide +kernel
theorem dX4_parse_7 : decode cX4_parse 7 = .ok (.iload_n 2, 1) := by decide +kernel
theorem dX4_parse_8 : decode cX4_parse 8 = .ok (.bipush 20, 2) := by decide +kernel
theorem dX4_parse_10 : decode cX4_parse 10 = .ok (.if_icmp .ge 87, 3) := by decide +kernel
theorem dX4_parse_13 : decode cX4_parse 13 = .ok (.aload_n 0, 1) := by decide +kernel
theorem dX4_parse_14 : decode cX4_parse 14 = .ok (.iload_n 2, 1) := by decide +kernel
theorem dX4_parse_15 : decode cX4_parse 15 = .ok (.iconst 5, 1) := by decide +kernel
theorem dX4_parse_16 : decode cX4_parse 16 = .ok (.imul, 1) := by decide +kernel
theorem dX4_parse_17 : decode cX4_parse 17 = .ok (.iload_n 1, 1) := by decide +kernel
theorem dX4_parse_18 : decode cX4_parse 18 = .ok (.invokevirtual 30, 3) := by decide +kernel
theorem dX4_parse_21 : decode cX4_parse 21 = .ok (.ifCond .ne 11, 3) := by decide +kernel
theorem dX4_parse_24 : decode cX4_parse 24 = .ok (.bipush (-20), 2) := by decide +kernel
theorem dX4_parse_26 : decode cX4_parse 26 = .ok (.aload_n 0, 1) := by decide +kernel
theorem dX4_parse_27 : decode cX4_parse 27 = .ok (.getfield 27, 3) := by decide +kernel
theorem dX4_parse_30 : decode cX4_parse 30 = .ok (.isub, 1) := by decide +kernel
theorem dX4_parse_31 : decode cX4_parse 31 = .ok (.ireturn, 1) := by decide +kernel
theorem dX4_parse_32 : decode cX4_parse 32 = .ok (.aload_n 0, 1) := by decide +kernel
theorem dX4_parse_33 : decode cX4_parse 33 = .ok (.invokevirtual 34, 3) := by decide +kernel
theorem dX4_parse_36 : decode cX4_parse 36 = .ok (.aload_n 0, 1) := by decide +kernel
theorem dX4_parse_37 : decode cX4_parse 37 = .ok (.getfield 27, 3) := by decide +kernel
theorem dX4_parse_40 : decode cX4_parse 40 = .ok (.aload_n 0, 1) := by decide +kernel
theorem dX4_parse_41 : decode cX4_parse 41 = .ok (.getfield 23, 3) := by decide +kernel
theorem dX4_parse_44 : decode cX4_parse 44 = .ok (.if_icmp .lt 7, 3) := by decide +kernel
theorem dX4_parse_47 : decode cX4_parse 47 = .ok (.iload_n 2, 1) := by decide +kernel
theorem dX4_parse_48 : decode cX4_parse 48 = .ok (.iconst 1, 1) := by decide +kernel
theorem dX4_parse_49 : decode cX4_parse 49 = .ok (.iadd, 1) := by decide +kernel
theorem dX4_parse_50 : decode cX4_parse 50 = .ok (.ireturn, 1) := by decide +kernel
theorem dX4_parse_51 : decode cX4_parse 51 = .ok (.aload_n 0, 1) := by decide +kernel
theorem dX4_parse_52 : decode cX4_parse 52 = .ok (.getfield 15, 3) := by decide +kernel
theorem dX4_parse_55 : decode cX4_parse 55 = .ok (.aload_n 0, 1) := by decide +kernel
theorem dX4_parse_56 : decode cX4_parse 56 = .ok (.getfield 27, 3) := by decide +kernel
theorem dX4_parse_59 : decode cX4_parse 59 = .ok (.baload, 1) := by decide +kernel
theorem dX4_parse_60 : decode cX4_parse 60 = .ok (.bipush 59, 2) := by decide +kernel
theorem dX4_parse_62 : decode cX4_parse 62 = .ok (.if_icmp .ne 11, 3) := by decide +kernel
theorem dX4_parse_65 : decode cX4_parse 65 = .ok (.iload_n 2, 1) := by decide +kernel
theorem dX4_parse_66 : decode cX4_parse 66 = .ok (.iconst 1, 1) := by decide +kernel
theorem dX4_parse_67 : decode cX4_parse 67 = .ok (.iadd, 1) := by decide +kernel
theorem dX4_parse_68 : decode cX4_parse 68 = .ok (.bipush 20, 2) := by decide +kernel
theorem dX4_parse_70 : decode cX4_parse 70 = .ok (.if_icmp .ne 11, 3) := by decide +kernel
theorem dX4_parse_73 : decode cX4_parse 73 = .ok (.bipush (-20), 2) := by decide +kernel
theorem dX4_parse_75 : decode cX4_parse 75 = .ok (.aload_n 0, 1) := by decide +kernel
theorem dX4_parse_76 : decode cX4_parse 76 = .ok (.getfield 27, 3) := by decide +kernel
theorem dX4_parse_79 : decode cX4_parse 79 = .ok (.isub, 1) := by decide +kernel
theorem dX4_parse_80 : decode cX4_parse 80 = .ok (.ireturn, 1) := by decide +kernel
theorem dX4_parse_81 : decode cX4_parse 81 = .ok (.aload_n 0, 1) := by decide +kernel
theorem dX4_parse_82 : decode cX4_parse 82 = .ok (.dup, 1) := by decide +kernel
theorem dX4_parse_83 : decode cX4_parse 83 = .ok (.getfield 27, 3) := by decide +kernel
theorem dX4_parse_86 : decode cX4_parse 86 = .ok (.iconst 1, 1) := by decide +kernel
theorem dX4_parse_87 : decode cX4_parse 87 = .ok (.iadd, 1) := by decide +kernel
theorem dX4_parse_88 : decode cX4_parse 88 = .ok (.putfield 27, 3) := by decide +kernel
theorem dX4_parse_91 : decode cX4_parse 91 = .ok (.iinc 2 1, 3) := by decide +kernel
theorem dX4_parse_94 : decode cX4_parse 94 = .ok (.goto (-87), 3) := by decide +kernel
theorem dX4_parse_97 : decode cX4_parse 97 = .ok (.bipush (-20), 2) := by decide +kernel
theorem dX4_parse_99 : decode cX4_parse 99 = .ok (.aload_n 0, 1) := by decide +kernel
theorem dX4_parse_100 : decode cX4_parse 100 = .ok (.getfield 27, 3) := by decide +kernel
theorem dX4_parse_103 : decode cX4_parse 103 = .ok (.isub, 1) := by decide +kernel
theorem dX4_parse_104 : decode cX4_parse 104 = .ok (.ireturn, 1) := by decide +kernel
set_option maxRecDepth 20000 in
theorem ggX4_parseArc_X4_oneOf : GoodIn wsX4_parseArc wsX4_oneOf := goodIn_r _ [6, 7, 8, 9, 10, 11, 12, 5, 13, 14, 15, 16, 25, 26, 27, 28] (by decide +kernel) (by decide +kernel)
set_option maxRecDepth 20000 in
theorem gX4_parseArc_X4_oneOf : GoodIn wsX4_parseArc (wsV RX4 37 RX4 yX4_oneOf wsX4_oneOf) := goodIn_app (goodIn_of _ (by decide +kernel)) ggX4_parseArc_X4_oneOf
set_option maxRecDepth 20000 in
theorem ggX4_parseArc_X4_parseAct : GoodIn wsX4_parseArc wsX4_parseAct := goodIn_r _ [20, 2, 3, 4, 5, 6, 7, 8, 9, 10, 11, 12, 13, 14, 15, 16, 25, 26, 27, 28] (by decide +kernel) (by decide +kernel)
set_option maxRecDepth 20000 in
theorem gX4_parseArc_X4_parseAct : GoodIn wsX4_parseArc (wsV RX4 41 RX4 yX4_parseAct wsX4_parseAct) := goodIn_app (goodIn_of _ (by decide +kernel)) ggX4_parseArc_X4_parseAct
set_option maxRecDepth 20000 in
theorem ggX4_parseArc_X4_parseLetterAndLine : GoodIn wsX4_parseArc wsX4_parseLetterAndLine := goodIn_r _ [24, 1, 2, 3, 4, 5, 6, 7, 8, 9, 10, 11, 12, 13, 14, 15, 16, 25, 26, 27, 28] (by decide +kernel) (by decide +kernel)
set_option maxRecDepth 20000 in
theorem gX4_parseArc_X4_parseLetterAndLine : GoodIn wsX4_parseArc (wsV RX4 45 RX4 yX4_parseLetterAndLine wsX4_parseLetterAndLine) := goodIn_app (goodIn_of _ (by decide +kernel)) ggX4_parseArc_X4_parseLetterAndLine
theorem dX4_parseArc_0 : decode cX4_parseArc 0 = .ok (.aload_n 0, 1) := by decide +kernel
theorem dX4_parseArc_1 : decode cX4_parseArc 1 = .ok (.getfield 9, 3) := by decide +kernel
theorem dX4_parseArc_4 : decode cX4_parseArc 4 = .ok (.iload_n 1, 1) := by decide +kernel
theorem dX4_parseArc_5 : decode cX4_parseArc 5 = .ok (.iconst 0, 1) := by decide +kernel
theorem dX4_parseArc_6 : decode cX4_parseArc 6 = .ok (.iadd, 1) := by decide +kernel
theorem dX4_parseArc_7 : decode cX4_parseArc 7 = .ok (.aload_n 0, 1) := by decide +kernel
theorem dX4_parseArc_8 : decode cX4_parseArc 8 = .ok (.bipush 48, 2) := by decide +kernel
theorem dX4_parseArc_10 : decode cX4_parseArc 10 = .ok (.iload_n 2, 1) := by decide +kernel
theorem dX4_parseArc_11 : decode cX4_parseArc 11 = .ok (.invokevirtual 37, 3) := by decide +kernel
theorem dX4_parseArc_14 : decode cX4_parseArc 14 = .ok (.iastore, 1) := by decide +kernel
theorem dX4_parseArc_15 : decode cX4_parseArc 15 = .ok (.aload_n 0, 1) := by decide +kernel
theorem dX4_parseArc_16 : decode cX4_parseArc 16 = .ok (.getfield 9, 3) := by decide +kernel
theorem dX4_parseArc_19 : decode cX4_parseArc 19 = .ok (.iload_n 1, 1) := by decide +kernel
theorem dX4_parseArc_20 : decode cX4_parseArc 20 = .ok (.iconst 0, 1) := by decide +kernel
theorem dX4_parseArc_21 : decode cX4_parseArc 21 = .ok (.iadd, 1) := by decide +kernel
theorem dX4_parseArc_22 : decode cX4_parseArc 22 = .ok (.iaload, 1) := by decide +kernel
theorem dX4_parseArc_23 : decode cX4_parseArc 23 = .ok (.ifCond .ge 5, 3) := by decide +kernel
theorem dX4_parseArc_26 : decode cX4_parseArc 26 = .ok (.iconst 0, 1) := by decide +kernel
theorem dX4_parseArc_27 : decode cX4_parseArc 27 = .ok (.ireturn, 1) := by decide +kernel
theorem dX4_parseArc_28 : decode cX4_parseArc 28 = .ok (.aload_n 0, 1) := by decide +kernel
theorem dX4_parseArc_29 : decode cX4_parseArc 29 = .ok (.invokevirtual 41, 3) := by decide +kernel
theorem dX4_parseArc_32 : decode cX4_parseArc 32 = .ok (.istore_n 3, 1) := by decide +kernel
theorem dX4_parseArc_33 : decode cX4_parseArc 33 = .ok (.aload_n 0, 1) := by decide +kernel
theorem dX4_parseArc_34 : decode cX4_parseArc 34 = .ok (.getfield 9, 3) := by decide +kernel
theorem dX4_parseArc_37 : decode cX4_parseArc 37 = .ok (.iload_n 1, 1) := by decide +kernel
theorem dX4_parseArc_38 : decode cX4_parseArc 38 = .ok (.iconst 1, 1) := by decide +kernel
theorem dX4_parseArc_39 : decode cX4_parseArc 39 = .ok (.iadd, 1) := by decide +kernel
theorem dX4_parseArc_40 : decode cX4_parseArc 40 = .ok (.iload_n 3, 1) := by decide +kernel
theorem dX4_parseArc_41 : decode cX4_parseArc 41 = .ok (.iastore, 1) := by decide +kernel
theorem dX4_parseArc_42 : decode cX4_parseArc 42 = .ok (.iload_n 3, 1) := by decide +kernel
theorem dX4_parseArc_43 : decode cX4_parseArc 43 = .ok (.ifCond .lt 15, 3) := by decide +kernel
theorem dX4_parseArc_46 : decode cX4_parseArc 46 = .ok (.iload_n 3, 1) := by decide +kernel
theorem dX4_parseArc_47 : decode cX4_parseArc 47 = .ok (.ifCond .eq 13, 3) := by decide +kernel
theorem dX4_parseArc_50 : decode cX4_parseArc 50 = .ok (.aload_n 0, 1) := by decide +kernel
theorem dX4_parseArc_51 : decode cX4_parseArc 51 = .ok (.iload_n 1, 1) := by decide +kernel
theorem dX4_parseArc_52 : decode cX4_parseArc 52 = .ok (.invokevirtual 45, 3) := by decide +kernel
theorem dX4_parseArc_55 : decode cX4_parseArc 55 = .ok (.ifCond .ne 5, 3) := by decide +kernel
theorem dX4_parseArc_58 : decode cX4_parseArc 58 = .ok (.iconst 0, 1) := by decide +kernel
theorem dX4_parseArc_59 : decode cX4_parseArc 59 = .ok (.ireturn, 1) := by decide +kernel
theorem dX4_parseArc_60 : decode cX4_parseArc 60 = .ok (.aload_n 0, 1) := by decide +kernel
theorem dX4_parseArc_61 : decode cX4_parseArc 61 = .ok (.getfield 9, 3) := by decide +kernel
theorem dX4_parseArc_64 : decode cX4_parseArc 64 = .ok (.iload_n 1, 1) := by decide +kernel
theorem dX4_parseArc_65 : decode cX4_parseArc 65 = .ok (.iconst 4, 1) := by decide +kernel
theorem dX4_parseArc_66 : decode cX4_parseArc 66 = .ok (.iadd, 1) := by decide +kernel
theorem dX4_parseArc_67 : decode cX4_parseArc 67 = .ok (.aload_n 0, 1) := by decide +kernel
theorem dX4_parseArc_68 : decode cX4_parseArc 68 = .ok (.bipush 48, 2) := by decide +kernel
theorem dX4_parseArc_70 : decode cX4_parseArc 70 = .ok (.iload_n 2, 1) := by decide +kernel
theorem dX4_parseArc_71 : decode cX4_parseArc 71 = .ok (.invokevirtual 37, 3) := by decide +kernel
theorem dX4_parseArc_74 : decode cX4_parseArc 74 = .ok (.iastore, 1) := by decide +kernel
theorem dX4_parseArc_75 : decode cX4_parseArc 75 = .ok (.aload_n 0, 1) := by decide +kernel
theorem dX4_parseArc_76 : decode cX4_parseArc 76 = .ok (.getfield 9, 3) := by decide +kernel
theorem dX4_parseArc_79 : decode cX4_parseArc 79 = .ok (.iload_n 1, 1) := by decide +kernel
theorem dX4_parseArc_80 : decode cX4_parseArc 80 = .ok (.iconst 4, 1) := by decide +kernel
theorem dX4_parseArc_81 : decode cX4_parseArc 81 = .ok (.iadd, 1) := by decide +kernel
theorem dX4_parseArc_82 : decode cX4_parseArc 82 = .ok (.iaload, 1) := by decide +kernel
theorem dX4_parseArc_83 : decode cX4_parseArc 83 = .ok (.ifCond .lt 7, 3) := by decide +kernel
theorem dX4_parseArc_86 : decode cX4_parseArc 86 = .ok (.iconst 1, 1) := by decide +kernel
theorem dX4_parseArc_87 : decode cX4_parseArc 87 = .ok (.goto 4, 3) := by decide +kernel
theorem dX4_parseArc_90 : decode cX4_parseArc 90 = .ok (.iconst 0, 1) := by decide +kernel
theorem dX4_parseArc_91 : decode cX4_parseArc 91 = .ok (.ireturn, 1) := by decide +kernel
set_option maxRecDepth 20000 in
theorem ggX4_parseLetterAndLine_X4_oneOf : GoodIn wsX4_parseLetterAndLine wsX4_oneOf := goodIn_r _ [6, 7, 8, 9, 10, 11, 12, 5, 13, 14, 15, 16, 17, 18, 19, 20] (by decide +kernel) (by decide +kernel)
set_option maxRecDepth 20000 in
theorem gX4_parseLetterAndLine_X4_oneOf : GoodIn wsX4_parseLetterAndLine (wsV RX4 37 RX4 yX4_oneOf wsX4_oneOf) := goodIn_app (goodIn_of _ (by decide +kernel)) ggX4_parseLetterAndLine_X4_oneOf
theorem dX4_parseLetterAndLine_0 : decode cX4_parseLetterAndLine 0 = .ok (.aload_n 0, 1) := by decide +kernel
theorem dX4_parseLetterAndLine_1 : decode cX4_parseLetterAndLine 1 = .ok (.getfield 9, 3) := by decide +kernel
theorem dX4_parseLetterAndLine_4 : decode cX4_parseLetterAndLine 4 = .ok (.iload_n 1, 1) := by decide +kernel
theorem dX4_parseLetterAndLine_5 : decode cX4_parseLetterAndLine 5 = .ok (.iconst 3, 1) := by decide +kernel
theorem dX4_parseLetterAndLine_6 : decode cX4_parseLetterAndLine 6 = .ok (.iadd, 1) := by decide +kernel
theorem dX4_parseLetterAndLine_7 : decode cX4_parseLetterAndLine 7 = .ok (.aload_n 0, 1) := by decide +kernel
theorem dX4_parseLetterAndLine_8 : decode cX4_parseLetterAndLine 8 = .ok (.bipush 97, 2) := by decide +kernel
theorem dX4_parseLetterAndLine_10 : decode cX4_parseLetterAndLine 10 = .ok (.iconst 3, 1) := by decide +kernel
theorem dX4_parseLetterAndLine_11 : decode cX4_parseLetterAndLine 11 = .ok (.invokevirtual 37, 3) := by decide +kernel
theorem dX4_parseLetterAndLine_14 : decode cX4_parseLetterAndLine 14 = .ok (.iastore, 1) := by decide +kernel
theorem dX4_parseLetterAndLine_15 : decode cX4_parseLetterAndLine 15 = .ok (.aload_n 0, 1) := by decide +kernel
theorem dX4_parseLetterAndLine_16 : decode cX4_parseLetterAndLine 16 = .ok (.getfield 9, 3) := by decide +kernel
theorem dX4_parseLetterAndLine_19 : decode cX4_parseLetterAndLine 19 = .ok (.iload_n 1, 1) := by decide +kernel
theorem dX4_parseLetterAndLine_20 : decode cX4_parseLetterAndLine 20 = .ok (.iconst 3, 1) := by decide +kernel
theorem dX4_parseLetterAndLine_21 : decode cX4_parseLetterAndLine 21 = .ok (.iadd, 1) := by decide +kernel
theorem dX4_parseLetterAndLine_22 : decode cX4_parseLetterAndLine 22 = .ok (.iaload, 1) := by decide +kernel
theorem dX4_parseLetterAndLine_23 : decode cX4_parseLetterAndLine 23 = .ok (.ifCond .ge 5, 3) := by decide +kernel
theorem dX4_parseLetterAndLine_26 : decode cX4_parseLetterAndLine 26 = .ok (.iconst 0, 1) := by decide +kernel
theorem dX4_parseLetterAndLine_27 : decode cX4_parseLetterAndLine 27 = .ok (.ireturn, 1) := by decide +kernel
theorem dX4_parseLetterAndLine_28 : decode cX4_parseLetterAndLine 28 = .ok (.aload_n 0, 1) := by decide +kernel
theorem dX4_parseLetterAndLine_29 : decode cX4_parseLetterAndLine 29 = .ok (.getfield 9, 3) := by decide +kernel
theorem dX4_parseLetterAndLine_32 : decode cX4_parseLetterAndLine 32 = .ok (.iload_n 1, 1) := by decide +kernel
theorem dX4_parseLetterAndLine_33 : decode cX4_parseLetterAndLine 33 = .ok (.iconst 2, 1) := by decide +kernel
theorem dX4_parseLetterAndLine_34 : decode cX4_parseLetterAndLine 34 = .ok (.iadd, 1) := by decide +kernel
theorem dX4_parseLetterAndLine_35 : decode cX4_parseLetterAndLine 35 = .ok (.aload_n 0, 1) := by decide +kernel
theorem dX4_parseLetterAndLine_36 : decode cX4_parseLetterAndLine 36 = .ok (.bipush 48, 2) := by decide +kernel
theorem dX4_parseLetterAndLine_38 : decode cX4_parseLetterAndLine 38 = .ok (.iconst 2, 1) := by decide +kernel
theorem dX4_parseLetterAndLine_39 : decode cX4_parseLetterAndLine 39 = .ok (.invokevirtual 37, 3) := by decide +kernel
theorem dX4_parseLetterAndLine_42 : decode cX4_parseLetterAndLine 42 = .ok (.iastore, 1) := by decide +kernel
theorem dX4_parseLetterAndLine_43 : decode cX4_parseLetterAndLine 43 = .ok (.aload_n 0, 1) := by decide +kernel
theorem dX4_parseLetterAndLine_44 : decode cX4_parseLetterAndLine 44 = .ok (.getfield 9, 3) := by decide +kernel
theorem dX4_parseLetterAndLine_47 : decode cX4_parseLetterAndLine 47 = .ok (.iload_n 1, 1) := by decide +kernel
theorem dX4_parseLetterAndLine_48 : decode cX4_parseLetterAndLine 48 = .ok (.iconst 2, 1) := by decide +kernel
theorem dX4_parseLetterAndLine_49 : decode cX4_parseLetterAndLine 49 = .ok (.iadd, 1) := by decide +kernel
theorem dX4_parseLetterAndLine_50 : decode cX4_parseLetterAndLine 50 = .ok (.iaload, 1) := by decide +kernel
theorem dX4_parseLetterAndLine_51 : decode cX4_parseLetterAndLine 51 = .ok (.ifCond .lt 7, 3) := by decide +kernel
theorem dX4_parseLetterAndLine_54 : decode cX4_parseLetterAndLine 54 = .ok (.iconst 1, 1) := by decide +kernel
theorem dX4_parseLetterAndLine_55 : decode cX4_parseLetterAndLine 55 = .ok (.goto 4, 3) := by decide +kernel
theorem dX4_parseLetterAndLine_58 : decode cX4_parseLetterAndLine 58 = .ok (.iconst 0, 1) := by decide +kernel
theorem dX4_parseLetterAndLine_59 : decode cX4_parseLetterAndLine 59 = .ok (.ireturn, 1) := by decide +kernel
set_option maxRecDepth 20000 in
theorem ggX4_parseAct_X4_oneOf : GoodIn wsX4_parseAct wsX4_oneOf := goodIn_r _ [5, 6, 7, 8, 9, 10, 11, 4, 12, 13, 14, 15, 16, 17, 18, 19] (by decide +kernel) (by decide +kernel)
set_option maxRecDepth 20000 in
theorem gX4_parseAct_X4_oneOf : GoodIn wsX4_parseAct (wsV RX4 37 RX4 yX4_oneOf wsX4_oneOf) := goodIn_app (goodIn_of _ (by decide +kernel)) ggX4_parseAct_X4_oneOf
theorem dX4_parseAct_0 : decode cX4_parseAct 0 = .ok (.aload_n 0, 1) := by decide +kernel
theorem dX4_parseAct_1 : decode cX4_parseAct 1 = .ok (.bipush 45, 2) := by decide +kernel
theorem dX4_parseAct_3 : decode cX4_parseAct 3 = .ok (.iconst 1, 1) := by decide +kernel
theorem dX4_parseAct_4 : decode cX4_parseAct 4 = .ok (.invokevirtual 37, 3) := by decide +kernel
theorem dX4_parseAct_7 : decode cX4_parseAct 7 = .ok (.ifCond .ne 5, 3) := by decide +kernel
theorem dX4_parseAct_10 : decode cX4_parseAct 10 = .ok (.iconst 0, 1) := by decide +kernel
theorem dX4_parseAct_11 : decode cX4_parseAct 11 = .ok (.ireturn, 1) := by decide +kernel
theorem dX4_parseAct_12 : decode cX4_parseAct 12 = .ok (.aload_n 0, 1) := by decide +kernel
theorem dX4_parseAct_13 : decode cX4_parseAct 13 = .ok (.bipush 33, 2) := by decide +kernel
theorem dX4_parseAct_15 : decode cX4_parseAct 15 = .ok (.iconst 1, 1) := by decide +kernel
theorem dX4_parseAct_16 : decode cX4_parseAct 16 = .ok (.invokevirtual 37, 3) := by decide +kernel
theorem dX4_parseAct_19 : decode cX4_parseAct 19 = .ok (.ifCond .ne 5, 3) := by decide +kernel
theorem dX4_parseAct_22 : decode cX4_parseAct 22 = .ok (.iconst 1, 1) := by decide +kernel
theorem dX4_parseAct_23 : decode cX4_parseAct 23 = .ok (.ireturn, 1) := by decide +kernel
theorem dX4_parseAct_24 : decode cX4_parseAct 24 = .ok (.aload_n 0, 1) := by decide +kernel
theorem dX4_parseAct_25 : decode cX4_parseAct 25 = .ok (.bipush 63, 2) := by decide +kernel
theorem dX4_parseAct_27 : decode cX4_parseAct 27 = .ok (.iconst 1, 1) := by decide +kernel
theorem dX4_parseAct_28 : decode cX4_parseAct 28 = .ok (.invokevirtual 37, 3) := by decide +kernel
theorem dX4_parseAct_31 : decode cX4_parseAct 31 = .ok (.ifCond .ne 7, 3) := by decide +kernel
theorem dX4_parseAct_34 : decode cX4_parseAct 34 = .ok (.iconst 2, 1) := by decide +kernel
theorem dX4_parseAct_35 : decode cX4_parseAct 35 = .ok (.goto 4, 3) := by decide +kernel
theorem dX4_parseAct_38 : decode cX4_parseAct 38 = .ok (.iconst (-1), 1) := by decide +kernel
theorem dX4_parseAct_39 : decode cX4_parseAct 39 = .ok (.ireturn, 1) := by decide +kernel
set_option maxRecDepth 20000 in
theorem ggX4_oneOf_X4_skipBlanks : GoodIn wsX4_oneOf wsX4_skipBlanks := goodIn_r _ [8, 1, 2, 3, 12, 13, 14, 15] (by decide +kernel) (by decide +kernel)
set_option maxRecDepth 20000 in
theorem gX4_oneOf_X4_skipBlanks : GoodIn wsX4_oneOf (wsV RX4 34 RX4 yX4_skipBlanks wsX4_skipBlanks) := goodIn_app (goodIn_of _ (by decide +kernel)) ggX4_oneOf_X4_skipBlanks
set_option maxRecDepth 20000 in
theorem ggX4_oneOf_X7_isAmong : GoodIn wsX4_oneOf wsX7_isAmong := goodIn_r _ [11] (by decide +kernel) (by decide +kernel)
set_option maxRecDepth 20000 in
theorem gX4_oneOf_X7_isAmong_n49 : GoodIn wsX4_oneOf (wsX7_isAmong) := ggX4_oneOf_X7_isAmong
theorem dX4_oneOf_0 : decode cX4_oneOf 0 = .ok (.aload_n 0, 1) := by decide +kernel
theorem dX4_oneOf_1 : decode cX4_oneOf 1 = .ok (.invokevirtual 34, 3) := by decide +kernel
theorem dX4_oneOf_4 : decode cX4_oneOf 4 = .ok (.aload_n 0, 1) := by decide +kernel
theorem dX4_oneOf_5 : decode cX4_oneOf 5 = .ok (.getfield 27, 3) := by decide +kernel
theorem dX4_oneOf_8 : decode cX4_oneOf 8 = .ok (.aload_n 0, 1) := by decide +kernel
theorem dX4_oneOf_9 : decode cX4_oneOf 9 = .ok (.getfield 23, 3) := by decide +kernel
theorem dX4_oneOf_12 : decode cX4_oneOf 12 = .ok (.if_icmp .ge 21, 3) := by decide +kernel
theorem dX4_oneOf_15 : decode cX4_oneOf 15 = .ok (.aload_n 0, 1) := by decide +kernel
theorem dX4_oneOf_16 : decode cX4_oneOf 16 = .ok (.getfield 15, 3) := by decide +kernel
theorem dX4_oneOf_19 : decode cX4_oneOf 19 = .ok (.aload_n 0, 1) := by decide +kernel
theorem dX4_oneOf_20 : decode cX4_oneOf 20 = .ok (.getfield 27, 3) := by decide +kernel
theorem dX4_oneOf_23 : decode cX4_oneOf 23 = .ok (.baload, 1) := by decide +kernel
theorem dX4_oneOf_24 : decode cX4_oneOf 24 = .ok (.iload_n 1, 1) := by decide +kernel
theorem dX4_oneOf_25 : decode cX4_oneOf 25 = .ok (.isub, 1) := by decide +kernel
theorem dX4_oneOf_26 : decode cX4_oneOf 26 = .ok (.iload_n 2, 1) := by decide +kernel
theorem dX4_oneOf_27 : decode cX4_oneOf 27 = .ok (.invokestatic 49, 3) := by decide +kernel
theorem dX4_oneOf_30 : decode cX4_oneOf 30 = .ok (.ifCond .ne 5, 3) := by decide +kernel
theorem dX4_oneOf_33 : decode cX4_oneOf 33 = .ok (.iconst (-1), 1) := by decide +kernel
theorem dX4_oneOf_34 : decode cX4_oneOf 34 = .ok (.ireturn, 1) := by decide +kernel
theorem dX4_oneOf_35 : decode cX4_oneOf 35 = .ok (.aload_n 0, 1) := by decide +kernel
theorem dX4_oneOf_36 : decode cX4_oneOf 36 = .ok (.dup, 1) := by decide +kernel
