theorem dX4_oneOf_37 : decode cX4_oneOf 37 = .ok (.getfield 27, 3) := by decide +kernel
theorem dX4_oneOf_40 : decode cX4_oneOf 40 = .ok (.iconst 1, 1) := by decide +kernel
theorem dX4_oneOf_41 : decode cX4_oneOf 41 = .ok (.iadd, 1) := by decide +kernel
theorem dX4_oneOf_42 : decode cX4_oneOf 42 = .ok (.putfield 27, 3) := by decide +kernel
theorem dX4_oneOf_45 : decode cX4_oneOf 45 = .ok (.aload_n 0, 1) := by decide +kernel
theorem dX4_oneOf_46 : decode cX4_oneOf 46 = .ok (.getfield 15, 3) := by decide +kernel
theorem dX4_oneOf_49 : decode cX4_oneOf 49 = .ok (.aload_n 0, 1) := by decide +kernel
theorem dX4_oneOf_50 : decode cX4_oneOf 50 = .ok (.getfield 27, 3) := by decide +kernel
theorem dX4_oneOf_53 : decode cX4_oneOf 53 = .ok (.iconst 1, 1) := by decide +kernel
theorem dX4_oneOf_54 : decode cX4_oneOf 54 = .ok (.isub, 1) := by decide +kernel
theorem dX4_oneOf_55 : decode cX4_oneOf 55 = .ok (.baload, 1) := by decide +kernel
theorem dX4_oneOf_56 : decode cX4_oneOf 56 = .ok (.iload_n 1, 1) := by decide +kernel
theorem dX4_oneOf_57 : decode cX4_oneOf 57 = .ok (.isub, 1) := by decide +kernel
theorem dX4_oneOf_58 : decode cX4_oneOf 58 = .ok (.ireturn, 1) := by decide +kernel
theorem dX4_skipBlanks_0 : decode cX4_skipBlanks 0 = .ok (.aload_n 0, 1) := by decide +kernel
theorem dX4_skipBlanks_1 : decode cX4_skipBlanks 1 = .ok (.getfield 27, 3) := by decide +kernel
theorem dX4_skipBlanks_4 : decode cX4_skipBlanks 4 = .ok (.aload_n 0, 1) := by decide +kernel
theorem dX4_skipBlanks_5 : decode cX4_skipBlanks 5 = .ok (.getfield 23, 3) := by decide +kernel
theorem dX4_skipBlanks_8 : decode cX4_skipBlanks 8 = .ok (.if_icmp .ge 30, 3) := by decide +kernel
theorem dX4_skipBlanks_11 : decode cX4_skipBlanks 11 = .ok (.aload_n 0, 1) := by decide +kernel
theorem dX4_skipBlanks_12 : decode cX4_skipBlanks 12 = .ok (.getfield 15, 3) := by decide +kernel
theorem dX4_skipBlanks_15 : decode cX4_skipBlanks 15 = .ok (.aload_n 0, 1) := by decide +kernel
theorem dX4_skipBlanks_16 : decode cX4_skipBlanks 16 = .ok (.getfield 27, 3) := by decide +kernel
theorem dX4_skipBlanks_19 : decode cX4_skipBlanks 19 = .ok (.baload, 1) := by decide +kernel
theorem dX4_skipBlanks_20 : decode cX4_skipBlanks 20 = .ok (.bipush 32, 2) := by decide +kernel
theorem dX4_skipBlanks_22 : decode cX4_skipBlanks 22 = .ok (.if_icmp .ne 16, 3) := by decide +kernel
theorem dX4_skipBlanks_25 : decode cX4_skipBlanks 25 = .ok (.aload_n 0, 1) := by decide +kernel
theorem dX4_skipBlanks_26 : decode cX4_skipBlanks 26 = .ok (.dup, 1) := by decide +kernel
theorem dX4_skipBlanks_27 : decode cX4_skipBlanks 27 = .ok (.getfield 27, 3) := by decide +kernel
theorem dX4_skipBlanks_30 : decode cX4_skipBlanks 30 = .ok (.iconst 1, 1) := by decide +kernel
theorem dX4_skipBlanks_31 : decode cX4_skipBlanks 31 = .ok (.iadd, 1) := by decide +kernel
theorem dX4_skipBlanks_32 : decode cX4_skipBlanks 32 = .ok (.putfield 27, 3) := by decide +kernel
theorem dX4_skipBlanks_35 : decode cX4_skipBlanks 35 = .ok (.goto (-35), 3) := by decide +kernel
theorem dX4_skipBlanks_38 : decode cX4_skipBlanks 38 = .ok (.return_, 1) := by decide +kernel
theorem dX5_init_0 : decode cX5_init 0 = .ok (.aload_n 0, 1) := by decide +kernel
theorem dX5_init_1 : decode cX5_init 1 = .ok (.invokespecial 5, 3) := by decide +kernel
theorem dX5_init_4 : decode cX5_init 4 = .ok (.aload_n 0, 1) := by decide +kernel
theorem dX5_init_5 : decode cX5_init 5 = .ok (.sipush 512, 3) := by decide +kernel
theorem dX5_init_8 : decode cX5_init 8 = .ok (.newarray .long, 2) := by decide +kernel
theorem dX5_init_10 : decode cX5_init 10 = .ok (.putfield 11, 3) := by decide +kernel
theorem dX5_init_13 : decode cX5_init 13 = .ok (.aload_n 0, 1) := by decide +kernel
theorem dX5_init_14 : decode cX5_init 14 = .ok (.sipush 12800, 3) := by decide +kernel
theorem dX5_init_17 : decode cX5_init 17 = .ok (.newarray .int, 2) := by decide +kernel
theorem dX5_init_19 : decode cX5_init 19 = .ok (.putfield 15, 3) := by decide +kernel
theorem dX5_init_22 : decode cX5_init 22 = .ok (.return_, 1) := by decide +kernel
set_option maxRecDepth 20000 in
theorem ggX5_fewest_J7_fill_d0a16 : GoodIn wsX5_fewest wsJ7_fill_d0a16 := goodIn_r _ [9] (by decide +kernel) (by decide +kernel)
set_option maxRecDepth 20000 in
theorem gX5_fewest_J7_fill_d0a16 : GoodIn wsX5_fewest (va_wsS RX5 19 yJ7_fill_d0a16 wsJ7_fill_d0a16) := goodIn_app (goodIn_of _ (by decide +kernel)) ggX5_fewest_J7_fill_d0a16
set_option maxRecDepth 20000 in
theorem ggX5_fewest_X5_add : GoodIn wsX5_fewest wsX5_add := goodIn_r _ [14, 1, 2, 5, 71, 72, 73] (by decide +kernel) (by decide +kernel)
set_option maxRecDepth 20000 in
theorem gX5_fewest_X5_add : GoodIn wsX5_fewest (wsV RX5 37 RX5 yX5_add wsX5_add) := goodIn_app (goodIn_of _ (by decide +kernel)) ggX5_fewest_X5_add
set_option maxRecDepth 20000 in
theorem ggX5_fewest_X5_isAimed : GoodIn wsX5_fewest wsX5_isAimed := goodIn_r _ [17, 3, 4, 18, 19, 13, 20, 21, 22, 23, 24, 25, 26, 27, 74, 75] (by decide +kernel) (by decide +kernel)
set_option maxRecDepth 20000 in
theorem gX5_fewest_X5_isAimed : GoodIn wsX5_fewest (va_wsS RX5 41 yX5_isAimed wsX5_isAimed) := goodIn_app (goodIn_of _ (by decide +kernel)) ggX5_fewest_X5_isAimed
set_option maxRecDepth 20000 in
theorem ggX5_fewest_X5_goOn : GoodIn wsX5_fewest wsX5_goOn := goodIn_r _ [31, 32, 33, 34, 35, 36, 37, 38, 18, 19, 13, 20, 39, 40, 41, 42, 21, 22, 23, 43, 44, 45, 46, 47, 48, 49, 50, 51, 52, 53, 54, 26, 55, 56, 57, 58, 59, 60, 61, 62, 63, 64, 65, 66, 67, 68, 69, 70, 10, 11, 12, 14, 1, 2, 5, 76, 77, 78, 79, 71, 72, 73] (by decide +kernel) (by decide +kernel)
set_option maxRecDepth 20000 in
theorem gX5_fewest_X5_goOn : GoodIn wsX5_fewest (wsV RX5 45 RX5 yX5_goOn wsX5_goOn) := goodIn_app (goodIn_of _ (by decide +kernel)) ggX5_fewest_X5_goOn
theorem dX5_fewest_0 : decode cX5_fewest 0 = .ok (.aload_n 0, 1) := by decide +kernel
theorem dX5_fewest_1 : decode cX5_fewest 1 = .ok (.getfield 11, 3) := by decide +kernel
theorem dX5_fewest_4 : decode cX5_fewest 4 = .ok (.lconst 0, 1) := by decide +kernel
theorem dX5_fewest_5 : decode cX5_fewest 5 = .ok (.invokestatic 19, 3) := by decide +kernel
theorem dX5_fewest_8 : decode cX5_fewest 8 = .ok (.aload_n 0, 1) := by decide +kernel
theorem dX5_fewest_9 : decode cX5_fewest 9 = .ok (.iconst 0, 1) := by decide +kernel
theorem dX5_fewest_10 : decode cX5_fewest 10 = .ok (.putfield 25, 3) := by decide +kernel
theorem dX5_fewest_13 : decode cX5_fewest 13 = .ok (.aload_n 0, 1) := by decide +kernel
theorem dX5_fewest_14 : decode cX5_fewest 14 = .ok (.aload_n 2, 1) := by decide +kernel
theorem dX5_fewest_15 : decode cX5_fewest 15 = .ok (.getfield 29, 3) := by decide +kernel
theorem dX5_fewest_18 : decode cX5_fewest 18 = .ok (.aload_n 2, 1) := by decide +kernel
theorem dX5_fewest_19 : decode cX5_fewest 19 = .ok (.getfield 34, 3) := by decide +kernel
theorem dX5_fewest_22 : decode cX5_fewest 22 = .ok (.iconst 0, 1) := by decide +kernel
theorem dX5_fewest_23 : decode cX5_fewest 23 = .ok (.iaload, 1) := by decide +kernel
theorem dX5_fewest_24 : decode cX5_fewest 24 = .ok (.aload_n 2, 1) := by decide +kernel
theorem dX5_fewest_25 : decode cX5_fewest 25 = .ok (.getfield 34, 3) := by decide +kernel
theorem dX5_fewest_28 : decode cX5_fewest 28 = .ok (.iconst 1, 1) := by decide +kernel
theorem dX5_fewest_29 : decode cX5_fewest 29 = .ok (.iaload, 1) := by decide +kernel
theorem dX5_fewest_30 : decode cX5_fewest 30 = .ok (.invokevirtual 37, 3) := by decide +kernel
theorem dX5_fewest_33 : decode cX5_fewest 33 = .ok (.iconst 0, 1) := by decide +kernel
theorem dX5_fewest_34 : decode cX5_fewest 34 = .ok (.istore 5, 2) := by decide +kernel
theorem dX5_fewest_36 : decode cX5_fewest 36 = .ok (.iconst 0, 1) := by decide +kernel
theorem dX5_fewest_37 : decode cX5_fewest 37 = .ok (.istore 6, 2) := by decide +kernel
theorem dX5_fewest_39 : decode cX5_fewest 39 = .ok (.iload 6, 2) := by decide +kernel
theorem dX5_fewest_41 : decode cX5_fewest 41 = .ok (.sipush 12800, 3) := by decide +kernel
theorem dX5_fewest_44 : decode cX5_fewest 44 = .ok (.if_icmp .ge 68, 3) := by decide +kernel
theorem dX5_fewest_47 : decode cX5_fewest 47 = .ok (.iload 5, 2) := by decide +kernel
theorem dX5_fewest_49 : decode cX5_fewest 49 = .ok (.aload_n 0, 1) := by decide +kernel
theorem dX5_fewest_50 : decode cX5_fewest 50 = .ok (.getfield 25, 3) := by decide +kernel
theorem dX5_fewest_53 : decode cX5_fewest 53 = .ok (.if_icmp .ge 59, 3) := by decide +kernel
theorem dX5_fewest_56 : decode cX5_fewest 56 = .ok (.aload_n 0, 1) := by decide +kernel
theorem dX5_fewest_57 : decode cX5_fewest 57 = .ok (.getfield 25, 3) := by decide +kernel
theorem dX5_fewest_60 : decode cX5_fewest 60 = .ok (.istore 7, 2) := by decide +kernel
theorem dX5_fewest_62 : decode cX5_fewest 62 = .ok (.iload 5, 2) := by decide +kernel
theorem dX5_fewest_64 : decode cX5_fewest 64 = .ok (.iload 7, 2) := by decide +kernel
theorem dX5_fewest_66 : decode cX5_fewest 66 = .ok (.if_icmp .ge 40, 3) := by decide +kernel
theorem dX5_fewest_69 : decode cX5_fewest 69 = .ok (.aload_n 0, 1) := by decide +kernel
theorem dX5_fewest_70 : decode cX5_fewest 70 = .ok (.getfield 15, 3) := by decide +kernel
theorem dX5_fewest_73 : decode cX5_fewest 73 = .ok (.iload 5, 2) := by decide +kernel
theorem dX5_fewest_75 : decode cX5_fewest 75 = .ok (.iaload, 1) := by decide +kernel
theorem dX5_fewest_76 : decode cX5_fewest 76 = .ok (.aload_n 3, 1) := by decide +kernel
theorem dX5_fewest_77 : decode cX5_fewest 77 = .ok (.invokestatic 41, 3) := by decide +kernel
theorem dX5_fewest_80 : decode cX5_fewest 80 = .ok (.ifCond .eq 6, 3) := by decide +kernel
theorem dX5_fewest_83 : decode cX5_fewest 83 = .ok (.iload 6, 2) := by decide +kernel
theorem dX5_fewest_85 : decode cX5_fewest 85 = .ok (.ireturn, 1) := by decide +kernel
theorem dX5_fewest_86 : decode cX5_fewest 86 = .ok (.aload_n 0, 1) := by decide +kernel
theorem dX5_fewest_87 : decode cX5_fewest 87 = .ok (.aload_n 1, 1) := by decide +kernel
theorem dX5_fewest_88 : decode cX5_fewest 88 = .ok (.aload_n 0, 1) := by decide +kernel
theorem dX5_fewest_89 : decode cX5_fewest 89 = .ok (.getfield 15, 3) := by decide +kernel
theorem dX5_fewest_92 : decode cX5_fewest 92 = .ok (.iload 5, 2) := by decide +kernel
theorem dX5_fewest_94 : decode cX5_fewest 94 = .ok (.iaload, 1) := by decide +kernel
theorem dX5_fewest_95 : decode cX5_fewest 95 = .ok (.iload 4, 2) := by decide +kernel
theorem dX5_fewest_97 : decode cX5_fewest 97 = .ok (.invokevirtual 45, 3) := by decide +kernel
theorem dX5_fewest_100 : decode cX5_fewest 100 = .ok (.iinc 5 1, 3) := by decide +kernel
theorem dX5_fewest_103 : decode cX5_fewest 103 = .ok (.goto (-41), 3) := by decide +kernel
theorem dX5_fewest_106 : decode cX5_fewest 106 = .ok (.iinc 6 1, 3) := by decide +kernel
theorem dX5_fewest_109 : decode cX5_fewest 109 = .ok (.goto (-70), 3) := by decide +kernel
theorem dX5_fewest_112 : decode cX5_fewest 112 = .ok (.bipush (-4), 2) := by decide +kernel
theorem dX5_fewest_114 : decode cX5_fewest 114 = .ok (.ireturn, 1) := by decide +kernel
theorem dX5_add_0 : decode cX5_add 0 = .ok (.iload_n 1, 1) := by decide +kernel
theorem dX5_add_1 : decode cX5_add 1 = .ok (.bipush 6, 2) := by decide +kernel
theorem dX5_add_3 : decode cX5_add 3 = .ok (.ishl, 1) := by decide +kernel
theorem dX5_add_4 : decode cX5_add 4 = .ok (.iload_n 2, 1) := by decide +kernel
theorem dX5_add_5 : decode cX5_add 5 = .ok (.ior, 1) := by decide +kernel
theorem dX5_add_6 : decode cX5_add 6 = .ok (.bipush 6, 2) := by decide +kernel
theorem dX5_add_8 : decode cX5_add 8 = .ok (.ishl, 1) := by decide +kernel
theorem dX5_add_9 : decode cX5_add 9 = .ok (.iload_n 3, 1) := by decide +kernel
theorem dX5_add_10 : decode cX5_add 10 = .ok (.ior, 1) := by decide +kernel
theorem dX5_add_11 : decode cX5_add 11 = .ok (.istore 4, 2) := by decide +kernel
theorem dX5_add_13 : decode cX5_add 13 = .ok (.lconst 1, 1) := by decide +kernel
theorem dX5_add_14 : decode cX5_add 14 = .ok (.iload 4, 2) := by decide +kernel
theorem dX5_add_16 : decode cX5_add 16 = .ok (.bipush 63, 2) := by decide +kernel
theorem dX5_add_18 : decode cX5_add 18 = .ok (.iand, 1) := by decide +kernel
theorem dX5_add_19 : decode cX5_add 19 = .ok (.lshl, 1) := by decide +kernel
theorem dX5_add_20 : decode cX5_add 20 = .ok (.lstore 5, 2) := by decide +kernel
theorem dX5_add_22 : decode cX5_add 22 = .ok (.aload_n 0, 1) := by decide +kernel
theorem dX5_add_23 : decode cX5_add 23 = .ok (.getfield 11, 3) := by decide +kernel
theorem dX5_add_26 : decode cX5_add 26 = .ok (.iload 4, 2) := by decide +kernel
theorem dX5_add_28 : decode cX5_add 28 = .ok (.bipush 6, 2) := by decide +kernel
theorem dX5_add_30 : decode cX5_add 30 = .ok (.ishr, 1) := by decide +kernel
theorem dX5_add_31 : decode cX5_add 31 = .ok (.laload, 1) := by decide +kernel
theorem dX5_add_32 : decode cX5_add 32 = .ok (.lload 5, 2) := by decide +kernel
theorem dX5_add_34 : decode cX5_add 34 = .ok (.land, 1) := by decide +kernel
theorem dX5_add_35 : decode cX5_add 35 = .ok (.lconst 0, 1) := by decide +kernel
theorem dX5_add_36 : decode cX5_add 36 = .ok (.lcmp, 1) := by decide +kernel
theorem dX5_add_37 : decode cX5_add 37 = .ok (.ifCond .ne 49, 3) := by decide +kernel
theorem dX5_add_40 : decode cX5_add 40 = .ok (.aload_n 0, 1) := by decide +kernel
theorem dX5_add_41 : decode cX5_add 41 = .ok (.getfield 25, 3) := by decide +kernel
theorem dX5_add_44 : decode cX5_add 44 = .ok (.sipush 12800, 3) := by decide +kernel
theorem dX5_add_47 : decode cX5_add 47 = .ok (.if_icmp .ge 39, 3) := by decide +kernel
theorem dX5_add_50 : decode cX5_add 50 = .ok (.aload_n 0, 1) := by decide +kernel
theorem dX5_add_51 : decode cX5_add 51 = .ok (.getfield 11, 3) := by decide +kernel
theorem dX5_add_54 : decode cX5_add 54 = .ok (.iload 4, 2) := by decide +kernel
theorem dX5_add_56 : decode cX5_add 56 = .ok (.bipush 6, 2) := by decide +kernel
theorem dX5_add_58 : decode cX5_add 58 = .ok (.ishr, 1) := by decide +kernel
theorem dX5_add_59 : decode cX5_add 59 = .ok (.dup2, 1) := by decide +kernel
theorem dX5_add_60 : decode cX5_add 60 = .ok (.laload, 1) := by decide +kernel
theorem dX5_add_61 : decode cX5_add 61 = .ok (.lload 5, 2) := by decide +kernel
theorem dX5_add_63 : decode cX5_add 63 = .ok (.lor, 1) := by decide +kernel
theorem dX5_add_64 : decode cX5_add 64 = .ok (.lastore, 1) := by decide +kernel
theorem dX5_add_65 : decode cX5_add 65 = .ok (.aload_n 0, 1) := by decide +kernel
theorem dX5_add_66 : decode cX5_add 66 = .ok (.getfield 15, 3) := by decide +kernel
theorem dX5_add_69 : decode cX5_add 69 = .ok (.aload_n 0, 1) := by decide +kernel
theorem dX5_add_70 : decode cX5_add 70 = .ok (.getfield 25, 3) := by decide +kernel
theorem dX5_add_73 : decode cX5_add 73 = .ok (.iload 4, 2) := by decide +kernel
theorem dX5_add_75 : decode cX5_add 75 = .ok (.iastore, 1) := by decide +kernel
theorem dX5_add_76 : decode cX5_add 76 = .ok (.aload_n 0, 1) := by decide +kernel
theorem dX5_add_77 : decode cX5_add 77 = .ok (.dup, 1) := by decide +kernel
theorem dX5_add_78 : decode cX5_add 78 = .ok (.getfield 25, 3) := by decide +kernel
theorem dX5_add_81 : decode cX5_add 81 = .ok (.iconst 1, 1) := by decide +kernel
theorem dX5_add_82 : decode cX5_add 82 = .ok (.iadd, 1) := by decide +kernel
theorem dX5_add_83 : decode cX5_add 83 = .ok (.putfield 25, 3) := by decide +kernel
theorem dX5_add_86 : decode cX5_add 86 = .ok (.return_, 1) := by decide +kernel
theorem dX5_stateOf_0 : decode cX5_stateOf 0 = .ok (.iload_n 0, 1) := by decide +kernel
theorem dX5_stateOf_1 : decode cX5_stateOf 1 = .ok (.bipush 12, 2) := by decide +kernel
theorem dX5_stateOf_3 : decode cX5_stateOf 3 = .ok (.ishr, 1) := by decide +kernel
theorem dX5_stateOf_4 : decode cX5_stateOf 4 = .ok (.ireturn, 1) := by decide +kernel
theorem dX5_wordOf_0 : decode cX5_wordOf 0 = .ok (.iload_n 1, 1) := by decide +kernel
theorem dX5_wordOf_1 : decode cX5_wordOf 1 = .ok (.ifCond .ne 10, 3) := by decide +kernel
theorem dX5_wordOf_4 : decode cX5_wordOf 4 = .ok (.iload_n 0, 1) := by decide +kernel
theorem dX5_wordOf_5 : decode cX5_wordOf 5 = .ok (.bipush 6, 2) := by decide +kernel
theorem dX5_wordOf_7 : decode cX5_wordOf 7 = .ok (.ishr, 1) := by decide +kernel
theorem dX5_wordOf_8 : decode cX5_wordOf 8 = .ok (.goto 4, 3) := by decide +kernel
theorem dX5_wordOf_11 : decode cX5_wordOf 11 = .ok (.iload_n 0, 1) := by decide +kernel
theorem dX5_wordOf_12 : decode cX5_wordOf 12 = .ok (.bipush 63, 2) := by decide +kernel
theorem dX5_wordOf_14 : decode cX5_wordOf 14 = .ok (.iand, 1) := by decide +kernel
theorem dX5_wordOf_15 : decode cX5_wordOf 15 = .ok (.ireturn, 1) := by decide +kernel
set_option maxRecDepth 20000 in
theorem ggX5_isAimed_X5_stateOf : GoodIn wsX5_isAimed wsX5_stateOf := goodIn_r _ [6] (by decide +kernel) (by decide +kernel)
set_option maxRecDepth 20000 in
theorem gX5_isAimed_X5_stateOf : GoodIn wsX5_isAimed (va_wsS RX5 49 yX5_stateOf wsX5_stateOf) := goodIn_app (goodIn_of _ (by decide +kernel)) ggX5_isAimed_X5_stateOf
set_option maxRecDepth 20000 in
theorem ggX5_isAimed_X5_wordOf : GoodIn wsX5_isAimed wsX5_wordOf := goodIn_r _ [9] (by decide +kernel) (by decide +kernel)
set_option maxRecDepth 20000 in
theorem gX5_isAimed_X5_wordOf : GoodIn wsX5_isAimed (va_wsS RX5 53 yX5_wordOf wsX5_wordOf) := goodIn_app (goodIn_of _ (by decide +kernel)) ggX5_isAimed_X5_wordOf
set_option maxRecDepth 20000 in
theorem ggX5_isAimed_X6_isIn : GoodIn wsX5_isAimed wsX6_isIn := goodIn_r _ [13] (by decide +kernel) (by decide +kernel)
set_option maxRecDepth 20000 in
theorem gX5_isAimed_X6_isIn : GoodIn wsX5_isAimed (va_wsS RX5 57 yX6_isIn wsX6_isIn) := goodIn_app (goodIn_of _ (by decide +kernel)) ggX5_isAimed_X6_isIn
theorem dX5_isAimed_0 : decode cX5_isAimed 0 = .ok (.iload_n 0, 1) := by decide +kernel
theorem dX5_isAimed_1 : decode cX5_isAimed 1 = .ok (.invokestatic 49, 3) := by decide +kernel
theorem dX5_isAimed_4 : decode cX5_isAimed 4 = .ok (.aload_n 1, 1) := by decide +kernel
theorem dX5_isAimed_5 : decode cX5_isAimed 5 = .ok (.getfield 29, 3) := by decide +kernel
theorem dX5_isAimed_8 : decode cX5_isAimed 8 = .ok (.if_icmp .ne 41, 3) := by decide +kernel
theorem dX5_isAimed_11 : decode cX5_isAimed 11 = .ok (.aload_n 1, 1) := by decide +kernel
theorem dX5_isAimed_12 : decode cX5_isAimed 12 = .ok (.getfield 34, 3) := by decide +kernel
theorem dX5_isAimed_15 : decode cX5_isAimed 15 = .ok (.iconst 0, 1) := by decide +kernel
theorem dX5_isAimed_16 : decode cX5_isAimed 16 = .ok (.iaload, 1) := by decide +kernel
theorem dX5_isAimed_17 : decode cX5_isAimed 17 = .ok (.iload_n 0, 1) := by decide +kernel
theorem dX5_isAimed_18 : decode cX5_isAimed 18 = .ok (.iconst 0, 1) := by decide +kernel
theorem dX5_isAimed_19 : decode cX5_isAimed 19 = .ok (.invokestatic 53, 3) := by decide +kernel
theorem dX5_isAimed_22 : decode cX5_isAimed 22 = .ok (.invokestatic 57, 3) := by decide +kernel
theorem dX5_isAimed_25 : decode cX5_isAimed 25 = .ok (.ifCond .eq 24, 3) := by decide +kernel
theorem dX5_isAimed_28 : decode cX5_isAimed 28 = .ok (.aload_n 1, 1) := by decide +kernel
theorem dX5_isAimed_29 : decode cX5_isAimed 29 = .ok (.getfield 34, 3) := by decide +kernel
theorem dX5_isAimed_32 : decode cX5_isAimed 32 = .ok (.iconst 1, 1) := by decide +kernel
theorem dX5_isAimed_33 : decode cX5_isAimed 33 = .ok (.iaload, 1) := by decide +kernel
theorem dX5_isAimed_34 : decode cX5_isAimed 34 = .ok (.iload_n 0, 1) := by decide +kernel
theorem dX5_isAimed_35 : decode cX5_isAimed 35 = .ok (.iconst 1, 1) := by decide +kernel
theorem dX5_isAimed_36 : decode cX5_isAimed 36 = .ok (.invokestatic 53, 3) := by decide +kernel
theorem dX5_isAimed_39 : decode cX5_isAimed 39 = .ok (.invokestatic 57, 3) := by decide +kernel
theorem dX5_isAimed_42 : decode cX5_isAimed 42 = .ok (.ifCond .eq 7, 3) := by decide +kernel
theorem dX5_isAimed_45 : decode cX5_isAimed 45 = .ok (.iconst 1, 1) := by decide +kernel
theorem dX5_isAimed_46 : decode cX5_isAimed 46 = .ok (.goto 4, 3) := by decide +kernel
theorem dX5_isAimed_49 : decode cX5_isAimed 49 = .ok (.iconst 0, 1) := by decide +kernel
theorem dX5_isAimed_50 : decode cX5_isAimed 50 = .ok (.ireturn, 1) := by decide +kernel
set_option maxRecDepth 20000 in
theorem ggX5_goOn_X0_part : GoodIn wsX5_goOn wsX0_part := goodIn_r _ [6, 7, 55, 56, 57, 58] (by decide +kernel) (by decide +kernel)
set_option maxRecDepth 20000 in
theorem gX5_goOn_X0_part : GoodIn wsX5_goOn (wsV RX5 68 RX0 yX0_part wsX0_part) := goodIn_app (goodIn_of _ (by decide +kernel)) ggX5_goOn_X0_part
set_option maxRecDepth 20000 in
theorem ggX5_goOn_X5_stateOf : GoodIn wsX5_goOn wsX5_stateOf := goodIn_r _ [11] (by decide +kernel) (by decide +kernel)
set_option maxRecDepth 20000 in
theorem gX5_goOn_X5_stateOf : GoodIn wsX5_goOn (va_wsS RX5 49 yX5_stateOf wsX5_stateOf) := goodIn_app (goodIn_of _ (by decide +kernel)) ggX5_goOn_X5_stateOf
set_option maxRecDepth 20000 in
theorem ggX5_goOn_X5_goBy : GoodIn wsX5_goOn wsX5_goBy := goodIn_r _ [15, 2, 3, 4, 5, 6, 7, 16, 17, 10, 18, 19, 20, 21, 22, 23, 24, 25, 26, 27, 28, 29, 30, 31, 32, 33, 34, 35, 36, 37, 38, 39, 40, 41, 42, 43, 44, 45, 46, 47, 48, 49, 50, 51, 52, 53, 54, 55, 56, 57, 58, 59, 60, 61] (by decide +kernel) (by decide +kernel)
set_option maxRecDepth 20000 in
theorem gX5_goOn_X5_goBy : GoodIn wsX5_goOn (wsV RX5 71 RX5 yX5_goBy wsX5_goBy) := goodIn_app (goodIn_of _ (by decide +kernel)) ggX5_goOn_X5_goBy
theorem dX5_goOn_0 : decode cX5_goOn 0 = .ok (.iconst 0, 1) := by decide +kernel
theorem dX5_goOn_1 : decode cX5_goOn 1 = .ok (.istore 4, 2) := by decide +kernel
theorem dX5_goOn_3 : decode cX5_goOn 3 = .ok (.iload 4, 2) := by decide +kernel
theorem dX5_goOn_5 : decode cX5_goOn 5 = .ok (.aload_n 1, 1) := by decide +kernel
theorem dX5_goOn_6 : decode cX5_goOn 6 = .ok (.getfield 63, 3) := by decide +kernel
theorem dX5_goOn_9 : decode cX5_goOn 9 = .ok (.if_icmp .ge 32, 3) := by decide +kernel
theorem dX5_goOn_12 : decode cX5_goOn 12 = .ok (.aload_n 1, 1) := by decide +kernel
theorem dX5_goOn_13 : decode cX5_goOn 13 = .ok (.iload 4, 2) := by decide +kernel
theorem dX5_goOn_15 : decode cX5_goOn 15 = .ok (.iconst 0, 1) := by decide +kernel
theorem dX5_goOn_16 : decode cX5_goOn 16 = .ok (.invokevirtual 68, 3) := by decide +kernel
theorem dX5_goOn_19 : decode cX5_goOn 19 = .ok (.iload_n 2, 1) := by decide +kernel
theorem dX5_goOn_20 : decode cX5_goOn 20 = .ok (.invokestatic 49, 3) := by decide +kernel
theorem dX5_goOn_23 : decode cX5_goOn 23 = .ok (.if_icmp .ne 12, 3) := by decide +kernel
theorem dX5_goOn_26 : decode cX5_goOn 26 = .ok (.aload_n 0, 1) := by decide +kernel
theorem dX5_goOn_27 : decode cX5_goOn 27 = .ok (.aload_n 1, 1) := by decide +kernel
theorem dX5_goOn_28 : decode cX5_goOn 28 = .ok (.iload 4, 2) := by decide +kernel
theorem dX5_goOn_30 : decode cX5_goOn 30 = .ok (.iload_n 2, 1) := by decide +kernel
theorem dX5_goOn_31 : decode cX5_goOn 31 = .ok (.iload_n 3, 1) := by decide +kernel
theorem dX5_goOn_32 : decode cX5_goOn 32 = .ok (.invokevirtual 71, 3) := by decide +kernel
theorem dX5_goOn_35 : decode cX5_goOn 35 = .ok (.iinc 4 1, 3) := by decide +kernel
theorem dX5_goOn_38 : decode cX5_goOn 38 = .ok (.goto (-35), 3) := by decide +kernel
theorem dX5_goOn_41 : decode cX5_goOn 41 = .ok (.return_, 1) := by decide +kernel
set_option maxRecDepth 20000 in
theorem ggX5_goBy_X0_part : GoodIn wsX5_goBy wsX0_part := goodIn_r _ [5, 6, 47, 48, 49, 50] (by decide +kernel) (by decide +kernel)
set_option maxRecDepth 20000 in
theorem gX5_goBy_X0_part : GoodIn wsX5_goBy (wsV RX5 68 RX0 yX0_part wsX0_part) := goodIn_app (goodIn_of _ (by decide +kernel)) ggX5_goBy_X0_part
set_option maxRecDepth 20000 in
theorem ggX5_goBy_X5_wordOf : GoodIn wsX5_goBy wsX5_wordOf := goodIn_r _ [10] (by decide +kernel) (by decide +kernel)
set_option maxRecDepth 20000 in
theorem gX5_goBy_X5_wordOf : GoodIn wsX5_goBy (va_wsS RX5 53 yX5_wordOf wsX5_wordOf) := goodIn_app (goodIn_of _ (by decide +kernel)) ggX5_goBy_X5_wordOf
set_option maxRecDepth 20000 in
theorem ggX5_goBy_X0_wordBehind : GoodIn wsX5_goBy wsX0_wordBehind := goodIn_r _ [14, 15, 16, 2, 3, 4, 5, 6, 17, 18, 19, 20, 21, 22, 23, 24, 25, 26, 27, 28, 29, 30, 31, 32, 33, 34, 35, 36, 47, 48, 49, 50] (by decide +kernel) (by decide +kernel)
set_option maxRecDepth 20000 in
theorem gX5_goBy_X0_wordBehind : GoodIn wsX5_goBy (wsV RX5 75 RX0 yX0_wordBehind wsX0_wordBehind) := goodIn_app (goodIn_of _ (by decide +kernel)) ggX5_goBy_X0_wordBehind
set_option maxRecDepth 20000 in
theorem ggX5_goBy_X6_isLonger : GoodIn wsX5_goBy wsX6_isLonger := goodIn_r _ [39] (by decide +kernel) (by decide +kernel)
set_option maxRecDepth 20000 in
theorem gX5_goBy_X6_isLonger : GoodIn wsX5_goBy (va_wsS RX5 78 yX6_isLonger wsX6_isLonger) := goodIn_app (goodIn_of _ (by decide +kernel)) ggX5_goBy_X6_isLonger
set_option maxRecDepth 20000 in
theorem ggX5_goBy_X5_add : GoodIn wsX5_goBy wsX5_add := goodIn_r _ [43, 44, 45, 46, 51, 52, 53] (by decide +kernel) (by decide +kernel)
set_option maxRecDepth 20000 in
theorem gX5_goBy_X5_add : GoodIn wsX5_goBy (wsV RX5 37 RX5 yX5_add wsX5_add) := goodIn_app (goodIn_of _ (by decide +kernel)) ggX5_goBy_X5_add
theorem dX5_goBy_0 : decode cX5_goBy 0 = .ok (.aload_n 1, 1) := by decide +kernel
theorem dX5_goBy_1 : decode cX5_goBy 1 = .ok (.iload_n 2, 1) := by decide +kernel
theorem dX5_goBy_2 : decode cX5_goBy 2 = .ok (.iconst 2, 1) := by decide +kernel
theorem dX5_goBy_3 : decode cX5_goBy 3 = .ok (.invokevirtual 68, 3) := by decide +kernel
theorem dX5_goBy_6 : decode cX5_goBy 6 = .ok (.istore 5, 2) := by decide +kernel
theorem dX5_goBy_8 : decode cX5_goBy 8 = .ok (.aload_n 1, 1) := by decide +kernel
theorem dX5_goBy_9 : decode cX5_goBy 9 = .ok (.iload_n 2, 1) := by decide +kernel
theorem dX5_goBy_10 : decode cX5_goBy 10 = .ok (.iload_n 3, 1) := by decide +kernel
theorem dX5_goBy_11 : decode cX5_goBy 11 = .ok (.iload 5, 2) := by decide +kernel
theorem dX5_goBy_13 : decode cX5_goBy 13 = .ok (.invokestatic 53, 3) := by decide +kernel
theorem dX5_goBy_16 : decode cX5_goBy 16 = .ok (.invokevirtual 75, 3) := by decide +kernel
theorem dX5_goBy_19 : decode cX5_goBy 19 = .ok (.istore 6, 2) := by decide +kernel
theorem dX5_goBy_21 : decode cX5_goBy 21 = .ok (.iload 6, 2) := by decide +kernel
theorem dX5_goBy_23 : decode cX5_goBy 23 = .ok (.iconst (-1), 1) := by decide +kernel
theorem dX5_goBy_24 : decode cX5_goBy 24 = .ok (.if_icmp .eq 13, 3) := by decide +kernel
theorem dX5_goBy_27 : decode cX5_goBy 27 = .ok (.iload 6, 2) := by decide +kernel
theorem dX5_goBy_29 : decode cX5_goBy 29 = .ok (.iload 4, 2) := by decide +kernel
theorem dX5_goBy_31 : decode cX5_goBy 31 = .ok (.invokestatic 78, 3) := by decide +kernel
theorem dX5_goBy_34 : decode cX5_goBy 34 = .ok (.ifCond .eq 4, 3) := by decide +kernel
theorem dX5_goBy_37 : decode cX5_goBy 37 = .ok (.return_, 1) := by decide +kernel
theorem dX5_goBy_38 : decode cX5_goBy 38 = .ok (.aload_n 1, 1) := by decide +kernel
theorem dX5_goBy_39 : decode cX5_goBy 39 = .ok (.iload_n 2, 1) := by decide +kernel
theorem dX5_goBy_40 : decode cX5_goBy 40 = .ok (.iconst 4, 1) := by decide +kernel
theorem dX5_goBy_41 : decode cX5_goBy 41 = .ok (.invokevirtual 68, 3) := by decide +kernel
theorem dX5_goBy_44 : decode cX5_goBy 44 = .ok (.istore 7, 2) := by decide +kernel
theorem dX5_goBy_46 : decode cX5_goBy 46 = .ok (.aload_n 0, 1) := by decide +kernel
theorem dX5_goBy_47 : decode cX5_goBy 47 = .ok (.iload 7, 2) := by decide +kernel
theorem dX5_goBy_49 : decode cX5_goBy 49 = .ok (.iload 5, 2) := by decide +kernel
theorem dX5_goBy_51 : decode cX5_goBy 51 = .ok (.ifCond .ne 8, 3) := by decide +kernel
theorem dX5_goBy_54 : decode cX5_goBy 54 = .ok (.iload 6, 2) := by decide +kernel
theorem dX5_goBy_56 : decode cX5_goBy 56 = .ok (.goto 8, 3) := by decide +kernel
theorem dX5_goBy_59 : decode cX5_goBy 59 = .ok (.iload_n 3, 1) := by decide +kernel
theorem dX5_goBy_60 : decode cX5_goBy 60 = .ok (.iconst 0, 1) := by decide +kernel
theorem dX5_goBy_61 : decode cX5_goBy 61 = .ok (.invokestatic 53, 3) := by decide +kernel
theorem dX5_goBy_64 : decode cX5_goBy 64 = .ok (.iload 5, 2) := by decide +kernel
theorem dX5_goBy_66 : decode cX5_goBy 66 = .ok (.iconst 1, 1) := by decide +kernel
theorem dX5_goBy_67 : decode cX5_goBy 67 = .ok (.if_icmp .ne 8, 3) := by decide +kernel
theorem dX5_goBy_70 : decode cX5_goBy 70 = .ok (.iload 6, 2) := by decide +kernel
theorem dX5_goBy_72 : decode cX5_goBy 72 = .ok (.goto 8, 3) := by decide +kernel
theorem dX5_goBy_75 : decode cX5_goBy 75 = .ok (.iload_n 3, 1) := by decide +kernel
theorem dX5_goBy_76 : decode cX5_goBy 76 = .ok (.iconst 1, 1) := by decide +kernel
theorem dX5_goBy_77 : decode cX5_goBy 77 = .ok (.invokestatic 53, 3) := by decide +kernel
theorem dX5_goBy_80 : decode cX5_goBy 80 = .ok (.invokevirtual 37, 3) := by decide +kernel
theorem dX5_goBy_83 : decode cX5_goBy 83 = .ok (.return_, 1) := by decide +kernel
theorem dX6_size_0 : decode cX6_size 0 = .ok (.iconst 0, 1) := by decide +kernel
theorem dX6_size_1 : decode cX6_size 1 = .ok (.istore_n 1, 1) := by decide +kernel
theorem dX6_size_2 : decode cX6_size 2 = .ok (.iload_n 1, 1) := by decide +kernel
theorem dX6_size_3 : decode cX6_size 3 = .ok (.bipush 15, 2) := by decide +kernel
theorem dX6_size_5 : decode cX6_size 5 = .ok (.if_icmp .ge 17, 3) := by decide +kernel
theorem dX6_size_8 : decode cX6_size 8 = .ok (.iload_n 0, 1) := by decide +kernel
theorem dX6_size_9 : decode cX6_size 9 = .ok (.iconst 2, 1) := by decide +kernel
theorem dX6_size_10 : decode cX6_size 10 = .ok (.iload_n 1, 1) := by decide +kernel
theorem dX6_size_11 : decode cX6_size 11 = .ok (.imul, 1) := by decide +kernel
theorem dX6_size_12 : decode cX6_size 12 = .ok (.iushr, 1) := by decide +kernel
theorem dX6_size_13 : decode cX6_size 13 = .ok (.ifCond .eq 9, 3) := by decide +kernel
theorem dX6_size_16 : decode cX6_size 16 = .ok (.iinc 1 1, 3) := by decide +kernel
theorem dX6_size_19 : decode cX6_size 19 = .ok (.goto (-17), 3) := by decide +kernel
theorem dX6_size_22 : decode cX6_size 22 = .ok (.iload_n 1, 1) := by decide +kernel
theorem dX6_size_23 : decode cX6_size 23 = .ok (.ireturn, 1) := by decide +kernel
theorem dX6_isLonger_0 : decode cX6_isLonger 0 = .ok (.iload_n 0, 1) := by decide +kernel
theorem dX6_isLonger_1 : decode cX6_isLonger 1 = .ok (.iconst 2, 1) := by decide +kernel
theorem dX6_isLonger_2 : decode cX6_isLonger 2 = .ok (.iload_n 1, 1) := by decide +kernel
theorem dX6_isLonger_3 : decode cX6_isLonger 3 = .ok (.imul, 1) := by decide +kernel
theorem dX6_isLonger_4 : decode cX6_isLonger 4 = .ok (.iushr, 1) := by decide +kernel
theorem dX6_isLonger_5 : decode cX6_isLonger 5 = .ok (.ifCond .eq 7, 3) := by decide +kernel
theorem dX6_isLonger_8 : decode cX6_isLonger 8 = .ok (.iconst 1, 1) := by decide +kernel
theorem dX6_isLonger_9 : decode cX6_isLonger 9 = .ok (.goto 4, 3) := by decide +kernel
theorem dX6_isLonger_12 : decode cX6_isLonger 12 = .ok (.iconst 0, 1) := by decide +kernel
theorem dX6_isLonger_13 : decode cX6_isLonger 13 = .ok (.ireturn, 1) := by decide +kernel
theorem dX6_at_0 : decode cX6_at 0 = .ok (.iload_n 0, 1) := by decide +kernel
theorem dX6_at_1 : decode cX6_at 1 = .ok (.iconst 2, 1) := by decide +kernel
theorem dX6_at_2 : decode cX6_at 2 = .ok (.iload_n 1, 1) := by decide +kernel
theorem dX6_at_3 : decode cX6_at 3 = .ok (.imul, 1) := by decide +kernel
theorem dX6_at_4 : decode cX6_at 4 = .ok (.iushr, 1) := by decide +kernel
theorem dX6_at_5 : decode cX6_at 5 = .ok (.iconst 3, 1) := by decide +kernel
theorem dX6_at_6 : decode cX6_at 6 = .ok (.iand, 1) := by decide +kernel
theorem dX6_at_7 : decode cX6_at 7 = .ok (.iconst 1, 1) := by decide +kernel
theorem dX6_at_8 : decode cX6_at 8 = .ok (.isub, 1) := by decide +kernel
theorem dX6_at_9 : decode cX6_at 9 = .ok (.ireturn, 1) := by decide +kernel
theorem dX6_with_0 : decode cX6_with 0 = .ok (.iload_n 0, 1) := by decide +kernel
theorem dX6_with_1 : decode cX6_with 1 = .ok (.iconst 1, 1) := by decide +kernel
theorem dX6_with_2 : decode cX6_with 2 = .ok (.iconst 2, 1) := by decide +kernel
theorem dX6_with_3 : decode cX6_with 3 = .ok (.iload_n 1, 1) := by decide +kernel
theorem dX6_with_4 : decode cX6_with 4 = .ok (.imul, 1) := by decide +kernel
theorem dX6_with_5 : decode cX6_with 5 = .ok (.ishl, 1) := by decide +kernel
theorem dX6_with_6 : decode cX6_with 6 = .ok (.iconst 1, 1) := by decide +kernel
theorem dX6_with_7 : decode cX6_with 7 = .ok (.isub, 1) := by decide +kernel
theorem dX6_with_8 : decode cX6_with 8 = .ok (.iand, 1) := by decide +kernel
theorem dX6_with_9 : decode cX6_with 9 = .ok (.istore_n 3, 1) := by decide +kernel
theorem dX6_with_10 : decode cX6_with 10 = .ok (.iload_n 0, 1) := by decide +kernel
theorem dX6_with_11 : decode cX6_with 11 = .ok (.iconst 2, 1) := by decide +kernel
theorem dX6_with_12 : decode cX6_with 12 = .ok (.iload_n 1, 1) := by decide +kernel
theorem dX6_with_13 : decode cX6_with 13 = .ok (.imul, 1) := by decide +kernel
theorem dX6_with_14 : decode cX6_with 14 = .ok (.iushr, 1) := by decide +kernel
theorem dX6_with_15 : decode cX6_with 15 = .ok (.istore 4, 2) := by decide +kernel
theorem dX6_with_17 : decode cX6_with 17 = .ok (.iload_n 3, 1) := by decide +kernel
theorem dX6_with_18 : decode cX6_with 18 = .ok (.iload 4, 2) := by decide +kernel
theorem dX6_with_20 : decode cX6_with 20 = .ok (.iconst 2, 1) := by decide +kernel
theorem dX6_with_21 : decode cX6_with 21 = .ok (.ishl, 1) := by decide +kernel
theorem dX6_with_22 : decode cX6_with 22 = .ok (.iload_n 2, 1) := by decide +kernel
theorem dX6_with_23 : decode cX6_with 23 = .ok (.iconst 1, 1) := by decide +kernel
theorem dX6_with_24 : decode cX6_with 24 = .ok (.iadd, 1) := by decide +kernel
theorem dX6_with_25 : decode cX6_with 25 = .ok (.ior, 1) := by decide +kernel
theorem dX6_with_26 : decode cX6_with 26 = .ok (.iconst 2, 1) := by decide +kernel
theorem dX6_with_27 : decode cX6_with 27 = .ok (.iload_n 1, 1) := by decide +kernel
theorem dX6_with_28 : decode cX6_with 28 = .ok (.imul, 1) := by decide +kernel
theorem dX6_with_29 : decode cX6_with 29 = .ok (.ishl, 1) := by decide +kernel
theorem dX6_with_30 : decode cX6_with 30 = .ok (.ior, 1) := by decide +kernel
theorem dX6_with_31 : decode cX6_with 31 = .ok (.ireturn, 1) := by decide +kernel
theorem dX6_without_0 : decode cX6_without 0 = .ok (.iload_n 0, 1) := by decide +kernel
theorem dX6_without_1 : decode cX6_without 1 = .ok (.iconst 1, 1) := by decide +kernel
theorem dX6_without_2 : decode cX6_without 2 = .ok (.iconst 2, 1) := by decide +kernel
theorem dX6_without_3 : decode cX6_without 3 = .ok (.iload_n 1, 1) := by decide +kernel
theorem dX6_without_4 : decode cX6_without 4 = .ok (.imul, 1) := by decide +kernel
theorem dX6_without_5 : decode cX6_without 5 = .ok (.ishl, 1) := by decide +kernel
theorem dX6_without_6 : decode cX6_without 6 = .ok (.iconst 1, 1) := by decide +kernel
theorem dX6_without_7 : decode cX6_without 7 = .ok (.isub, 1) := by decide +kernel
theorem dX6_without_8 : decode cX6_without 8 = .ok (.iand, 1) := by decide +kernel
theorem dX6_without_9 : decode cX6_without 9 = .ok (.istore_n 2, 1) := by decide +kernel
theorem dX6_without_10 : decode cX6_without 10 = .ok (.iload_n 0, 1) := by decide +kernel
theorem dX6_without_11 : decode cX6_without 11 = .ok (.iconst 2, 1) := by decide +kernel
theorem dX6_without_12 : decode cX6_without 12 = .ok (.iload_n 1, 1) := by decide +kernel
theorem dX6_without_13 : decode cX6_without 13 = .ok (.imul, 1) := by decide +kernel
theorem dX6_without_14 : decode cX6_without 14 = .ok (.iconst 2, 1) := by decide +kernel
theorem dX6_without_15 : decode cX6_without 15 = .ok (.iadd, 1) := by decide +kernel
theorem dX6_without_16 : decode cX6_without 16 = .ok (.iushr, 1) := by decide +kernel
theorem dX6_without_17 : decode cX6_without 17 = .ok (.istore_n 3, 1) := by decide +kernel
theorem dX6_without_18 : decode cX6_without 18 = .ok (.iload_n 2, 1) := by decide +kernel
theorem dX6_without_19 : decode cX6_without 19 = .ok (.iload_n 3, 1) := by decide +kernel
theorem dX6_without_20 : decode cX6_without 20 = .ok (.iconst 2, 1) := by decide +kernel
theorem dX6_without_21 : decode cX6_without 21 = .ok (.iload_n 1, 1) := by decide +kernel
theorem dX6_without_22 : decode cX6_without 22 = .ok (.imul, 1) := by decide +kernel
theorem dX6_without_23 : decode cX6_without 23 = .ok (.ishl, 1) := by decide +kernel
theorem dX6_without_24 : decode cX6_without 24 = .ok (.ior, 1) := by decide +kernel
theorem dX6_without_25 : decode cX6_without 25 = .ok (.ireturn, 1) := by decide +kernel
theorem dX6_find_0 : decode cX6_find 0 = .ok (.iconst 0, 1) := by decide +kernel
theorem dX6_find_1 : decode cX6_find 1 = .ok (.istore_n 2, 1) := by decide +kernel
theorem dX6_find_2 : decode cX6_find 2 = .ok (.iload_n 2, 1) := by decide +kernel
theorem dX6_find_3 : decode cX6_find 3 = .ok (.bipush 15, 2) := by decide +kernel
theorem dX6_find_5 : decode cX6_find 5 = .ok (.if_icmp .ge 24, 3) := by decide +kernel
theorem dX6_find_8 : decode cX6_find 8 = .ok (.iload_n 0, 1) := by decide +kernel
theorem dX6_find_9 : decode cX6_find 9 = .ok (.iconst 2, 1) := by decide +kernel
theorem dX6_find_10 : decode cX6_find 10 = .ok (.iload_n 2, 1) := by decide +kernel
theorem dX6_find_11 : decode cX6_find 11 = .ok (.imul, 1) := by decide +kernel
theorem dX6_find_12 : decode cX6_find 12 = .ok (.iushr, 1) := by decide +kernel
theorem dX6_find_13 : decode cX6_find 13 = .ok (.iconst 3, 1) := by decide +kernel
theorem dX6_find_14 : decode cX6_find 14 = .ok (.iand, 1) := by decide +kernel
theorem dX6_find_15 : decode cX6_find 15 = .ok (.iload_n 1, 1) := by decide +kernel
theorem dX6_find_16 : decode cX6_find 16 = .ok (.iconst 1, 1) := by decide +kernel
theorem dX6_find_17 : decode cX6_find 17 = .ok (.iadd, 1) := by decide +kernel
theorem dX6_find_18 : decode cX6_find 18 = .ok (.if_icmp .ne 5, 3) := by decide +kernel
theorem dX6_find_21 : decode cX6_find 21 = .ok (.iload_n 2, 1) := by decide +kernel
theorem dX6_find_22 : decode cX6_find 22 = .ok (.ireturn, 1) := by decide +kernel
theorem dX6_find_23 : decode cX6_find 23 = .ok (.iinc 2 1, 3) := by decide +kernel
theorem dX6_find_26 : decode cX6_find 26 = .ok (.goto (-24), 3) := by decide +kernel
theorem dX6_find_29 : decode cX6_find 29 = .ok (.iconst (-1), 1) := by decide +kernel
theorem dX6_find_30 : decode cX6_find 30 = .ok (.ireturn, 1) := by decide +kernel
theorem dX6_placeInOrder_0 : decode cX6_placeInOrder 0 = .ok (.iload_n 0, 1) := by decide +kernel
theorem dX6_placeInOrder_1 : decode cX6_placeInOrder 1 = .ok (.istore_n 2, 1) := by decide +kernel
theorem dX6_placeInOrder_2 : decode cX6_placeInOrder 2 = .ok (.iconst 0, 1) := by decide +kernel
theorem dX6_placeInOrder_3 : decode cX6_placeInOrder 3 = .ok (.istore_n 3, 1) := by decide +kernel
theorem dX6_placeInOrder_4 : decode cX6_placeInOrder 4 = .ok (.iload_n 3, 1) := by decide +kernel
theorem dX6_placeInOrder_5 : decode cX6_placeInOrder 5 = .ok (.bipush 15, 2) := by decide +kernel
theorem dX6_placeInOrder_7 : decode cX6_placeInOrder 7 = .ok (.if_icmp .ge 26, 3) := by decide +kernel
theorem dX6_placeInOrder_10 : decode cX6_placeInOrder 10 = .ok (.iload_n 2, 1) := by decide +kernel
theorem dX6_placeInOrder_11 : decode cX6_placeInOrder 11 = .ok (.ifCond .eq 22, 3) := by decide +kernel
theorem dX6_placeInOrder_14 : decode cX6_placeInOrder 14 = .ok (.iload_n 2, 1) := by decide +kernel
theorem dX6_placeInOrder_15 : decode cX6_placeInOrder 15 = .ok (.iconst 3, 1) := by decide +kernel
theorem dX6_placeInOrder_16 : decode cX6_placeInOrder 16 = .ok (.iand, 1) := by decide +kernel
theorem dX6_placeInOrder_17 : decode cX6_placeInOrder 17 = .ok (.iload_n 1, 1) := by decide +kernel
theorem dX6_placeInOrder_18 : decode cX6_placeInOrder 18 = .ok (.iconst 1, 1) := by decide +kernel
theorem dX6_placeInOrder_19 : decode cX6_placeInOrder 19 = .ok (.iadd, 1) := by decide +kernel
theorem dX6_placeInOrder_20 : decode cX6_placeInOrder 20 = .ok (.if_icmp .gt 13, 3) := by decide +kernel
theorem dX6_placeInOrder_23 : decode cX6_placeInOrder 23 = .ok (.iload_n 2, 1) := by decide +kernel
theorem dX6_placeInOrder_24 : decode cX6_placeInOrder 24 = .ok (.iconst 2, 1) := by decide +kernel
theorem dX6_placeInOrder_25 : decode cX6_placeInOrder 25 = .ok (.iushr, 1) := by decide +kernel
theorem dX6_placeInOrder_26 : decode cX6_placeInOrder 26 = .ok (.istore_n 2, 1) := by decide +kernel
theorem dX6_placeInOrder_27 : decode cX6_placeInOrder 27 = .ok (.iinc 3 1, 3) := by decide +kernel
theorem dX6_placeInOrder_30 : decode cX6_placeInOrder 30 = .ok (.goto (-26), 3) := by decide +kernel
theorem dX6_placeInOrder_33 : decode cX6_placeInOrder 33 = .ok (.iload_n 3, 1) := by decide +kernel
theorem dX6_placeInOrder_34 : decode cX6_placeInOrder 34 = .ok (.ireturn, 1) := by decide +kernel
theorem dX6_isIn_0 : decode cX6_isIn 0 = .ok (.iload_n 0, 1) := by decide +kernel
theorem dX6_isIn_1 : decode cX6_isIn 1 = .ok (.istore_n 2, 1) := by decide +kernel
theorem dX6_isIn_2 : decode cX6_isIn 2 = .ok (.iload_n 1, 1) := by decide +kernel
theorem dX6_isIn_3 : decode cX6_isIn 3 = .ok (.istore_n 3, 1) := by decide +kernel
theorem dX6_isIn_4 : decode cX6_isIn 4 = .ok (.iconst 0, 1) := by decide +kernel
theorem dX6_isIn_5 : decode cX6_isIn 5 = .ok (.istore 4, 2) := by decide +kernel
theorem dX6_isIn_7 : decode cX6_isIn 7 = .ok (.iload 4, 2) := by decide +kernel
theorem dX6_isIn_9 : decode cX6_isIn 9 = .ok (.bipush 15, 2) := by decide +kernel
theorem dX6_isIn_11 : decode cX6_isIn 11 = .ok (.if_icmp .ge 34, 3) := by decide +kernel
theorem dX6_isIn_14 : decode cX6_isIn 14 = .ok (.iload_n 2, 1) := by decide +kernel
theorem dX6_isIn_15 : decode cX6_isIn 15 = .ok (.ifCond .eq 30, 3) := by decide +kernel
theorem dX6_isIn_18 : decode cX6_isIn 18 = .ok (.iload_n 3, 1) := by decide +kernel
theorem dX6_isIn_19 : decode cX6_isIn 19 = .ok (.ifCond .eq 26, 3) := by decide +kernel
theorem dX6_isIn_22 : decode cX6_isIn 22 = .ok (.iload_n 2, 1) := by decide +kernel
theorem dX6_isIn_23 : decode cX6_isIn 23 = .ok (.iconst 3, 1) := by decide +kernel
theorem dX6_isIn_24 : decode cX6_isIn 24 = .ok (.iand, 1) := by decide +kernel
theorem dX6_isIn_25 : decode cX6_isIn 25 = .ok (.iload_n 3, 1) := by decide +kernel
theorem dX6_isIn_26 : decode cX6_isIn 26 = .ok (.iconst 3, 1) := by decide +kernel
theorem dX6_isIn_27 : decode cX6_isIn 27 = .ok (.iand, 1) := by decide +kernel
theorem dX6_isIn_28 : decode cX6_isIn 28 = .ok (.if_icmp .ne 7, 3) := by decide +kernel
theorem dX6_isIn_31 : decode cX6_isIn 31 = .ok (.iload_n 2, 1) := by decide +kernel
theorem dX6_isIn_32 : decode cX6_isIn 32 = .ok (.iconst 2, 1) := by decide +kernel
theorem dX6_isIn_33 : decode cX6_isIn 33 = .ok (.iushr, 1) := by decide +kernel
theorem dX6_isIn_34 : decode cX6_isIn 34 = .ok (.istore_n 2, 1) := by decide +kernel
theorem dX6_isIn_35 : decode cX6_isIn 35 = .ok (.iload_n 3, 1) := by decide +kernel
theorem dX6_isIn_36 : decode cX6_isIn 36 = .ok (.iconst 2, 1) := by decide +kernel
theorem dX6_isIn_37 : decode cX6_isIn 37 = .ok (.iushr, 1) := by decide +kernel
theorem dX6_isIn_38 : decode cX6_isIn 38 = .ok (.istore_n 3, 1) := by decide +kernel
theorem dX6_isIn_39 : decode cX6_isIn 39 = .ok (.iinc 4 1, 3) := by decide +kernel
theorem dX6_isIn_42 : decode cX6_isIn 42 = .ok (.goto (-35), 3) := by decide +kernel
theorem dX6_isIn_45 : decode cX6_isIn 45 = .ok (.iload_n 2, 1) := by decide +kernel
theorem dX6_isIn_46 : decode cX6_isIn 46 = .ok (.ifCond .ne 7, 3) := by decide +kernel
theorem dX6_isIn_49 : decode cX6_isIn 49 = .ok (.iconst 1, 1) := by decide +kernel
theorem dX6_isIn_50 : decode cX6_isIn 50 = .ok (.goto 4, 3) := by decide +kernel
theorem dX6_isIn_53 : decode cX6_isIn 53 = .ok (.iconst 0, 1) := by decide +kernel
theorem dX6_isIn_54 : decode cX6_isIn 54 = .ok (.ireturn, 1) := by decide +kernel
set_option maxRecDepth 20000 in
theorem ggX7_init_X0_init : GoodIn wsX7_init wsX0_init := goodIn_r _ [30, 31, 2, 3, 32, 33, 34, 35, 36, 66, 67, 68, 69] (by decide +kernel) (by decide +kernel)
set_option maxRecDepth 20000 in
theorem gX7_init_X0_init_n9 : GoodIn wsX7_init (wsX0_init) := ggX7_init_X0_init
set_option maxRecDepth 20000 in
theorem ggX7_init_X4_init : GoodIn wsX7_init wsX4_init := goodIn_r _ [38, 39, 2, 3, 35, 40, 41, 42, 78, 79, 80, 81] (by decide +kernel) (by decide +kernel)
set_option maxRecDepth 20000 in
theorem gX7_init_X4_init_n18 : GoodIn wsX7_init (wsX4_init) := ggX7_init_X4_init
set_option maxRecDepth 20000 in
theorem ggX7_init_X1_init : GoodIn wsX7_init wsX1_init := goodIn_r _ [44, 45, 2, 3, 35, 46, 82, 83] (by decide +kernel) (by decide +kernel)
set_option maxRecDepth 20000 in
theorem gX7_init_X1_init_n25 : GoodIn wsX7_init (wsX1_init) := ggX7_init_X1_init
set_option maxRecDepth 20000 in
theorem ggX7_init_X2_init : GoodIn wsX7_init wsX2_init := goodIn_r _ [48, 49, 2, 3, 35, 50, 51, 52, 53, 54, 55, 84, 85, 86, 87, 88, 89, 90, 91] (by decide +kernel) (by decide +kernel)
set_option maxRecDepth 20000 in
theorem gX7_init_X2_init_n35 : GoodIn wsX7_init (wsX2_init) := ggX7_init_X2_init
set_option maxRecDepth 20000 in
theorem ggX7_init_X5_init : GoodIn wsX7_init wsX5_init := goodIn_r _ [57, 58, 2, 3, 59, 60, 35, 61, 92, 93, 94] (by decide +kernel) (by decide +kernel)
set_option maxRecDepth 20000 in
theorem gX7_init_X5_init_n42 : GoodIn wsX7_init (wsX5_init) := ggX7_init_X5_init
set_option maxRecDepth 20000 in
theorem ggX7_init_X3_init : GoodIn wsX7_init wsX3_init := goodIn_r _ [63, 64, 2, 3, 35, 65, 95, 96, 97, 98] (by decide +kernel) (by decide +kernel)
set_option maxRecDepth 20000 in
theorem gX7_init_X3_init_n49 : GoodIn wsX7_init (wsX3_init) := ggX7_init_X3_init
theorem dX7_init_0 : decode cX7_init 0 = .ok (.aload_n 0, 1) := by decide +kernel
theorem dX7_init_1 : decode cX7_init 1 = .ok (.invokespecial 1, 3) := by decide +kernel
theorem dX7_init_4 : decode cX7_init 4 = .ok (.aload_n 0, 1) := by decide +kernel
theorem dX7_init_5 : decode cX7_init 5 = .ok (.new 7, 3) := by decide +kernel
theorem dX7_init_8 : decode cX7_init 8 = .ok (.dup, 1) := by decide +kernel
theorem dX7_init_9 : decode cX7_init 9 = .ok (.invokespecial 9, 3) := by decide +kernel
theorem dX7_init_12 : decode cX7_init 12 = .ok (.putfield 10, 3) := by decide +kernel
theorem dX7_init_15 : decode cX7_init 15 = .ok (.aload_n 0, 1) := by decide +kernel
theorem dX7_init_16 : decode cX7_init 16 = .ok (.new 16, 3) := by decide +kernel
theorem dX7_init_19 : decode cX7_init 19 = .ok (.dup, 1) := by decide +kernel
theorem dX7_init_20 : decode cX7_init 20 = .ok (.invokespecial 18, 3) := by decide +kernel
theorem dX7_init_23 : decode cX7_init 23 = .ok (.putfield 19, 3) := by decide +kernel
theorem dX7_init_26 : decode cX7_init 26 = .ok (.aload_n 0, 1) := by decide +kernel
theorem dX7_init_27 : decode cX7_init 27 = .ok (.new 23, 3) := by decide +kernel
theorem dX7_init_30 : decode cX7_init 30 = .ok (.dup, 1) := by decide +kernel
theorem dX7_init_31 : decode cX7_init 31 = .ok (.invokespecial 25, 3) := by decide +kernel
theorem dX7_init_34 : decode cX7_init 34 = .ok (.putfield 26, 3) := by decide +kernel
theorem dX7_init_37 : decode cX7_init 37 = .ok (.aload_n 0, 1) := by decide +kernel
theorem dX7_init_38 : decode cX7_init 38 = .ok (.new 23, 3) := by decide +kernel
theorem dX7_init_41 : decode cX7_init 41 = .ok (.dup, 1) := by decide +kernel
theorem dX7_init_42 : decode cX7_init 42 = .ok (.invokespecial 25, 3) := by decide +kernel
theorem dX7_init_45 : decode cX7_init 45 = .ok (.putfield 30, 3) := by decide +kernel
theorem dX7_init_48 : decode cX7_init 48 = .ok (.aload_n 0, 1) := by decide +kernel
theorem dX7_init_49 : decode cX7_init 49 = .ok (.new 33, 3) := by decide +kernel
theorem dX7_init_52 : decode cX7_init 52 = .ok (.dup, 1) := by decide +kernel
theorem dX7_init_53 : decode cX7_init 53 = .ok (.invokespecial 35, 3) := by decide +kernel
theorem dX7_init_56 : decode cX7_init 56 = .ok (.putfield 36, 3) := by decide +kernel
theorem dX7_init_59 : decode cX7_init 59 = .ok (.aload_n 0, 1) := by decide +kernel
theorem dX7_init_60 : decode cX7_init 60 = .ok (.new 40, 3) := by decide +kernel
theorem dX7_init_63 : decode cX7_init 63 = .ok (.dup, 1) := by decide +kernel
theorem dX7_init_64 : decode cX7_init 64 = .ok (.invokespecial 42, 3) := by decide +kernel
theorem dX7_init_67 : decode cX7_init 67 = .ok (.putfield 43, 3) := by decide +kernel
theorem dX7_init_70 : decode cX7_init 70 = .ok (.aload_n 0, 1) := by decide +kernel
theorem dX7_init_71 : decode cX7_init 71 = .ok (.iconst 2, 1) := by decide +kernel
theorem dX7_init_72 : decode cX7_init 72 = .ok (.anewarray 47, 3) := by decide +kernel
theorem dX7_init_75 : decode cX7_init 75 = .ok (.dup, 1) := by decide +kernel
theorem dX7_init_76 : decode cX7_init 76 = .ok (.iconst 0, 1) := by decide +kernel
theorem dX7_init_77 : decode cX7_init 77 = .ok (.new 47, 3) := by decide +kernel
theorem dX7_init_80 : decode cX7_init 80 = .ok (.dup, 1) := by decide +kernel
theorem dX7_init_81 : decode cX7_init 81 = .ok (.invokespecial 49, 3) := by decide +kernel
theorem dX7_init_84 : decode cX7_init 84 = .ok (.aastore, 1) := by decide +kernel
theorem dX7_init_85 : decode cX7_init 85 = .ok (.dup, 1) := by decide +kernel
theorem dX7_init_86 : decode cX7_init 86 = .ok (.iconst 1, 1) := by decide +kernel
theorem dX7_init_87 : decode cX7_init 87 = .ok (.new 47, 3) := by decide +kernel
theorem dX7_init_90 : decode cX7_init 90 = .ok (.dup, 1) := by decide +kernel
theorem dX7_init_91 : decode cX7_init 91 = .ok (.invokespecial 49, 3) := by decide +kernel
theorem dX7_init_94 : decode cX7_init 94 = .ok (.aastore, 1) := by decide +kernel
theorem dX7_init_95 : decode cX7_init 95 = .ok (.putfield 50, 3) := by decide +kernel
theorem dX7_init_98 : decode cX7_init 98 = .ok (.return_, 1) := by decide +kernel
set_option maxRecDepth 20000 in
theorem ggX7_states_X1_clear : GoodIn wsX7_states wsX1_clear := goodIn_r _ [9, 10, 11, 31, 32] (by decide +kernel) (by decide +kernel)
set_option maxRecDepth 20000 in
theorem gX7_states_X1_clear : GoodIn wsX7_states (wsV RX7 61 RX1 yX1_clear wsX1_clear) := goodIn_app (goodIn_of _ (by decide +kernel)) ggX7_states_X1_clear
set_option maxRecDepth 20000 in
theorem ggX7_states_X7_startAgain : GoodIn wsX7_states wsX7_startAgain := goodIn_r _ [16, 17, 18, 5, 6, 7, 8, 9, 10, 11, 19, 20, 21, 22, 23, 24, 25, 26, 31, 32] (by decide +kernel) (by decide +kernel)
set_option maxRecDepth 20000 in
theorem gX7_states_X7_startAgain : GoodIn wsX7_states (wsV RX7 65 RX7 yX7_startAgain wsX7_startAgain) := goodIn_app (goodIn_of _ (by decide +kernel)) ggX7_states_X7_startAgain
theorem dX7_states_0 : decode cX7_states 0 = .ok (.iload_n 1, 1) := by decide +kernel
theorem dX7_states_1 : decode cX7_states 1 = .ok (.iconst 1, 1) := by decide +kernel
theorem dX7_states_2 : decode cX7_states 2 = .ok (.if_icmp .lt 9, 3) := by decide +kernel
theorem dX7_states_5 : decode cX7_states 5 = .ok (.iload_n 1, 1) := by decide +kernel
theorem dX7_states_6 : decode cX7_states 6 = .ok (.bipush 8, 2) := by decide +kernel
theorem dX7_states_8 : decode cX7_states 8 = .ok (.if_icmp .le 5, 3) := by decide +kernel
theorem dX7_states_11 : decode cX7_states 11 = .ok (.iconst (-1), 1) := by decide +kernel
theorem dX7_states_12 : decode cX7_states 12 = .ok (.ireturn, 1) := by decide +kernel
theorem dX7_states_13 : decode cX7_states 13 = .ok (.aload_n 0, 1) := by decide +kernel
theorem dX7_states_14 : decode cX7_states 14 = .ok (.getfield 10, 3) := by decide +kernel
theorem dX7_states_17 : decode cX7_states 17 = .ok (.getfield 54, 3) := by decide +kernel
theorem dX7_states_20 : decode cX7_states 20 = .ok (.istore_n 2, 1) := by decide +kernel
theorem dX7_states_21 : decode cX7_states 21 = .ok (.aload_n 0, 1) := by decide +kernel
theorem dX7_states_22 : decode cX7_states 22 = .ok (.getfield 10, 3) := by decide +kernel
theorem dX7_states_25 : decode cX7_states 25 = .ok (.iload_n 1, 1) := by decide +kernel
theorem dX7_states_26 : decode cX7_states 26 = .ok (.putfield 54, 3) := by decide +kernel
theorem dX7_states_29 : decode cX7_states 29 = .ok (.aload_n 0, 1) := by decide +kernel
theorem dX7_states_30 : decode cX7_states 30 = .ok (.getfield 10, 3) := by decide +kernel
theorem dX7_states_33 : decode cX7_states 33 = .ok (.iconst 0, 1) := by decide +kernel
theorem dX7_states_34 : decode cX7_states 34 = .ok (.putfield 58, 3) := by decide +kernel
theorem dX7_states_37 : decode cX7_states 37 = .ok (.aload_n 0, 1) := by decide +kernel
theorem dX7_states_38 : decode cX7_states 38 = .ok (.getfield 30, 3) := by decide +kernel
theorem dX7_states_41 : decode cX7_states 41 = .ok (.iconst 0, 1) := by decide +kernel
theorem dX7_states_42 : decode cX7_states 42 = .ok (.invokevirtual 61, 3) := by decide +kernel
theorem dX7_states_45 : decode cX7_states 45 = .ok (.aload_n 0, 1) := by decide +kernel
theorem dX7_states_46 : decode cX7_states 46 = .ok (.invokevirtual 65, 3) := by decide +kernel
theorem dX7_states_49 : decode cX7_states 49 = .ok (.iload_n 2, 1) := by decide +kernel
theorem dX7_states_50 : decode cX7_states 50 = .ok (.ireturn, 1) := by decide +kernel
set_option maxRecDepth 20000 in
theorem ggX7_bag_X7_isAmong : GoodIn wsX7_bag wsX7_isAmong := goodIn_r _ [7] (by decide +kernel) (by decide +kernel)
set_option maxRecDepth 20000 in
theorem gX7_bag_X7_isAmong : GoodIn wsX7_bag (va_wsS RX7 68 yX7_isAmong wsX7_isAmong) := goodIn_app (goodIn_of _ (by decide +kernel)) ggX7_bag_X7_isAmong
set_option maxRecDepth 20000 in
theorem ggX7_bag_X1_clear : GoodIn wsX7_bag wsX1_clear := goodIn_r _ [12, 13, 14, 33, 34] (by decide +kernel) (by decide +kernel)
set_option maxRecDepth 20000 in
theorem gX7_bag_X1_clear : GoodIn wsX7_bag (wsV RX7 61 RX1 yX1_clear wsX1_clear) := goodIn_app (goodIn_of _ (by decide +kernel)) ggX7_bag_X1_clear
set_option maxRecDepth 20000 in
theorem ggX7_bag_X7_startAgain : GoodIn wsX7_bag wsX7_startAgain := goodIn_r _ [18, 19, 20, 8, 9, 10, 11, 12, 13, 14, 21, 22, 23, 24, 25, 26, 27, 28, 33, 34] (by decide +kernel) (by decide +kernel)
set_option maxRecDepth 20000 in
theorem gX7_bag_X7_startAgain : GoodIn wsX7_bag (wsV RX7 65 RX7 yX7_startAgain wsX7_startAgain) := goodIn_app (goodIn_of _ (by decide +kernel)) ggX7_bag_X7_startAgain
theorem dX7_bag_0 : decode cX7_bag 0 = .ok (.iload_n 1, 1) := by decide +kernel
theorem dX7_bag_1 : decode cX7_bag 1 = .ok (.iconst 2, 1) := by decide +kernel
theorem dX7_bag_2 : decode cX7_bag 2 = .ok (.invokestatic 68, 3) := by decide +kernel
theorem dX7_bag_5 : decode cX7_bag 5 = .ok (.ifCond .ne 5, 3) := by decide +kernel
theorem dX7_bag_8 : decode cX7_bag 8 = .ok (.iconst (-1), 1) := by decide +kernel
theorem dX7_bag_9 : decode cX7_bag 9 = .ok (.ireturn, 1) := by decide +kernel
theorem dX7_bag_10 : decode cX7_bag 10 = .ok (.aload_n 0, 1) := by decide +kernel
theorem dX7_bag_11 : decode cX7_bag 11 = .ok (.getfield 10, 3) := by decide +kernel
theorem dX7_bag_14 : decode cX7_bag 14 = .ok (.getfield 72, 3) := by decide +kernel
theorem dX7_bag_17 : decode cX7_bag 17 = .ok (.iload_n 1, 1) := by decide +kernel
theorem dX7_bag_18 : decode cX7_bag 18 = .ok (.baload, 1) := by decide +kernel
theorem dX7_bag_19 : decode cX7_bag 19 = .ok (.ifCond .eq 7, 3) := by decide +kernel
theorem dX7_bag_22 : decode cX7_bag 22 = .ok (.iconst 1, 1) := by decide +kernel
theorem dX7_bag_23 : decode cX7_bag 23 = .ok (.goto 4, 3) := by decide +kernel
theorem dX7_bag_26 : decode cX7_bag 26 = .ok (.iconst 0, 1) := by decide +kernel
theorem dX7_bag_27 : decode cX7_bag 27 = .ok (.istore_n 3, 1) := by decide +kernel
theorem dX7_bag_28 : decode cX7_bag 28 = .ok (.aload_n 0, 1) := by decide +kernel
theorem dX7_bag_29 : decode cX7_bag 29 = .ok (.getfield 10, 3) := by decide +kernel
theorem dX7_bag_32 : decode cX7_bag 32 = .ok (.getfield 72, 3) := by decide +kernel
theorem dX7_bag_35 : decode cX7_bag 35 = .ok (.iload_n 1, 1) := by decide +kernel
theorem dX7_bag_36 : decode cX7_bag 36 = .ok (.iload_n 2, 1) := by decide +kernel
theorem dX7_bag_37 : decode cX7_bag 37 = .ok (.bastore, 1) := by decide +kernel
theorem dX7_bag_38 : decode cX7_bag 38 = .ok (.aload_n 0, 1) := by decide +kernel
theorem dX7_bag_39 : decode cX7_bag 39 = .ok (.getfield 30, 3) := by decide +kernel
theorem dX7_bag_42 : decode cX7_bag 42 = .ok (.iconst 0, 1) := by decide +kernel
theorem dX7_bag_43 : decode cX7_bag 43 = .ok (.invokevirtual 61, 3) := by decide +kernel
theorem dX7_bag_46 : decode cX7_bag 46 = .ok (.aload_n 0, 1) := by decide +kernel
theorem dX7_bag_47 : decode cX7_bag 47 = .ok (.invokevirtual 65, 3) := by decide +kernel
theorem dX7_bag_50 : decode cX7_bag 50 = .ok (.iload_n 3, 1) := by decide +kernel
theorem dX7_bag_51 : decode cX7_bag 51 = .ok (.ireturn, 1) := by decide +kernel
set_option maxRecDepth 20000 in
theorem ggX7_arc_X0_canHave : GoodIn wsX7_arc wsX0_canHave := goodIn_r _ [7, 8, 9, 10, 11, 39, 40, 41, 42] (by decide +kernel) (by decide +kernel)
set_option maxRecDepth 20000 in
theorem gX7_arc_X0_canHave : GoodIn wsX7_arc (wsV RX7 76 RX0 yX0_canHave wsX0_canHave) := goodIn_app (goodIn_of _ (by decide +kernel)) ggX7_arc_X0_canHave
set_option maxRecDepth 20000 in
theorem ggX7_arc_X0_add : GoodIn wsX7_arc wsX0_add := goodIn_r _ [15, 16, 17, 39, 40, 41, 42] (by decide +kernel) (by decide +kernel)
set_option maxRecDepth 20000 in
theorem gX7_arc_X0_add : GoodIn wsX7_arc (wsV RX7 80 RX0 yX0_add wsX0_add) := goodIn_app (goodIn_of _ (by decide +kernel)) ggX7_arc_X0_add
set_option maxRecDepth 20000 in
theorem ggX7_arc_X7_startAgain : GoodIn wsX7_arc wsX7_startAgain := goodIn_r _ [21, 22, 23, 24, 25, 26, 27, 28, 29, 30, 31, 32, 33, 34, 35, 36, 37, 38, 43, 44] (by decide +kernel) (by decide +kernel)
set_option maxRecDepth 20000 in
theorem gX7_arc_X7_startAgain : GoodIn wsX7_arc (wsV RX7 65 RX7 yX7_startAgain wsX7_startAgain) := goodIn_app (goodIn_of _ (by decide +kernel)) ggX7_arc_X7_startAgain
theorem dX7_arc_0 : decode cX7_arc 0 = .ok (.aload_n 0, 1) := by decide +kernel
theorem dX7_arc_1 : decode cX7_arc 1 = .ok (.getfield 10, 3) := by decide +kernel
theorem dX7_arc_4 : decode cX7_arc 4 = .ok (.iload_n 1, 1) := by decide +kernel
theorem dX7_arc_5 : decode cX7_arc 5 = .ok (.iload_n 2, 1) := by decide +kernel
theorem dX7_arc_6 : decode cX7_arc 6 = .ok (.iload_n 3, 1) := by decide +kernel
theorem dX7_arc_7 : decode cX7_arc 7 = .ok (.iload 4, 2) := by decide +kernel
theorem dX7_arc_9 : decode cX7_arc 9 = .ok (.iload 5, 2) := by decide +kernel
theorem dX7_arc_11 : decode cX7_arc 11 = .ok (.invokevirtual 76, 3) := by decide +kernel
theorem dX7_arc_14 : decode cX7_arc 14 = .ok (.ifCond .ne 5, 3) := by decide +kernel
theorem dX7_arc_17 : decode cX7_arc 17 = .ok (.iconst (-1), 1) := by decide +kernel
theorem dX7_arc_18 : decode cX7_arc 18 = .ok (.ireturn, 1) := by decide +kernel
theorem dX7_arc_19 : decode cX7_arc 19 = .ok (.aload_n 0, 1) := by decide +kernel
theorem dX7_arc_20 : decode cX7_arc 20 = .ok (.getfield 10, 3) := by decide +kernel
theorem dX7_arc_23 : decode cX7_arc 23 = .ok (.getfield 58, 3) := by decide +kernel
theorem dX7_arc_26 : decode cX7_arc 26 = .ok (.bipush 20, 2) := by decide +kernel
theorem dX7_arc_28 : decode cX7_arc 28 = .ok (.if_icmp .lt 6, 3) := by decide +kernel
theorem dX7_arc_31 : decode cX7_arc 31 = .ok (.bipush (-3), 2) := by decide +kernel
theorem dX7_arc_33 : decode cX7_arc 33 = .ok (.ireturn, 1) := by decide +kernel
theorem dX7_arc_34 : decode cX7_arc 34 = .ok (.aload_n 0, 1) := by decide +kernel
theorem dX7_arc_35 : decode cX7_arc 35 = .ok (.getfield 10, 3) := by decide +kernel
theorem dX7_arc_38 : decode cX7_arc 38 = .ok (.iload_n 1, 1) := by decide +kernel
theorem dX7_arc_39 : decode cX7_arc 39 = .ok (.iload_n 2, 1) := by decide +kernel
theorem dX7_arc_40 : decode cX7_arc 40 = .ok (.iload_n 3, 1) := by decide +kernel
theorem dX7_arc_41 : decode cX7_arc 41 = .ok (.iload 4, 2) := by decide +kernel
theorem dX7_arc_43 : decode cX7_arc 43 = .ok (.iload 5, 2) := by decide +kernel
theorem dX7_arc_45 : decode cX7_arc 45 = .ok (.invokevirtual 80, 3) := by decide +kernel
theorem dX7_arc_48 : decode cX7_arc 48 = .ok (.aload_n 0, 1) := by decide +kernel
theorem dX7_arc_49 : decode cX7_arc 49 = .ok (.invokevirtual 65, 3) := by decide +kernel
theorem dX7_arc_52 : decode cX7_arc 52 = .ok (.aload_n 0, 1) := by decide +kernel
theorem dX7_arc_53 : decode cX7_arc 53 = .ok (.getfield 10, 3) := by decide +kernel
theorem dX7_arc_56 : decode cX7_arc 56 = .ok (.getfield 58, 3) := by decide +kernel
theorem dX7_arc_59 : decode cX7_arc 59 = .ok (.iconst 1, 1) := by decide +kernel
theorem dX7_arc_60 : decode cX7_arc 60 = .ok (.isub, 1) := by decide +kernel
theorem dX7_arc_61 : decode cX7_arc 61 = .ok (.ireturn, 1) := by decide +kernel
set_option maxRecDepth 20000 in
theorem ggX7_unarc_X7_startAgain : GoodIn wsX7_unarc wsX7_startAgain := goodIn_r _ [7, 8, 9, 10, 11, 12, 13, 14, 15, 16, 17, 18, 19, 20, 21, 22, 23, 24, 29, 30] (by decide +kernel) (by decide +kernel)
set_option maxRecDepth 20000 in
theorem gX7_unarc_X7_startAgain : GoodIn wsX7_unarc (wsV RX7 65 RX7 yX7_startAgain wsX7_startAgain) := goodIn_app (goodIn_of _ (by decide +kernel)) ggX7_unarc_X7_startAgain
theorem dX7_unarc_0 : decode cX7_unarc 0 = .ok (.aload_n 0, 1) := by decide +kernel
theorem dX7_unarc_1 : decode cX7_unarc 1 = .ok (.getfield 10, 3) := by decide +kernel
theorem dX7_unarc_4 : decode cX7_unarc 4 = .ok (.getfield 58, 3) := by decide +kernel
theorem dX7_unarc_7 : decode cX7_unarc 7 = .ok (.ifCond .ne 6, 3) := by decide +kernel
theorem dX7_unarc_10 : decode cX7_unarc 10 = .ok (.bipush (-2), 2) := by decide +kernel
theorem dX7_unarc_12 : decode cX7_unarc 12 = .ok (.ireturn, 1) := by decide +kernel
theorem dX7_unarc_13 : decode cX7_unarc 13 = .ok (.aload_n 0, 1) := by decide +kernel
theorem dX7_unarc_14 : decode cX7_unarc 14 = .ok (.getfield 10, 3) := by decide +kernel
theorem dX7_unarc_17 : decode cX7_unarc 17 = .ok (.dup, 1) := by decide +kernel
theorem dX7_unarc_18 : decode cX7_unarc 18 = .ok (.getfield 58, 3) := by decide +kernel
theorem dX7_unarc_21 : decode cX7_unarc 21 = .ok (.iconst 1, 1) := by decide +kernel
theorem dX7_unarc_22 : decode cX7_unarc 22 = .ok (.isub, 1) := by decide +kernel
theorem dX7_unarc_23 : decode cX7_unarc 23 = .ok (.putfield 58, 3) := by decide +kernel
theorem dX7_unarc_26 : decode cX7_unarc 26 = .ok (.aload_n 0, 1) := by decide +kernel
theorem dX7_unarc_27 : decode cX7_unarc 27 = .ok (.invokevirtual 65, 3) := by decide +kernel
theorem dX7_unarc_30 : decode cX7_unarc 30 = .ok (.aload_n 0, 1) := by decide +kernel
theorem dX7_unarc_31 : decode cX7_unarc 31 = .ok (.getfield 10, 3) := by decide +kernel
theorem dX7_unarc_34 : decode cX7_unarc 34 = .ok (.getfield 58, 3) := by decide +kernel
theorem dX7_unarc_37 : decode cX7_unarc 37 = .ok (.ireturn, 1) := by decide +kernel
set_option maxRecDepth 20000 in
theorem ggX7_told_X7_isAmong : GoodIn wsX7_told wsX7_isAmong := goodIn_r _ [6] (by decide +kernel) (by decide +kernel)
set_option maxRecDepth 20000 in
theorem gX7_told_X7_isAmong : GoodIn wsX7_told (va_wsS RX7 68 yX7_isAmong wsX7_isAmong) := goodIn_app (goodIn_of _ (by decide +kernel)) ggX7_told_X7_isAmong
set_option maxRecDepth 20000 in
theorem ggX7_told_X0_part : GoodIn wsX7_told wsX0_part := goodIn_r _ [11, 12, 21, 22, 23, 24] (by decide +kernel) (by decide +kernel)
set_option maxRecDepth 20000 in
theorem gX7_told_X0_part : GoodIn wsX7_told (wsV RX7 84 RX0 yX0_part wsX0_part) := goodIn_app (goodIn_of _ (by decide +kernel)) ggX7_told_X0_part
theorem dX7_told_0 : decode cX7_told 0 = .ok (.iload_n 1, 1) := by decide +kernel
theorem dX7_told_1 : decode cX7_told 1 = .ok (.aload_n 0, 1) := by decide +kernel
theorem dX7_told_2 : decode cX7_told 2 = .ok (.getfield 10, 3) := by decide +kernel
theorem dX7_told_5 : decode cX7_told 5 = .ok (.getfield 58, 3) := by decide +kernel
theorem dX7_told_8 : decode cX7_told 8 = .ok (.invokestatic 68, 3) := by decide +kernel
theorem dX7_told_11 : decode cX7_told 11 = .ok (.ifCond .eq 11, 3) := by decide +kernel
theorem dX7_told_14 : decode cX7_told 14 = .ok (.iload_n 2, 1) := by decide +kernel
theorem dX7_told_15 : decode cX7_told 15 = .ok (.iconst 5, 1) := by decide +kernel
theorem dX7_told_16 : decode cX7_told 16 = .ok (.invokestatic 68, 3) := by decide +kernel
theorem dX7_told_19 : decode cX7_told 19 = .ok (.ifCond .ne 5, 3) := by decide +kernel
theorem dX7_told_22 : decode cX7_told 22 = .ok (.iconst (-1), 1) := by decide +kernel
theorem dX7_told_23 : decode cX7_told 23 = .ok (.ireturn, 1) := by decide +kernel
theorem dX7_told_24 : decode cX7_told 24 = .ok (.aload_n 0, 1) := by decide +kernel
theorem dX7_told_25 : decode cX7_told 25 = .ok (.getfield 10, 3) := by decide +kernel
theorem dX7_told_28 : decode cX7_told 28 = .ok (.iload_n 1, 1) := by decide +kernel
theorem dX7_told_29 : decode cX7_told 29 = .ok (.iload_n 2, 1) := by decide +kernel
theorem dX7_told_30 : decode cX7_told 30 = .ok (.invokevirtual 84, 3) := by decide +kernel
theorem dX7_told_33 : decode cX7_told 33 = .ok (.ireturn, 1) := by decide +kernel
set_option maxRecDepth 20000 in
theorem ggX7_type_X4_canHave : GoodIn wsX7_type wsX4_canHave := goodIn_r _ [6, 7, 8, 5, 9] (by decide +kernel) (by decide +kernel)
set_option maxRecDepth 20000 in
theorem gX7_type_X4_canHave : GoodIn wsX7_type (va_wsS RX7 88 yX4_canHave wsX4_canHave) := goodIn_app (goodIn_of _ (by decide +kernel)) ggX7_type_X4_canHave
set_option maxRecDepth 20000 in
theorem ggX7_type_X4_add : GoodIn wsX7_type wsX4_add := goodIn_r _ [13, 14, 15, 7, 8, 5, 9, 24, 25, 26, 27] (by decide +kernel) (by decide +kernel)
set_option maxRecDepth 20000 in
theorem gX7_type_X4_add : GoodIn wsX7_type (wsV RX7 94 RX4 yX4_add wsX4_add) := goodIn_app (goodIn_of _ (by decide +kernel)) ggX7_type_X4_add
theorem dX7_type_0 : decode cX7_type 0 = .ok (.iload_n 3, 1) := by decide +kernel
theorem dX7_type_1 : decode cX7_type 1 = .ok (.iconst 1, 1) := by decide +kernel
theorem dX7_type_2 : decode cX7_type 2 = .ok (.if_icmp .lt 17, 3) := by decide +kernel
theorem dX7_type_5 : decode cX7_type 5 = .ok (.iload_n 3, 1) := by decide +kernel
theorem dX7_type_6 : decode cX7_type 6 = .ok (.bipush 8, 2) := by decide +kernel
theorem dX7_type_8 : decode cX7_type 8 = .ok (.if_icmp .gt 11, 3) := by decide +kernel
theorem dX7_type_11 : decode cX7_type 11 = .ok (.lload_n 1, 1) := by decide +kernel
theorem dX7_type_12 : decode cX7_type 12 = .ok (.iload_n 3, 1) := by decide +kernel
theorem dX7_type_13 : decode cX7_type 13 = .ok (.invokestatic 88, 3) := by decide +kernel
theorem dX7_type_16 : decode cX7_type 16 = .ok (.ifCond .ne 5, 3) := by decide +kernel
theorem dX7_type_19 : decode cX7_type 19 = .ok (.iconst (-1), 1) := by decide +kernel
theorem dX7_type_20 : decode cX7_type 20 = .ok (.ireturn, 1) := by decide +kernel
theorem dX7_type_21 : decode cX7_type 21 = .ok (.aload_n 0, 1) := by decide +kernel
theorem dX7_type_22 : decode cX7_type 22 = .ok (.getfield 19, 3) := by decide +kernel
theorem dX7_type_25 : decode cX7_type 25 = .ok (.getfield 91, 3) := by decide +kernel
theorem dX7_type_28 : decode cX7_type 28 = .ok (.iload_n 3, 1) := by decide +kernel
theorem dX7_type_29 : decode cX7_type 29 = .ok (.iadd, 1) := by decide +kernel
theorem dX7_type_30 : decode cX7_type 30 = .ok (.sipush 130, 3) := by decide +kernel
theorem dX7_type_33 : decode cX7_type 33 = .ok (.if_icmp .le 6, 3) := by decide +kernel
theorem dX7_type_36 : decode cX7_type 36 = .ok (.bipush (-3), 2) := by decide +kernel
theorem dX7_type_38 : decode cX7_type 38 = .ok (.ireturn, 1) := by decide +kernel
theorem dX7_type_39 : decode cX7_type 39 = .ok (.aload_n 0, 1) := by decide +kernel
theorem dX7_type_40 : decode cX7_type 40 = .ok (.getfield 19, 3) := by decide +kernel
theorem dX7_type_43 : decode cX7_type 43 = .ok (.lload_n 1, 1) := by decide +kernel
theorem dX7_type_44 : decode cX7_type 44 = .ok (.iload_n 3, 1) := by decide +kernel
theorem dX7_type_45 : decode cX7_type 45 = .ok (.invokevirtual 94, 3) := by decide +kernel
theorem dX7_type_48 : decode cX7_type 48 = .ok (.aload_n 0, 1) := by decide +kernel
theorem dX7_type_49 : decode cX7_type 49 = .ok (.getfield 19, 3) := by decide +kernel
theorem dX7_type_52 : decode cX7_type 52 = .ok (.getfield 91, 3) := by decide +kernel
theorem dX7_type_55 : decode cX7_type 55 = .ok (.ireturn, 1) := by decide +kernel
set_option maxRecDepth 20000 in
theorem ggX7_read_X4_parse : GoodIn wsX7_read wsX4_parse := goodIn_r _ [10, 11, 12, 13, 14, 15, 16, 9, 17, 18, 19, 20, 21, 22, 23, 24, 25, 26, 27, 28, 29, 30, 31, 32, 33, 34, 35, 36, 37, 78, 79, 80, 81] (by decide +kernel) (by decide +kernel)
set_option maxRecDepth 20000 in
theorem gX7_read_X4_parse : GoodIn wsX7_read (wsV RX7 97 RX4 yX4_parse wsX4_parse) := goodIn_app (goodIn_of _ (by decide +kernel)) ggX7_read_X4_parse
set_option maxRecDepth 20000 in
theorem ggX7_read_X0_replace : GoodIn wsX7_read wsX0_replace := goodIn_r _ [42, 43, 44, 45, 46, 41, 47, 48, 49, 50, 51, 52, 74, 75, 76, 77] (by decide +kernel) (by decide +kernel)
set_option maxRecDepth 20000 in
theorem gX7_read_X0_replace : GoodIn wsX7_read (wsV RX7 105 RX0 yX0_replace wsX0_replace) := goodIn_app (goodIn_of _ (by decide +kernel)) ggX7_read_X0_replace
set_option maxRecDepth 20000 in
theorem ggX7_read_X7_startAgain : GoodIn wsX7_read wsX7_startAgain := goodIn_r _ [56, 57, 58, 59, 60, 61, 62, 63, 64, 65, 66, 67, 68, 69, 70, 71, 72, 73, 82, 83] (by decide +kernel) (by decide +kernel)
set_option maxRecDepth 20000 in
theorem gX7_read_X7_startAgain : GoodIn wsX7_read (wsV RX7 65 RX7 yX7_startAgain wsX7_startAgain) := goodIn_app (goodIn_of _ (by decide +kernel)) ggX7_read_X7_startAgain
theorem dX7_read_0 : decode cX7_read 0 = .ok (.aload_n 0, 1) := by decide +kernel
theorem dX7_read_1 : decode cX7_read 1 = .ok (.getfield 19, 3) := by decide +kernel
theorem dX7_read_4 : decode cX7_read 4 = .ok (.aload_n 0, 1) := by decide +kernel
theorem dX7_read_5 : decode cX7_read 5 = .ok (.getfield 10, 3) := by decide +kernel
theorem dX7_read_8 : decode cX7_read 8 = .ok (.getfield 54, 3) := by decide +kernel
theorem dX7_read_11 : decode cX7_read 11 = .ok (.invokevirtual 97, 3) := by decide +kernel
theorem dX7_read_14 : decode cX7_read 14 = .ok (.istore_n 1, 1) := by decide +kernel
theorem dX7_read_15 : decode cX7_read 15 = .ok (.aload_n 0, 1) := by decide +kernel
theorem dX7_read_16 : decode cX7_read 16 = .ok (.getfield 19, 3) := by decide +kernel
theorem dX7_read_19 : decode cX7_read 19 = .ok (.iconst 0, 1) := by decide +kernel
theorem dX7_read_20 : decode cX7_read 20 = .ok (.putfield 91, 3) := by decide +kernel
theorem dX7_read_23 : decode cX7_read 23 = .ok (.iload_n 1, 1) := by decide +kernel
theorem dX7_read_24 : decode cX7_read 24 = .ok (.ifCond .le 22, 3) := by decide +kernel
theorem dX7_read_27 : decode cX7_read 27 = .ok (.aload_n 0, 1) := by decide +kernel
theorem dX7_read_28 : decode cX7_read 28 = .ok (.getfield 10, 3) := by decide +kernel
theorem dX7_read_31 : decode cX7_read 31 = .ok (.aload_n 0, 1) := by decide +kernel
theorem dX7_read_32 : decode cX7_read 32 = .ok (.getfield 19, 3) := by decide +kernel
theorem dX7_read_35 : decode cX7_read 35 = .ok (.getfield 101, 3) := by decide +kernel
theorem dX7_read_38 : decode cX7_read 38 = .ok (.iload_n 1, 1) := by decide +kernel
theorem dX7_read_39 : decode cX7_read 39 = .ok (.invokevirtual 105, 3) := by decide +kernel
theorem dX7_read_42 : decode cX7_read 42 = .ok (.aload_n 0, 1) := by decide +kernel
theorem dX7_read_43 : decode cX7_read 43 = .ok (.invokevirtual 65, 3) := by decide +kernel
theorem dX7_read_46 : decode cX7_read 46 = .ok (.iload_n 1, 1) := by decide +kernel
theorem dX7_read_47 : decode cX7_read 47 = .ok (.ireturn, 1) := by decide +kernel
set_option maxRecDepth 20000 in
theorem ggX7_arcs_X7_isAmong : GoodIn wsX7_arcs wsX7_isAmong := goodIn_r _ [9] (by decide +kernel) (by decide +kernel)
set_option maxRecDepth 20000 in
theorem gX7_arcs_X7_isAmong : GoodIn wsX7_arcs (va_wsS RX7 68 yX7_isAmong wsX7_isAmong) := goodIn_app (goodIn_of _ (by decide +kernel)) ggX7_arcs_X7_isAmong
set_option maxRecDepth 20000 in
theorem ggX7_arcs_X3_faultAs : GoodIn wsX7_arcs wsX3_faultAs := goodIn_r _ [14, 15, 16, 58, 59, 60, 61] (by decide +kernel) (by decide +kernel)
set_option maxRecDepth 20000 in
theorem gX7_arcs_X3_faultAs : GoodIn wsX7_arcs (wsV RX7 109 RX3 yX3_faultAs wsX3_faultAs) := goodIn_app (goodIn_of _ (by decide +kernel)) ggX7_arcs_X3_faultAs
set_option maxRecDepth 20000 in
theorem ggX7_arcs_X0_canHaveAll : GoodIn wsX7_arcs wsX0_canHaveAll := goodIn_r _ [21, 22, 23, 24, 20, 25, 26, 7, 8, 9, 62, 63, 64, 65] (by decide +kernel) (by decide +kernel)
set_option maxRecDepth 20000 in
theorem gX7_arcs_X0_canHaveAll : GoodIn wsX7_arcs (wsV RX7 116 RX0 yX0_canHaveAll wsX0_canHaveAll) := goodIn_app (goodIn_of _ (by decide +kernel)) ggX7_arcs_X0_canHaveAll
set_option maxRecDepth 20000 in
theorem ggX7_arcs_X0_addAll : GoodIn wsX7_arcs wsX0_addAll := goodIn_r _ [30, 31, 32, 33, 20, 34, 35, 36, 62, 63, 64, 65] (by decide +kernel) (by decide +kernel)
set_option maxRecDepth 20000 in
theorem gX7_arcs_X0_addAll : GoodIn wsX7_arcs (wsV RX7 120 RX0 yX0_addAll wsX0_addAll) := goodIn_app (goodIn_of _ (by decide +kernel)) ggX7_arcs_X0_addAll
set_option maxRecDepth 20000 in
theorem ggX7_arcs_X7_startAgain : GoodIn wsX7_arcs wsX7_startAgain := goodIn_r _ [40, 41, 42, 43, 44, 45, 46, 47, 48, 49, 50, 51, 52, 53, 54, 55, 56, 57, 66, 67] (by decide +kernel) (by decide +kernel)
set_option maxRecDepth 20000 in
theorem gX7_arcs_X7_startAgain : GoodIn wsX7_arcs (wsV RX7 65 RX7 yX7_startAgain wsX7_startAgain) := goodIn_app (goodIn_of _ (by decide +kernel)) ggX7_arcs_X7_startAgain
theorem dX7_arcs_0 : decode cX7_arcs 0 = .ok (.iload_n 1, 1) := by decide +kernel
theorem dX7_arcs_1 : decode cX7_arcs 1 = .ok (.iconst 2, 1) := by decide +kernel
theorem dX7_arcs_2 : decode cX7_arcs 2 = .ok (.invokestatic 68, 3) := by decide +kernel
theorem dX7_arcs_5 : decode cX7_arcs 5 = .ok (.ifCond .eq 23, 3) := by decide +kernel
theorem dX7_arcs_8 : decode cX7_arcs 8 = .ok (.iload_n 2, 1) := by decide +kernel
theorem dX7_arcs_9 : decode cX7_arcs 9 = .ok (.iconst 2, 1) := by decide +kernel
theorem dX7_arcs_10 : decode cX7_arcs 10 = .ok (.invokestatic 68, 3) := by decide +kernel
theorem dX7_arcs_13 : decode cX7_arcs 13 = .ok (.ifCond .eq 15, 3) := by decide +kernel
theorem dX7_arcs_16 : decode cX7_arcs 16 = .ok (.iload 4, 2) := by decide +kernel
theorem dX7_arcs_18 : decode cX7_arcs 18 = .ok (.ifCond .lt 10, 3) := by decide +kernel
theorem dX7_arcs_21 : decode cX7_arcs 21 = .ok (.iload 4, 2) := by decide +kernel
theorem dX7_arcs_23 : decode cX7_arcs 23 = .ok (.bipush 12, 2) := by decide +kernel
theorem dX7_arcs_25 : decode cX7_arcs 25 = .ok (.if_icmp .le 5, 3) := by decide +kernel
theorem dX7_arcs_28 : decode cX7_arcs 28 = .ok (.iconst (-1), 1) := by decide +kernel
theorem dX7_arcs_29 : decode cX7_arcs 29 = .ok (.ireturn, 1) := by decide +kernel
theorem dX7_arcs_30 : decode cX7_arcs 30 = .ok (.aload_n 0, 1) := by decide +kernel
theorem dX7_arcs_31 : decode cX7_arcs 31 = .ok (.getfield 50, 3) := by decide +kernel
theorem dX7_arcs_34 : decode cX7_arcs 34 = .ok (.iload_n 1, 1) := by decide +kernel
theorem dX7_arcs_35 : decode cX7_arcs 35 = .ok (.aaload, 1) := by decide +kernel
theorem dX7_arcs_36 : decode cX7_arcs 36 = .ok (.astore 5, 2) := by decide +kernel
theorem dX7_arcs_38 : decode cX7_arcs 38 = .ok (.aload 5, 2) := by decide +kernel
theorem dX7_arcs_40 : decode cX7_arcs 40 = .ok (.iload_n 2, 1) := by decide +kernel
theorem dX7_arcs_41 : decode cX7_arcs 41 = .ok (.invokevirtual 109, 3) := by decide +kernel
theorem dX7_arcs_44 : decode cX7_arcs 44 = .ok (.istore 6, 2) := by decide +kernel
theorem dX7_arcs_46 : decode cX7_arcs 46 = .ok (.iload 6, 2) := by decide +kernel
theorem dX7_arcs_48 : decode cX7_arcs 48 = .ok (.ifCond .eq 6, 3) := by decide +kernel
theorem dX7_arcs_51 : decode cX7_arcs 51 = .ok (.iload 6, 2) := by decide +kernel
theorem dX7_arcs_53 : decode cX7_arcs 53 = .ok (.ireturn, 1) := by decide +kernel
theorem dX7_arcs_54 : decode cX7_arcs 54 = .ok (.iload_n 3, 1) := by decide +kernel
theorem dX7_arcs_55 : decode cX7_arcs 55 = .ok (.ifCond .lt 17, 3) := by decide +kernel
theorem dX7_arcs_58 : decode cX7_arcs 58 = .ok (.iload_n 3, 1) := by decide +kernel
theorem dX7_arcs_59 : decode cX7_arcs 59 = .ok (.aload 5, 2) := by decide +kernel
theorem dX7_arcs_61 : decode cX7_arcs 61 = .ok (.getfield 112, 3) := by decide +kernel
theorem dX7_arcs_64 : decode cX7_arcs 64 = .ok (.iload 4, 2) := by decide +kernel
theorem dX7_arcs_66 : decode cX7_arcs 66 = .ok (.iconst 5, 1) := by decide +kernel
theorem dX7_arcs_67 : decode cX7_arcs 67 = .ok (.imul, 1) := by decide +kernel
theorem dX7_arcs_68 : decode cX7_arcs 68 = .ok (.isub, 1) := by decide +kernel
theorem dX7_arcs_69 : decode cX7_arcs 69 = .ok (.if_icmp .le 6, 3) := by decide +kernel
theorem dX7_arcs_72 : decode cX7_arcs 72 = .ok (.bipush (-13), 2) := by decide +kernel
theorem dX7_arcs_74 : decode cX7_arcs 74 = .ok (.ireturn, 1) := by decide +kernel
theorem dX7_arcs_75 : decode cX7_arcs 75 = .ok (.aload_n 0, 1) := by decide +kernel
theorem dX7_arcs_76 : decode cX7_arcs 76 = .ok (.getfield 10, 3) := by decide +kernel
theorem dX7_arcs_79 : decode cX7_arcs 79 = .ok (.aload 5, 2) := by decide +kernel
theorem dX7_arcs_81 : decode cX7_arcs 81 = .ok (.getfield 113, 3) := by decide +kernel
theorem dX7_arcs_84 : decode cX7_arcs 84 = .ok (.iload_n 3, 1) := by decide +kernel
theorem dX7_arcs_85 : decode cX7_arcs 85 = .ok (.iload 4, 2) := by decide +kernel
theorem dX7_arcs_87 : decode cX7_arcs 87 = .ok (.invokevirtual 116, 3) := by decide +kernel
theorem dX7_arcs_90 : decode cX7_arcs 90 = .ok (.ifCond .ne 6, 3) := by decide +kernel
theorem dX7_arcs_93 : decode cX7_arcs 93 = .ok (.bipush (-2), 2) := by decide +kernel
theorem dX7_arcs_95 : decode cX7_arcs 95 = .ok (.ireturn, 1) := by decide +kernel
theorem dX7_arcs_96 : decode cX7_arcs 96 = .ok (.aload_n 0, 1) := by decide +kernel
theorem dX7_arcs_97 : decode cX7_arcs 97 = .ok (.getfield 10, 3) := by decide +kernel
theorem dX7_arcs_100 : decode cX7_arcs 100 = .ok (.getfield 58, 3) := by decide +kernel
theorem dX7_arcs_103 : decode cX7_arcs 103 = .ok (.iload 4, 2) := by decide +kernel
theorem dX7_arcs_105 : decode cX7_arcs 105 = .ok (.iadd, 1) := by decide +kernel
theorem dX7_arcs_106 : decode cX7_arcs 106 = .ok (.bipush 20, 2) := by decide +kernel
theorem dX7_arcs_108 : decode cX7_arcs 108 = .ok (.if_icmp .le 6, 3) := by decide +kernel
theorem dX7_arcs_111 : decode cX7_arcs 111 = .ok (.bipush (-3), 2) := by decide +kernel
theorem dX7_arcs_113 : decode cX7_arcs 113 = .ok (.ireturn, 1) := by decide +kernel
theorem dX7_arcs_114 : decode cX7_arcs 114 = .ok (.aload_n 0, 1) := by decide +kernel
theorem dX7_arcs_115 : decode cX7_arcs 115 = .ok (.getfield 10, 3) := by decide +kernel
theorem dX7_arcs_118 : decode cX7_arcs 118 = .ok (.aload 5, 2) := by decide +kernel
theorem dX7_arcs_120 : decode cX7_arcs 120 = .ok (.getfield 113, 3) := by decide +kernel
theorem dX7_arcs_123 : decode cX7_arcs 123 = .ok (.iload_n 3, 1) := by decide +kernel
theorem dX7_arcs_124 : decode cX7_arcs 124 = .ok (.iload 4, 2) := by decide +kernel
theorem dX7_arcs_126 : decode cX7_arcs 126 = .ok (.invokevirtual 120, 3) := by decide +kernel
theorem dX7_arcs_129 : decode cX7_arcs 129 = .ok (.aload_n 0, 1) := by decide +kernel
theorem dX7_arcs_130 : decode cX7_arcs 130 = .ok (.invokevirtual 65, 3) := by decide +kernel
theorem dX7_arcs_133 : decode cX7_arcs 133 = .ok (.aload_n 0, 1) := by decide +kernel
theorem dX7_arcs_134 : decode cX7_arcs 134 = .ok (.getfield 10, 3) := by decide +kernel
theorem dX7_arcs_137 : decode cX7_arcs 137 = .ok (.getfield 58, 3) := by decide +kernel
theorem dX7_arcs_140 : decode cX7_arcs 140 = .ok (.ireturn, 1) := by decide +kernel
set_option maxRecDepth 20000 in
theorem ggX7_go_X7_isAmong : GoodIn wsX7_go wsX7_isAmong := goodIn_r _ [9] (by decide +kernel) (by decide +kernel)
set_option maxRecDepth 20000 in
theorem gX7_go_X7_isAmong : GoodIn wsX7_go (va_wsS RX7 68 yX7_isAmong wsX7_isAmong) := goodIn_app (goodIn_of _ (by decide +kernel)) ggX7_go_X7_isAmong
set_option maxRecDepth 20000 in
theorem ggX7_go_X0_part : GoodIn wsX7_go wsX0_part := goodIn_r _ [14, 15, 53, 54, 55, 56] (by decide +kernel) (by decide +kernel)
set_option maxRecDepth 20000 in
theorem gX7_go_X0_part : GoodIn wsX7_go (wsV RX7 84 RX0 yX0_part wsX0_part) := goodIn_app (goodIn_of _ (by decide +kernel)) ggX7_go_X0_part
set_option maxRecDepth 20000 in
theorem ggX7_go_X0_wordBehind : GoodIn wsX7_go wsX0_wordBehind := goodIn_r _ [19, 20, 21, 11, 12, 13, 14, 15, 22, 23, 24, 25, 26, 27, 28, 29, 30, 31, 32, 33, 34, 35, 36, 37, 38, 39, 40, 41, 53, 54, 55, 56] (by decide +kernel) (by decide +kernel)
set_option maxRecDepth 20000 in
theorem gX7_go_X0_wordBehind : GoodIn wsX7_go (wsV RX7 130 RX0 yX0_wordBehind wsX0_wordBehind) := goodIn_app (goodIn_of _ (by decide +kernel)) ggX7_go_X0_wordBehind
set_option maxRecDepth 20000 in
theorem ggX7_go_X6_isLonger : GoodIn wsX7_go wsX6_isLonger := goodIn_r _ [44] (by decide +kernel) (by decide +kernel)
set_option maxRecDepth 20000 in
theorem gX7_go_X6_isLonger : GoodIn wsX7_go (va_wsS RX7 135 yX6_isLonger wsX6_isLonger) := goodIn_app (goodIn_of _ (by decide +kernel)) ggX7_go_X6_isLonger
theorem dX7_go_0 : decode cX7_go 0 = .ok (.iload_n 1, 1) := by decide +kernel
theorem dX7_go_1 : decode cX7_go 1 = .ok (.aload_n 0, 1) := by decide +kernel
theorem dX7_go_2 : decode cX7_go 2 = .ok (.getfield 10, 3) := by decide +kernel
theorem dX7_go_5 : decode cX7_go 5 = .ok (.getfield 58, 3) := by decide +kernel
theorem dX7_go_8 : decode cX7_go 8 = .ok (.invokestatic 68, 3) := by decide +kernel
theorem dX7_go_11 : decode cX7_go 11 = .ok (.ifCond .ne 5, 3) := by decide +kernel
theorem dX7_go_14 : decode cX7_go 14 = .ok (.iconst (-1), 1) := by decide +kernel
theorem dX7_go_15 : decode cX7_go 15 = .ok (.ireturn, 1) := by decide +kernel
theorem dX7_go_16 : decode cX7_go 16 = .ok (.aload_n 0, 1) := by decide +kernel
theorem dX7_go_17 : decode cX7_go 17 = .ok (.getfield 10, 3) := by decide +kernel
theorem dX7_go_20 : decode cX7_go 20 = .ok (.iload_n 1, 1) := by decide +kernel
theorem dX7_go_21 : decode cX7_go 21 = .ok (.iconst 0, 1) := by decide +kernel
theorem dX7_go_22 : decode cX7_go 22 = .ok (.invokevirtual 84, 3) := by decide +kernel
theorem dX7_go_25 : decode cX7_go 25 = .ok (.aload_n 0, 1) := by decide +kernel
theorem dX7_go_26 : decode cX7_go 26 = .ok (.getfield 26, 3) := by decide +kernel
theorem dX7_go_29 : decode cX7_go 29 = .ok (.getfield 124, 3) := by decide +kernel
theorem dX7_go_32 : decode cX7_go 32 = .ok (.if_icmp .eq 6, 3) := by decide +kernel
theorem dX7_go_35 : decode cX7_go 35 = .ok (.bipush (-2), 2) := by decide +kernel
theorem dX7_go_37 : decode cX7_go 37 = .ok (.ireturn, 1) := by decide +kernel
theorem dX7_go_38 : decode cX7_go 38 = .ok (.aload_n 0, 1) := by decide +kernel
theorem dX7_go_39 : decode cX7_go 39 = .ok (.getfield 10, 3) := by decide +kernel
theorem dX7_go_42 : decode cX7_go 42 = .ok (.iload_n 1, 1) := by decide +kernel
theorem dX7_go_43 : decode cX7_go 43 = .ok (.iconst 2, 1) := by decide +kernel
theorem dX7_go_44 : decode cX7_go 44 = .ok (.invokevirtual 84, 3) := by decide +kernel
theorem dX7_go_47 : decode cX7_go 47 = .ok (.istore_n 2, 1) := by decide +kernel
theorem dX7_go_48 : decode cX7_go 48 = .ok (.aload_n 0, 1) := by decide +kernel
theorem dX7_go_49 : decode cX7_go 49 = .ok (.getfield 10, 3) := by decide +kernel
theorem dX7_go_52 : decode cX7_go 52 = .ok (.iload_n 1, 1) := by decide +kernel
theorem dX7_go_53 : decode cX7_go 53 = .ok (.aload_n 0, 1) := by decide +kernel
theorem dX7_go_54 : decode cX7_go 54 = .ok (.getfield 26, 3) := by decide +kernel
theorem dX7_go_57 : decode cX7_go 57 = .ok (.getfield 127, 3) := by decide +kernel
theorem dX7_go_60 : decode cX7_go 60 = .ok (.iload_n 2, 1) := by decide +kernel
theorem dX7_go_61 : decode cX7_go 61 = .ok (.iaload, 1) := by decide +kernel
theorem dX7_go_62 : decode cX7_go 62 = .ok (.invokevirtual 130, 3) := by decide +kernel
theorem dX7_go_65 : decode cX7_go 65 = .ok (.istore_n 3, 1) := by decide +kernel
theorem dX7_go_66 : decode cX7_go 66 = .ok (.iload_n 3, 1) := by decide +kernel
theorem dX7_go_67 : decode cX7_go 67 = .ok (.iconst (-1), 1) := by decide +kernel
theorem dX7_go_68 : decode cX7_go 68 = .ok (.if_icmp .ne 6, 3) := by decide +kernel
theorem dX7_go_71 : decode cX7_go 71 = .ok (.bipush (-2), 2) := by decide +kernel
theorem dX7_go_73 : decode cX7_go 73 = .ok (.ireturn, 1) := by decide +kernel
theorem dX7_go_74 : decode cX7_go 74 = .ok (.iload_n 3, 1) := by decide +kernel
theorem dX7_go_75 : decode cX7_go 75 = .ok (.bipush 10, 2) := by decide +kernel
theorem dX7_go_77 : decode cX7_go 77 = .ok (.invokestatic 135, 3) := by decide +kernel
theorem dX7_go_80 : decode cX7_go 80 = .ok (.ifCond .eq 6, 3) := by decide +kernel
theorem dX7_go_83 : decode cX7_go 83 = .ok (.bipush (-3), 2) := by decide +kernel
theorem dX7_go_85 : decode cX7_go 85 = .ok (.ireturn, 1) := by decide +kernel
theorem dX7_go_86 : decode cX7_go 86 = .ok (.aload_n 0, 1) := by decide +kernel
theorem dX7_go_87 : decode cX7_go 87 = .ok (.getfield 26, 3) := by decide +kernel
theorem dX7_go_90 : decode cX7_go 90 = .ok (.getfield 127, 3) := by decide +kernel
theorem dX7_go_93 : decode cX7_go 93 = .ok (.iload_n 2, 1) := by decide +kernel
theorem dX7_go_94 : decode cX7_go 94 = .ok (.iload_n 3, 1) := by decide +kernel
theorem dX7_go_95 : decode cX7_go 95 = .ok (.iastore, 1) := by decide +kernel
theorem dX7_go_96 : decode cX7_go 96 = .ok (.aload_n 0, 1) := by decide +kernel
theorem dX7_go_97 : decode cX7_go 97 = .ok (.getfield 26, 3) := by decide +kernel
theorem dX7_go_100 : decode cX7_go 100 = .ok (.aload_n 0, 1) := by decide +kernel
theorem dX7_go_101 : decode cX7_go 101 = .ok (.getfield 10, 3) := by decide +kernel
theorem dX7_go_104 : decode cX7_go 104 = .ok (.iload_n 1, 1) := by decide +kernel
theorem dX7_go_105 : decode cX7_go 105 = .ok (.iconst 4, 1) := by decide +kernel
theorem dX7_go_106 : decode cX7_go 106 = .ok (.invokevirtual 84, 3) := by decide +kernel
theorem dX7_go_109 : decode cX7_go 109 = .ok (.putfield 124, 3) := by decide +kernel
theorem dX7_go_112 : decode cX7_go 112 = .ok (.aload_n 0, 1) := by decide +kernel
theorem dX7_go_113 : decode cX7_go 113 = .ok (.getfield 26, 3) := by decide +kernel
theorem dX7_go_116 : decode cX7_go 116 = .ok (.getfield 124, 3) := by decide +kernel
theorem dX7_go_119 : decode cX7_go 119 = .ok (.ireturn, 1) := by decide +kernel
set_option maxRecDepth 20000 in
theorem ggX7_lose_X7_isAmong : GoodIn wsX7_lose wsX7_isAmong := goodIn_r _ [6] (by decide +kernel) (by decide +kernel)
set_option maxRecDepth 20000 in
theorem gX7_lose_X7_isAmong : GoodIn wsX7_lose (va_wsS RX7 68 yX7_isAmong wsX7_isAmong) := goodIn_app (goodIn_of _ (by decide +kernel)) ggX7_lose_X7_isAmong
set_option maxRecDepth 20000 in
theorem ggX7_lose_X6_size : GoodIn wsX7_lose wsX6_size := goodIn_r _ [10] (by decide +kernel) (by decide +kernel)
set_option maxRecDepth 20000 in
theorem gX7_lose_X6_size : GoodIn wsX7_lose (va_wsS RX7 138 yX6_size wsX6_size) := goodIn_app (goodIn_of _ (by decide +kernel)) ggX7_lose_X6_size
set_option maxRecDepth 20000 in
theorem ggX7_lose_X6_at : GoodIn wsX7_lose wsX6_at := goodIn_r _ [13] (by decide +kernel) (by decide +kernel)
