set_option maxRecDepth 20000 in
theorem ggX8_want_X8_inOrder : GoodIn wsX8_want wsX8_inOrder := goodIn_r _ [10, 1, 11, 12, 13, 5, 14, 19, 20, 21, 22, 23, 24, 25, 26, 27, 28, 29, 30, 31, 32, 33, 34, 35, 36, 37, 38, 39, 40, 41, 42, 43] (by decide +kernel) (by decide +kernel)
set_option maxRecDepth 20000 in
theorem gX8_want_X8_inOrder : GoodIn wsX8_want (wsV RX8 133 RX8 yX8_inOrder wsX8_inOrder) := goodIn_app (goodIn_of _ (by decide +kernel)) ggX8_want_X8_inOrder
set_option maxRecDepth 20000 in
theorem ggX8_want_X8_putIn : GoodIn wsX8_want wsX8_putIn := goodIn_r _ [18, 1, 11, 12, 13, 5, 14, 19, 20, 21, 22, 23, 24, 25, 26, 27, 28, 29, 30, 31, 32, 33, 34, 35, 36, 37, 38, 39, 40, 41, 42, 43] (by decide +kernel) (by decide +kernel)
set_option maxRecDepth 20000 in
theorem gX8_want_X8_putIn : GoodIn wsX8_want (wsV RX8 136 RX8 yX8_putIn wsX8_putIn) := goodIn_app (goodIn_of _ (by decide +kernel)) ggX8_want_X8_putIn
theorem dX8_want_0 : decode cX8_want 0 = .ok (.iload_n 1, 1) := by decide +kernel
theorem dX8_want_1 : decode cX8_want 1 = .ok (.iconst 0, 1) := by decide +kernel
theorem dX8_want_2 : decode cX8_want 2 = .ok (.iconst 1, 1) := by decide +kernel
theorem dX8_want_3 : decode cX8_want 3 = .ok (.invokestatic 73, 3) := by decide +kernel
theorem dX8_want_6 : decode cX8_want 6 = .ok (.ifCond .eq 12, 3) := by decide +kernel
theorem dX8_want_9 : decode cX8_want 9 = .ok (.iload_n 2, 1) := by decide +kernel
theorem dX8_want_10 : decode cX8_want 10 = .ok (.iconst 0, 1) := by decide +kernel
theorem dX8_want_11 : decode cX8_want 11 = .ok (.iconst 2, 1) := by decide +kernel
theorem dX8_want_12 : decode cX8_want 12 = .ok (.invokestatic 73, 3) := by decide +kernel
theorem dX8_want_15 : decode cX8_want 15 = .ok (.ifCond .ne 5, 3) := by decide +kernel
theorem dX8_want_18 : decode cX8_want 18 = .ok (.iconst (-1), 1) := by decide +kernel
theorem dX8_want_19 : decode cX8_want 19 = .ok (.ireturn, 1) := by decide +kernel
theorem dX8_want_20 : decode cX8_want 20 = .ok (.aload_n 0, 1) := by decide +kernel
theorem dX8_want_21 : decode cX8_want 21 = .ok (.getfield 42, 3) := by decide +kernel
theorem dX8_want_24 : decode cX8_want 24 = .ok (.sipush 162, 3) := by decide +kernel
theorem dX8_want_27 : decode cX8_want 27 = .ok (.iload_n 1, 1) := by decide +kernel
theorem dX8_want_28 : decode cX8_want 28 = .ok (.iadd, 1) := by decide +kernel
theorem dX8_want_29 : decode cX8_want 29 = .ok (.iaload, 1) := by decide +kernel
theorem dX8_want_30 : decode cX8_want 30 = .ok (.bipush 10, 2) := by decide +kernel
theorem dX8_want_32 : decode cX8_want 32 = .ok (.if_icmp .ne 6, 3) := by decide +kernel
theorem dX8_want_35 : decode cX8_want 35 = .ok (.bipush (-3), 2) := by decide +kernel
theorem dX8_want_37 : decode cX8_want 37 = .ok (.ireturn, 1) := by decide +kernel
theorem dX8_want_38 : decode cX8_want 38 = .ok (.aload_n 0, 1) := by decide +kernel
theorem dX8_want_39 : decode cX8_want 39 = .ok (.bipush 81, 2) := by decide +kernel
theorem dX8_want_41 : decode cX8_want 41 = .ok (.iload_n 1, 1) := by decide +kernel
theorem dX8_want_42 : decode cX8_want 42 = .ok (.aload_n 0, 1) := by decide +kernel
theorem dX8_want_43 : decode cX8_want 43 = .ok (.getfield 13, 3) := by decide +kernel
theorem dX8_want_46 : decode cX8_want 46 = .ok (.iload_n 1, 1) := by decide +kernel
theorem dX8_want_47 : decode cX8_want 47 = .ok (.baload, 1) := by decide +kernel
theorem dX8_want_48 : decode cX8_want 48 = .ok (.ifCond .eq 14, 3) := by decide +kernel
theorem dX8_want_51 : decode cX8_want 51 = .ok (.aload_n 0, 1) := by decide +kernel
theorem dX8_want_52 : decode cX8_want 52 = .ok (.bipush 81, 2) := by decide +kernel
theorem dX8_want_54 : decode cX8_want 54 = .ok (.iload_n 1, 1) := by decide +kernel
theorem dX8_want_55 : decode cX8_want 55 = .ok (.iload_n 2, 1) := by decide +kernel
theorem dX8_want_56 : decode cX8_want 56 = .ok (.invokevirtual 133, 3) := by decide +kernel
theorem dX8_want_59 : decode cX8_want 59 = .ok (.goto 13, 3) := by decide +kernel
theorem dX8_want_62 : decode cX8_want 62 = .ok (.aload_n 0, 1) := by decide +kernel
theorem dX8_want_63 : decode cX8_want 63 = .ok (.getfield 42, 3) := by decide +kernel
theorem dX8_want_66 : decode cX8_want 66 = .ok (.sipush 162, 3) := by decide +kernel
theorem dX8_want_69 : decode cX8_want 69 = .ok (.iload_n 1, 1) := by decide +kernel
theorem dX8_want_70 : decode cX8_want 70 = .ok (.iadd, 1) := by decide +kernel
theorem dX8_want_71 : decode cX8_want 71 = .ok (.iaload, 1) := by decide +kernel
theorem dX8_want_72 : decode cX8_want 72 = .ok (.iload_n 2, 1) := by decide +kernel
theorem dX8_want_73 : decode cX8_want 73 = .ok (.invokevirtual 136, 3) := by decide +kernel
theorem dX8_want_76 : decode cX8_want 76 = .ok (.aload_n 0, 1) := by decide +kernel
theorem dX8_want_77 : decode cX8_want 77 = .ok (.getfield 42, 3) := by decide +kernel
theorem dX8_want_80 : decode cX8_want 80 = .ok (.sipush 162, 3) := by decide +kernel
theorem dX8_want_83 : decode cX8_want 83 = .ok (.iload_n 1, 1) := by decide +kernel
theorem dX8_want_84 : decode cX8_want 84 = .ok (.iadd, 1) := by decide +kernel
theorem dX8_want_85 : decode cX8_want 85 = .ok (.iaload, 1) := by decide +kernel
theorem dX8_want_86 : decode cX8_want 86 = .ok (.ireturn, 1) := by decide +kernel
set_option maxRecDepth 20000 in
theorem ggX8_ahead_X8_copy : GoodIn wsX8_ahead wsX8_copy := goodIn_r _ [13, 1, 5, 8, 14, 15, 12, 16, 33, 34, 35, 36, 37, 38, 39, 40, 41, 42, 43, 44, 45, 46, 47, 48, 49, 50, 51, 52, 53, 54, 55, 56, 57] (by decide +kernel) (by decide +kernel)
set_option maxRecDepth 20000 in
theorem gX8_ahead_X8_copy : GoodIn wsX8_ahead (wsV RX8 140 RX8 yX8_copy wsX8_copy) := goodIn_app (goodIn_of _ (by decide +kernel)) ggX8_ahead_X8_copy
set_option maxRecDepth 20000 in
theorem ggX8_ahead_X8_inOrder : GoodIn wsX8_ahead wsX8_inOrder := goodIn_r _ [20, 5, 8, 14, 15, 12, 16, 33, 34, 35, 36, 37, 38, 39, 40, 41, 42, 43, 44, 45, 46, 47, 48, 49, 50, 51, 52, 53, 54, 55, 56, 57] (by decide +kernel) (by decide +kernel)
set_option maxRecDepth 20000 in
theorem gX8_ahead_X8_inOrder : GoodIn wsX8_ahead (wsV RX8 133 RX8 yX8_inOrder wsX8_inOrder) := goodIn_app (goodIn_of _ (by decide +kernel)) ggX8_ahead_X8_inOrder
set_option maxRecDepth 20000 in
theorem ggX8_ahead_X8_putIn : GoodIn wsX8_ahead wsX8_putIn := goodIn_r _ [24, 5, 8, 14, 15, 12, 16, 33, 34, 35, 36, 37, 38, 39, 40, 41, 42, 43, 44, 45, 46, 47, 48, 49, 50, 51, 52, 53, 54, 55, 56, 57] (by decide +kernel) (by decide +kernel)
set_option maxRecDepth 20000 in
theorem gX8_ahead_X8_putIn : GoodIn wsX8_ahead (wsV RX8 136 RX8 yX8_putIn wsX8_putIn) := goodIn_app (goodIn_of _ (by decide +kernel)) ggX8_ahead_X8_putIn
set_option maxRecDepth 20000 in
theorem ggX8_ahead_X8_firstOf : GoodIn wsX8_ahead wsX8_firstOf := goodIn_r _ [28, 5, 8, 14, 15, 12, 16, 33, 34, 35, 36, 37, 38, 39, 40, 41, 42, 43, 44, 45, 46, 47, 48, 49, 50, 51, 52, 53, 54, 55, 56, 57] (by decide +kernel) (by decide +kernel)
set_option maxRecDepth 20000 in
theorem gX8_ahead_X8_firstOf : GoodIn wsX8_ahead (wsV RX8 126 RX8 yX8_firstOf wsX8_firstOf) := goodIn_app (goodIn_of _ (by decide +kernel)) ggX8_ahead_X8_firstOf
set_option maxRecDepth 20000 in
theorem ggX8_ahead_X8_spot : GoodIn wsX8_ahead wsX8_spot := goodIn_r _ [16] (by decide +kernel) (by decide +kernel)
set_option maxRecDepth 20000 in
theorem gX8_ahead_X8_spot : GoodIn wsX8_ahead (va_wsS RX8 122 yX8_spot wsX8_spot) := goodIn_app (goodIn_of _ (by decide +kernel)) ggX8_ahead_X8_spot
set_option maxRecDepth 20000 in
theorem ggX8_ahead_X8_takeOut : GoodIn wsX8_ahead wsX8_takeOut := goodIn_r _ [32, 5, 8, 14, 15, 12, 16, 33, 34, 35, 36, 37, 38, 39, 40, 41, 42, 43, 44, 45, 46, 47, 48, 49, 50, 51, 52, 53, 54, 55, 56, 57] (by decide +kernel) (by decide +kernel)
set_option maxRecDepth 20000 in
theorem gX8_ahead_X8_takeOut : GoodIn wsX8_ahead (wsV RX8 129 RX8 yX8_takeOut wsX8_takeOut) := goodIn_app (goodIn_of _ (by decide +kernel)) ggX8_ahead_X8_takeOut
theorem dX8_ahead_0 : decode cX8_ahead 0 = .ok (.aload_n 0, 1) := by decide +kernel
theorem dX8_ahead_1 : decode cX8_ahead 1 = .ok (.iload_n 1, 1) := by decide +kernel
theorem dX8_ahead_2 : decode cX8_ahead 2 = .ok (.bipush 80, 2) := by decide +kernel
theorem dX8_ahead_4 : decode cX8_ahead 4 = .ok (.invokevirtual 140, 3) := by decide +kernel
theorem dX8_ahead_7 : decode cX8_ahead 7 = .ok (.aload_n 0, 1) := by decide +kernel
theorem dX8_ahead_8 : decode cX8_ahead 8 = .ok (.getfield 39, 3) := by decide +kernel
theorem dX8_ahead_11 : decode cX8_ahead 11 = .ok (.bipush 80, 2) := by decide +kernel
theorem dX8_ahead_13 : decode cX8_ahead 13 = .ok (.aload_n 0, 1) := by decide +kernel
theorem dX8_ahead_14 : decode cX8_ahead 14 = .ok (.getfield 17, 3) := by decide +kernel
theorem dX8_ahead_17 : decode cX8_ahead 17 = .ok (.iload_n 2, 1) := by decide +kernel
theorem dX8_ahead_18 : decode cX8_ahead 18 = .ok (.iaload, 1) := by decide +kernel
theorem dX8_ahead_19 : decode cX8_ahead 19 = .ok (.iastore, 1) := by decide +kernel
theorem dX8_ahead_20 : decode cX8_ahead 20 = .ok (.aload_n 0, 1) := by decide +kernel
theorem dX8_ahead_21 : decode cX8_ahead 21 = .ok (.getfield 24, 3) := by decide +kernel
theorem dX8_ahead_24 : decode cX8_ahead 24 = .ok (.iload_n 2, 1) := by decide +kernel
theorem dX8_ahead_25 : decode cX8_ahead 25 = .ok (.iaload, 1) := by decide +kernel
theorem dX8_ahead_26 : decode cX8_ahead 26 = .ok (.istore_n 3, 1) := by decide +kernel
theorem dX8_ahead_27 : decode cX8_ahead 27 = .ok (.aload_n 0, 1) := by decide +kernel
theorem dX8_ahead_28 : decode cX8_ahead 28 = .ok (.getfield 27, 3) := by decide +kernel
theorem dX8_ahead_31 : decode cX8_ahead 31 = .ok (.iload_n 2, 1) := by decide +kernel
theorem dX8_ahead_32 : decode cX8_ahead 32 = .ok (.iaload, 1) := by decide +kernel
theorem dX8_ahead_33 : decode cX8_ahead 33 = .ok (.istore 4, 2) := by decide +kernel
theorem dX8_ahead_35 : decode cX8_ahead 35 = .ok (.aload_n 0, 1) := by decide +kernel
theorem dX8_ahead_36 : decode cX8_ahead 36 = .ok (.getfield 42, 3) := by decide +kernel
theorem dX8_ahead_39 : decode cX8_ahead 39 = .ok (.sipush 160, 3) := by decide +kernel
theorem dX8_ahead_42 : decode cX8_ahead 42 = .ok (.iload_n 3, 1) := by decide +kernel
theorem dX8_ahead_43 : decode cX8_ahead 43 = .ok (.iadd, 1) := by decide +kernel
theorem dX8_ahead_44 : decode cX8_ahead 44 = .ok (.iaload, 1) := by decide +kernel
theorem dX8_ahead_45 : decode cX8_ahead 45 = .ok (.istore 5, 2) := by decide +kernel
theorem dX8_ahead_47 : decode cX8_ahead 47 = .ok (.aload_n 0, 1) := by decide +kernel
theorem dX8_ahead_48 : decode cX8_ahead 48 = .ok (.getfield 21, 3) := by decide +kernel
theorem dX8_ahead_51 : decode cX8_ahead 51 = .ok (.iload_n 2, 1) := by decide +kernel
theorem dX8_ahead_52 : decode cX8_ahead 52 = .ok (.iaload, 1) := by decide +kernel
theorem dX8_ahead_53 : decode cX8_ahead 53 = .ok (.iconst 2, 1) := by decide +kernel
theorem dX8_ahead_54 : decode cX8_ahead 54 = .ok (.if_icmp .ne 37, 3) := by decide +kernel
theorem dX8_ahead_57 : decode cX8_ahead 57 = .ok (.aload_n 0, 1) := by decide +kernel
theorem dX8_ahead_58 : decode cX8_ahead 58 = .ok (.bipush 80, 2) := by decide +kernel
theorem dX8_ahead_60 : decode cX8_ahead 60 = .ok (.iload_n 3, 1) := by decide +kernel
theorem dX8_ahead_61 : decode cX8_ahead 61 = .ok (.aload_n 0, 1) := by decide +kernel
theorem dX8_ahead_62 : decode cX8_ahead 62 = .ok (.getfield 13, 3) := by decide +kernel
theorem dX8_ahead_65 : decode cX8_ahead 65 = .ok (.iload_n 3, 1) := by decide +kernel
theorem dX8_ahead_66 : decode cX8_ahead 66 = .ok (.baload, 1) := by decide +kernel
theorem dX8_ahead_67 : decode cX8_ahead 67 = .ok (.ifCond .eq 15, 3) := by decide +kernel
theorem dX8_ahead_70 : decode cX8_ahead 70 = .ok (.aload_n 0, 1) := by decide +kernel
theorem dX8_ahead_71 : decode cX8_ahead 71 = .ok (.bipush 80, 2) := by decide +kernel
theorem dX8_ahead_73 : decode cX8_ahead 73 = .ok (.iload_n 3, 1) := by decide +kernel
theorem dX8_ahead_74 : decode cX8_ahead 74 = .ok (.iload 4, 2) := by decide +kernel
theorem dX8_ahead_76 : decode cX8_ahead 76 = .ok (.invokevirtual 133, 3) := by decide +kernel
theorem dX8_ahead_79 : decode cX8_ahead 79 = .ok (.goto 4, 3) := by decide +kernel
theorem dX8_ahead_82 : decode cX8_ahead 82 = .ok (.iconst 0, 1) := by decide +kernel
theorem dX8_ahead_83 : decode cX8_ahead 83 = .ok (.iload 4, 2) := by decide +kernel
theorem dX8_ahead_85 : decode cX8_ahead 85 = .ok (.invokevirtual 136, 3) := by decide +kernel
theorem dX8_ahead_88 : decode cX8_ahead 88 = .ok (.goto 83, 3) := by decide +kernel
theorem dX8_ahead_91 : decode cX8_ahead 91 = .ok (.aload_n 0, 1) := by decide +kernel
theorem dX8_ahead_92 : decode cX8_ahead 92 = .ok (.getfield 21, 3) := by decide +kernel
theorem dX8_ahead_95 : decode cX8_ahead 95 = .ok (.iload_n 2, 1) := by decide +kernel
theorem dX8_ahead_96 : decode cX8_ahead 96 = .ok (.iaload, 1) := by decide +kernel
theorem dX8_ahead_97 : decode cX8_ahead 97 = .ok (.iconst 1, 1) := by decide +kernel
theorem dX8_ahead_98 : decode cX8_ahead 98 = .ok (.if_icmp .ne 73, 3) := by decide +kernel
theorem dX8_ahead_101 : decode cX8_ahead 101 = .ok (.aload_n 0, 1) := by decide +kernel
theorem dX8_ahead_102 : decode cX8_ahead 102 = .ok (.getfield 13, 3) := by decide +kernel
theorem dX8_ahead_105 : decode cX8_ahead 105 = .ok (.iload_n 3, 1) := by decide +kernel
theorem dX8_ahead_106 : decode cX8_ahead 106 = .ok (.baload, 1) := by decide +kernel
theorem dX8_ahead_107 : decode cX8_ahead 107 = .ok (.ifCond .eq 15, 3) := by decide +kernel
theorem dX8_ahead_110 : decode cX8_ahead 110 = .ok (.aload_n 0, 1) := by decide +kernel
theorem dX8_ahead_111 : decode cX8_ahead 111 = .ok (.bipush 80, 2) := by decide +kernel
theorem dX8_ahead_113 : decode cX8_ahead 113 = .ok (.iload_n 3, 1) := by decide +kernel
theorem dX8_ahead_114 : decode cX8_ahead 114 = .ok (.iload 4, 2) := by decide +kernel
theorem dX8_ahead_116 : decode cX8_ahead 116 = .ok (.invokevirtual 126, 3) := by decide +kernel
theorem dX8_ahead_119 : decode cX8_ahead 119 = .ok (.goto 36, 3) := by decide +kernel
theorem dX8_ahead_122 : decode cX8_ahead 122 = .ok (.iload 5, 2) := by decide +kernel
theorem dX8_ahead_124 : decode cX8_ahead 124 = .ok (.ifCond .le 30, 3) := by decide +kernel
theorem dX8_ahead_127 : decode cX8_ahead 127 = .ok (.aload_n 0, 1) := by decide +kernel
theorem dX8_ahead_128 : decode cX8_ahead 128 = .ok (.getfield 45, 3) := by decide +kernel
theorem dX8_ahead_131 : decode cX8_ahead 131 = .ok (.bipush 80, 2) := by decide +kernel
theorem dX8_ahead_133 : decode cX8_ahead 133 = .ok (.iload_n 3, 1) := by decide +kernel
theorem dX8_ahead_134 : decode cX8_ahead 134 = .ok (.iload 5, 2) := by decide +kernel
theorem dX8_ahead_136 : decode cX8_ahead 136 = .ok (.iconst 1, 1) := by decide +kernel
theorem dX8_ahead_137 : decode cX8_ahead 137 = .ok (.isub, 1) := by decide +kernel
theorem dX8_ahead_138 : decode cX8_ahead 138 = .ok (.invokestatic 122, 3) := by decide +kernel
theorem dX8_ahead_141 : decode cX8_ahead 141 = .ok (.iaload, 1) := by decide +kernel
theorem dX8_ahead_142 : decode cX8_ahead 142 = .ok (.iload 4, 2) := by decide +kernel
theorem dX8_ahead_144 : decode cX8_ahead 144 = .ok (.if_icmp .ne 10, 3) := by decide +kernel
theorem dX8_ahead_147 : decode cX8_ahead 147 = .ok (.iload 5, 2) := by decide +kernel
theorem dX8_ahead_149 : decode cX8_ahead 149 = .ok (.iconst 1, 1) := by decide +kernel
theorem dX8_ahead_150 : decode cX8_ahead 150 = .ok (.isub, 1) := by decide +kernel
theorem dX8_ahead_151 : decode cX8_ahead 151 = .ok (.goto 4, 3) := by decide +kernel
theorem dX8_ahead_154 : decode cX8_ahead 154 = .ok (.iconst (-1), 1) := by decide +kernel
theorem dX8_ahead_155 : decode cX8_ahead 155 = .ok (.istore 6, 2) := by decide +kernel
theorem dX8_ahead_157 : decode cX8_ahead 157 = .ok (.iload 6, 2) := by decide +kernel
theorem dX8_ahead_159 : decode cX8_ahead 159 = .ok (.ifCond .lt 12, 3) := by decide +kernel
theorem dX8_ahead_162 : decode cX8_ahead 162 = .ok (.aload_n 0, 1) := by decide +kernel
theorem dX8_ahead_163 : decode cX8_ahead 163 = .ok (.bipush 80, 2) := by decide +kernel
theorem dX8_ahead_165 : decode cX8_ahead 165 = .ok (.iload_n 3, 1) := by decide +kernel
theorem dX8_ahead_166 : decode cX8_ahead 166 = .ok (.iload 6, 2) := by decide +kernel
theorem dX8_ahead_168 : decode cX8_ahead 168 = .ok (.invokevirtual 129, 3) := by decide +kernel
theorem dX8_ahead_171 : decode cX8_ahead 171 = .ok (.return_, 1) := by decide +kernel
set_option maxRecDepth 20000 in
theorem ggX8_isNew_X8_isBelow : GoodIn wsX8_isNew wsX8_isBelow := goodIn_r _ [6, 7, 8, 9, 10, 11, 5, 12, 13, 14, 15, 16, 17, 18, 19, 20, 21, 22, 23, 24, 25, 26, 27, 28, 29, 30, 31, 32, 33, 34, 35, 36, 37] (by decide +kernel) (by decide +kernel)
set_option maxRecDepth 20000 in
theorem gX8_isNew_X8_isBelow : GoodIn wsX8_isNew (wsV RX8 146 RX8 yX8_isBelow wsX8_isBelow) := goodIn_app (goodIn_of _ (by decide +kernel)) ggX8_isNew_X8_isBelow
theorem dX8_isNew_0 : decode cX8_isNew 0 = .ok (.iconst 1, 1) := by decide +kernel
theorem dX8_isNew_1 : decode cX8_isNew 1 = .ok (.istore_n 1, 1) := by decide +kernel
theorem dX8_isNew_2 : decode cX8_isNew 2 = .ok (.iconst 0, 1) := by decide +kernel
theorem dX8_isNew_3 : decode cX8_isNew 3 = .ok (.istore_n 2, 1) := by decide +kernel
theorem dX8_isNew_4 : decode cX8_isNew 4 = .ok (.iload_n 2, 1) := by decide +kernel
theorem dX8_isNew_5 : decode cX8_isNew 5 = .ok (.aload_n 0, 1) := by decide +kernel
theorem dX8_isNew_6 : decode cX8_isNew 6 = .ok (.getfield 143, 3) := by decide +kernel
theorem dX8_isNew_9 : decode cX8_isNew 9 = .ok (.if_icmp .ge 29, 3) := by decide +kernel
theorem dX8_isNew_12 : decode cX8_isNew 12 = .ok (.iload_n 1, 1) := by decide +kernel
theorem dX8_isNew_13 : decode cX8_isNew 13 = .ok (.ifCond .eq 25, 3) := by decide +kernel
theorem dX8_isNew_16 : decode cX8_isNew 16 = .ok (.aload_n 0, 1) := by decide +kernel
theorem dX8_isNew_17 : decode cX8_isNew 17 = .ok (.iload_n 2, 1) := by decide +kernel
theorem dX8_isNew_18 : decode cX8_isNew 18 = .ok (.bipush 80, 2) := by decide +kernel
theorem dX8_isNew_20 : decode cX8_isNew 20 = .ok (.invokevirtual 146, 3) := by decide +kernel
theorem dX8_isNew_23 : decode cX8_isNew 23 = .ok (.ifCond .ne 7, 3) := by decide +kernel
theorem dX8_isNew_26 : decode cX8_isNew 26 = .ok (.iconst 1, 1) := by decide +kernel
theorem dX8_isNew_27 : decode cX8_isNew 27 = .ok (.goto 4, 3) := by decide +kernel
theorem dX8_isNew_30 : decode cX8_isNew 30 = .ok (.iconst 0, 1) := by decide +kernel
theorem dX8_isNew_31 : decode cX8_isNew 31 = .ok (.istore_n 1, 1) := by decide +kernel
theorem dX8_isNew_32 : decode cX8_isNew 32 = .ok (.iinc 2 1, 3) := by decide +kernel
theorem dX8_isNew_35 : decode cX8_isNew 35 = .ok (.goto (-31), 3) := by decide +kernel
theorem dX8_isNew_38 : decode cX8_isNew 38 = .ok (.iload_n 1, 1) := by decide +kernel
theorem dX8_isNew_39 : decode cX8_isNew 39 = .ok (.ireturn, 1) := by decide +kernel
set_option maxRecDepth 20000 in
theorem ggX8_find_X8_copy : GoodIn wsX8_find wsX8_copy := goodIn_r _ [9, 10, 11, 12, 13, 14, 8, 15, 16, 17, 18, 19, 20, 21, 22, 23, 24, 25, 26, 27, 28, 29, 30, 31, 32, 33, 34, 35, 36, 37, 38, 39, 40] (by decide +kernel) (by decide +kernel)
set_option maxRecDepth 20000 in
theorem gX8_find_X8_copy : GoodIn wsX8_find (wsV RX8 140 RX8 yX8_copy wsX8_copy) := goodIn_app (goodIn_of _ (by decide +kernel)) ggX8_find_X8_copy
theorem dX8_find_0 : decode cX8_find 0 = .ok (.aload_n 0, 1) := by decide +kernel
theorem dX8_find_1 : decode cX8_find 1 = .ok (.bipush 80, 2) := by decide +kernel
theorem dX8_find_3 : decode cX8_find 3 = .ok (.aload_n 0, 1) := by decide +kernel
theorem dX8_find_4 : decode cX8_find 4 = .ok (.getfield 143, 3) := by decide +kernel
theorem dX8_find_7 : decode cX8_find 7 = .ok (.invokevirtual 140, 3) := by decide +kernel
theorem dX8_find_10 : decode cX8_find 10 = .ok (.aload_n 0, 1) := by decide +kernel
theorem dX8_find_11 : decode cX8_find 11 = .ok (.getfield 48, 3) := by decide +kernel
theorem dX8_find_14 : decode cX8_find 14 = .ok (.aload_n 0, 1) := by decide +kernel
theorem dX8_find_15 : decode cX8_find 15 = .ok (.getfield 143, 3) := by decide +kernel
theorem dX8_find_18 : decode cX8_find 18 = .ok (.iload_n 1, 1) := by decide +kernel
theorem dX8_find_19 : decode cX8_find 19 = .ok (.iastore, 1) := by decide +kernel
theorem dX8_find_20 : decode cX8_find 20 = .ok (.aload_n 0, 1) := by decide +kernel
theorem dX8_find_21 : decode cX8_find 21 = .ok (.getfield 51, 3) := by decide +kernel
theorem dX8_find_24 : decode cX8_find 24 = .ok (.aload_n 0, 1) := by decide +kernel
theorem dX8_find_25 : decode cX8_find 25 = .ok (.getfield 143, 3) := by decide +kernel
theorem dX8_find_28 : decode cX8_find 28 = .ok (.iload_n 2, 1) := by decide +kernel
theorem dX8_find_29 : decode cX8_find 29 = .ok (.iastore, 1) := by decide +kernel
theorem dX8_find_30 : decode cX8_find 30 = .ok (.aload_n 0, 1) := by decide +kernel
theorem dX8_find_31 : decode cX8_find 31 = .ok (.getfield 54, 3) := by decide +kernel
theorem dX8_find_34 : decode cX8_find 34 = .ok (.aload_n 0, 1) := by decide +kernel
theorem dX8_find_35 : decode cX8_find 35 = .ok (.getfield 143, 3) := by decide +kernel
theorem dX8_find_38 : decode cX8_find 38 = .ok (.iload_n 3, 1) := by decide +kernel
theorem dX8_find_39 : decode cX8_find 39 = .ok (.iastore, 1) := by decide +kernel
theorem dX8_find_40 : decode cX8_find 40 = .ok (.aload_n 0, 1) := by decide +kernel
theorem dX8_find_41 : decode cX8_find 41 = .ok (.dup, 1) := by decide +kernel
theorem dX8_find_42 : decode cX8_find 42 = .ok (.getfield 143, 3) := by decide +kernel
theorem dX8_find_45 : decode cX8_find 45 = .ok (.iconst 1, 1) := by decide +kernel
theorem dX8_find_46 : decode cX8_find 46 = .ok (.iadd, 1) := by decide +kernel
theorem dX8_find_47 : decode cX8_find 47 = .ok (.putfield 143, 3) := by decide +kernel
theorem dX8_find_50 : decode cX8_find 50 = .ok (.return_, 1) := by decide +kernel
set_option maxRecDepth 20000 in
theorem ggX8_search_X8_copy : GoodIn wsX8_search wsX8_copy := goodIn_r _ [11, 4, 5, 12, 13, 14, 10, 15, 55, 56, 57, 58, 59, 60, 61, 62, 63, 64, 65, 66, 67, 68, 69, 70, 71, 72, 73, 74, 75, 76, 77, 78, 79] (by decide +kernel) (by decide +kernel)
set_option maxRecDepth 20000 in
theorem gX8_search_X8_copy : GoodIn wsX8_search (wsV RX8 140 RX8 yX8_copy wsX8_copy) := goodIn_app (goodIn_of _ (by decide +kernel)) ggX8_search_X8_copy
set_option maxRecDepth 20000 in
theorem ggX8_search_X8_find : GoodIn wsX8_search wsX8_find := goodIn_r _ [19, 1, 6, 20, 21, 7, 8, 9, 10, 11, 4, 5, 12, 13, 14, 15, 55, 56, 57, 58, 59, 60, 61, 62, 63, 64, 65, 66, 67, 68, 69, 70, 71, 72, 73, 74, 75, 76, 77, 78, 79] (by decide +kernel) (by decide +kernel)
set_option maxRecDepth 20000 in
theorem gX8_search_X8_find : GoodIn wsX8_search (wsV RX8 150 RX8 yX8_find wsX8_find) := goodIn_app (goodIn_of _ (by decide +kernel)) ggX8_search_X8_find
set_option maxRecDepth 20000 in
theorem ggX8_search_X8_ahead : GoodIn wsX8_search wsX8_ahead := goodIn_r _ [25, 4, 26, 27, 28, 5, 29, 30, 12, 7, 8, 9, 10, 11, 13, 14, 15, 31, 32, 33, 34, 35, 36, 37, 38, 39, 40, 41, 42, 43, 44, 45, 46, 55, 56, 57, 58, 59, 60, 61, 62, 63, 64, 65, 66, 67, 68, 69, 70, 71, 72, 73, 74, 75, 76, 77, 78, 79] (by decide +kernel) (by decide +kernel)
set_option maxRecDepth 20000 in
theorem gX8_search_X8_ahead : GoodIn wsX8_search (wsV RX8 153 RX8 yX8_ahead wsX8_ahead) := goodIn_app (goodIn_of _ (by decide +kernel)) ggX8_search_X8_ahead
set_option maxRecDepth 20000 in
theorem ggX8_search_X8_isNew : GoodIn wsX8_search wsX8_isNew := goodIn_r _ [50, 1, 51, 52, 53, 10, 54, 4, 5, 12, 13, 14, 15, 55, 56, 57, 58, 59, 60, 61, 62, 63, 64, 65, 66, 67, 68, 69, 70, 71, 72, 73, 74, 75, 76, 77, 78, 79] (by decide +kernel) (by decide +kernel)
set_option maxRecDepth 20000 in
theorem gX8_search_X8_isNew : GoodIn wsX8_search (wsV RX8 156 RX8 yX8_isNew wsX8_isNew) := goodIn_app (goodIn_of _ (by decide +kernel)) ggX8_search_X8_isNew
theorem dX8_search_0 : decode cX8_search 0 = .ok (.aload_n 0, 1) := by decide +kernel
theorem dX8_search_1 : decode cX8_search 1 = .ok (.iconst 0, 1) := by decide +kernel
theorem dX8_search_2 : decode cX8_search 2 = .ok (.putfield 143, 3) := by decide +kernel
theorem dX8_search_5 : decode cX8_search 5 = .ok (.aload_n 0, 1) := by decide +kernel
theorem dX8_search_6 : decode cX8_search 6 = .ok (.bipush 81, 2) := by decide +kernel
theorem dX8_search_8 : decode cX8_search 8 = .ok (.bipush 80, 2) := by decide +kernel
theorem dX8_search_10 : decode cX8_search 10 = .ok (.invokevirtual 140, 3) := by decide +kernel
theorem dX8_search_13 : decode cX8_search 13 = .ok (.aload_n 0, 1) := by decide +kernel
theorem dX8_search_14 : decode cX8_search 14 = .ok (.iconst 0, 1) := by decide +kernel
theorem dX8_search_15 : decode cX8_search 15 = .ok (.bipush (-2), 2) := by decide +kernel
theorem dX8_search_17 : decode cX8_search 17 = .ok (.bipush (-2), 2) := by decide +kernel
theorem dX8_search_19 : decode cX8_search 19 = .ok (.invokevirtual 150, 3) := by decide +kernel
theorem dX8_search_22 : decode cX8_search 22 = .ok (.iconst 0, 1) := by decide +kernel
theorem dX8_search_23 : decode cX8_search 23 = .ok (.istore_n 1, 1) := by decide +kernel
theorem dX8_search_24 : decode cX8_search 24 = .ok (.iload_n 1, 1) := by decide +kernel
theorem dX8_search_25 : decode cX8_search 25 = .ok (.aload_n 0, 1) := by decide +kernel
theorem dX8_search_26 : decode cX8_search 26 = .ok (.getfield 143, 3) := by decide +kernel
theorem dX8_search_29 : decode cX8_search 29 = .ok (.if_icmp .ge 104, 3) := by decide +kernel
theorem dX8_search_32 : decode cX8_search 32 = .ok (.iconst 0, 1) := by decide +kernel
theorem dX8_search_33 : decode cX8_search 33 = .ok (.istore_n 2, 1) := by decide +kernel
theorem dX8_search_34 : decode cX8_search 34 = .ok (.iload_n 2, 1) := by decide +kernel
theorem dX8_search_35 : decode cX8_search 35 = .ok (.aload_n 0, 1) := by decide +kernel
theorem dX8_search_36 : decode cX8_search 36 = .ok (.getfield 77, 3) := by decide +kernel
theorem dX8_search_39 : decode cX8_search 39 = .ok (.if_icmp .ge 88, 3) := by decide +kernel
theorem dX8_search_42 : decode cX8_search 42 = .ok (.aload_n 0, 1) := by decide +kernel
theorem dX8_search_43 : decode cX8_search 43 = .ok (.getfield 30, 3) := by decide +kernel
theorem dX8_search_46 : decode cX8_search 46 = .ok (.iload_n 2, 1) := by decide +kernel
theorem dX8_search_47 : decode cX8_search 47 = .ok (.iaload, 1) := by decide +kernel
theorem dX8_search_48 : decode cX8_search 48 = .ok (.aload_n 0, 1) := by decide +kernel
theorem dX8_search_49 : decode cX8_search 49 = .ok (.getfield 39, 3) := by decide +kernel
theorem dX8_search_52 : decode cX8_search 52 = .ok (.iload_n 1, 1) := by decide +kernel
theorem dX8_search_53 : decode cX8_search 53 = .ok (.iaload, 1) := by decide +kernel
theorem dX8_search_54 : decode cX8_search 54 = .ok (.if_icmp .ne 67, 3) := by decide +kernel
theorem dX8_search_57 : decode cX8_search 57 = .ok (.aload_n 0, 1) := by decide +kernel
theorem dX8_search_58 : decode cX8_search 58 = .ok (.iload_n 1, 1) := by decide +kernel
theorem dX8_search_59 : decode cX8_search 59 = .ok (.iload_n 2, 1) := by decide +kernel
theorem dX8_search_60 : decode cX8_search 60 = .ok (.invokevirtual 153, 3) := by decide +kernel
theorem dX8_search_63 : decode cX8_search 63 = .ok (.aload_n 0, 1) := by decide +kernel
theorem dX8_search_64 : decode cX8_search 64 = .ok (.invokevirtual 156, 3) := by decide +kernel
theorem dX8_search_67 : decode cX8_search 67 = .ok (.ifCond .eq 54, 3) := by decide +kernel
theorem dX8_search_70 : decode cX8_search 70 = .ok (.aload_n 0, 1) := by decide +kernel
theorem dX8_search_71 : decode cX8_search 71 = .ok (.getfield 42, 3) := by decide +kernel
theorem dX8_search_74 : decode cX8_search 74 = .ok (.sipush 160, 3) := by decide +kernel
theorem dX8_search_77 : decode cX8_search 77 = .ok (.iaload, 1) := by decide +kernel
theorem dX8_search_78 : decode cX8_search 78 = .ok (.bipush 10, 2) := by decide +kernel
theorem dX8_search_80 : decode cX8_search 80 = .ok (.if_icmp .gt 25, 3) := by decide +kernel
theorem dX8_search_83 : decode cX8_search 83 = .ok (.aload_n 0, 1) := by decide +kernel
theorem dX8_search_84 : decode cX8_search 84 = .ok (.getfield 42, 3) := by decide +kernel
theorem dX8_search_87 : decode cX8_search 87 = .ok (.sipush 161, 3) := by decide +kernel
theorem dX8_search_90 : decode cX8_search 90 = .ok (.iaload, 1) := by decide +kernel
theorem dX8_search_91 : decode cX8_search 91 = .ok (.bipush 10, 2) := by decide +kernel
theorem dX8_search_93 : decode cX8_search 93 = .ok (.if_icmp .gt 12, 3) := by decide +kernel
theorem dX8_search_96 : decode cX8_search 96 = .ok (.aload_n 0, 1) := by decide +kernel
theorem dX8_search_97 : decode cX8_search 97 = .ok (.getfield 143, 3) := by decide +kernel
theorem dX8_search_100 : decode cX8_search 100 = .ok (.bipush 80, 2) := by decide +kernel
theorem dX8_search_102 : decode cX8_search 102 = .ok (.if_icmp .ne 5, 3) := by decide +kernel
theorem dX8_search_105 : decode cX8_search 105 = .ok (.iconst 0, 1) := by decide +kernel
theorem dX8_search_106 : decode cX8_search 106 = .ok (.ireturn, 1) := by decide +kernel
theorem dX8_search_107 : decode cX8_search 107 = .ok (.aload_n 0, 1) := by decide +kernel
theorem dX8_search_108 : decode cX8_search 108 = .ok (.aload_n 0, 1) := by decide +kernel
theorem dX8_search_109 : decode cX8_search 109 = .ok (.getfield 48, 3) := by decide +kernel
theorem dX8_search_112 : decode cX8_search 112 = .ok (.iload_n 1, 1) := by decide +kernel
theorem dX8_search_113 : decode cX8_search 113 = .ok (.iaload, 1) := by decide +kernel
theorem dX8_search_114 : decode cX8_search 114 = .ok (.iconst 1, 1) := by decide +kernel
theorem dX8_search_115 : decode cX8_search 115 = .ok (.iadd, 1) := by decide +kernel
theorem dX8_search_116 : decode cX8_search 116 = .ok (.iload_n 2, 1) := by decide +kernel
theorem dX8_search_117 : decode cX8_search 117 = .ok (.iload_n 1, 1) := by decide +kernel
theorem dX8_search_118 : decode cX8_search 118 = .ok (.invokevirtual 150, 3) := by decide +kernel
theorem dX8_search_121 : decode cX8_search 121 = .ok (.iinc 2 1, 3) := by decide +kernel
theorem dX8_search_124 : decode cX8_search 124 = .ok (.goto (-90), 3) := by decide +kernel
theorem dX8_search_127 : decode cX8_search 127 = .ok (.iinc 1 1, 3) := by decide +kernel
theorem dX8_search_130 : decode cX8_search 130 = .ok (.goto (-106), 3) := by decide +kernel
theorem dX8_search_133 : decode cX8_search 133 = .ok (.iconst 1, 1) := by decide +kernel
theorem dX8_search_134 : decode cX8_search 134 = .ok (.ireturn, 1) := by decide +kernel
set_option maxRecDepth 20000 in
theorem ggX8_isLeast_X8_isBelow : GoodIn wsX8_isLeast wsX8_isBelow := goodIn_r _ [6, 7, 8, 9, 10, 11, 5, 12, 13, 14, 15, 16, 17, 18, 19, 20, 21, 22, 23, 24, 25, 26, 27, 28, 29, 30, 31, 32, 33, 34, 35, 36, 37] (by decide +kernel) (by decide +kernel)
set_option maxRecDepth 20000 in
theorem gX8_isLeast_X8_isBelow : GoodIn wsX8_isLeast (wsV RX8 146 RX8 yX8_isBelow wsX8_isBelow) := goodIn_app (goodIn_of _ (by decide +kernel)) ggX8_isLeast_X8_isBelow
theorem dX8_isLeast_0 : decode cX8_isLeast 0 = .ok (.iconst 1, 1) := by decide +kernel
theorem dX8_isLeast_1 : decode cX8_isLeast 1 = .ok (.istore_n 2, 1) := by decide +kernel
theorem dX8_isLeast_2 : decode cX8_isLeast 2 = .ok (.iconst 0, 1) := by decide +kernel
theorem dX8_isLeast_3 : decode cX8_isLeast 3 = .ok (.istore_n 3, 1) := by decide +kernel
theorem dX8_isLeast_4 : decode cX8_isLeast 4 = .ok (.iload_n 3, 1) := by decide +kernel
theorem dX8_isLeast_5 : decode cX8_isLeast 5 = .ok (.aload_n 0, 1) := by decide +kernel
theorem dX8_isLeast_6 : decode cX8_isLeast 6 = .ok (.getfield 143, 3) := by decide +kernel
theorem dX8_isLeast_9 : decode cX8_isLeast 9 = .ok (.if_icmp .ge 33, 3) := by decide +kernel
theorem dX8_isLeast_12 : decode cX8_isLeast 12 = .ok (.iload_n 2, 1) := by decide +kernel
theorem dX8_isLeast_13 : decode cX8_isLeast 13 = .ok (.ifCond .eq 29, 3) := by decide +kernel
theorem dX8_isLeast_16 : decode cX8_isLeast 16 = .ok (.iload_n 3, 1) := by decide +kernel
theorem dX8_isLeast_17 : decode cX8_isLeast 17 = .ok (.iload_n 1, 1) := by decide +kernel
theorem dX8_isLeast_18 : decode cX8_isLeast 18 = .ok (.if_icmp .eq 12, 3) := by decide +kernel
theorem dX8_isLeast_21 : decode cX8_isLeast 21 = .ok (.aload_n 0, 1) := by decide +kernel
theorem dX8_isLeast_22 : decode cX8_isLeast 22 = .ok (.iload_n 3, 1) := by decide +kernel
theorem dX8_isLeast_23 : decode cX8_isLeast 23 = .ok (.iload_n 1, 1) := by decide +kernel
theorem dX8_isLeast_24 : decode cX8_isLeast 24 = .ok (.invokevirtual 146, 3) := by decide +kernel
theorem dX8_isLeast_27 : decode cX8_isLeast 27 = .ok (.ifCond .ne 7, 3) := by decide +kernel
theorem dX8_isLeast_30 : decode cX8_isLeast 30 = .ok (.iconst 1, 1) := by decide +kernel
theorem dX8_isLeast_31 : decode cX8_isLeast 31 = .ok (.goto 4, 3) := by decide +kernel
theorem dX8_isLeast_34 : decode cX8_isLeast 34 = .ok (.iconst 0, 1) := by decide +kernel
theorem dX8_isLeast_35 : decode cX8_isLeast 35 = .ok (.istore_n 2, 1) := by decide +kernel
theorem dX8_isLeast_36 : decode cX8_isLeast 36 = .ok (.iinc 3 1, 3) := by decide +kernel
theorem dX8_isLeast_39 : decode cX8_isLeast 39 = .ok (.goto (-35), 3) := by decide +kernel
theorem dX8_isLeast_42 : decode cX8_isLeast 42 = .ok (.iload_n 2, 1) := by decide +kernel
theorem dX8_isLeast_43 : decode cX8_isLeast 43 = .ok (.ireturn, 1) := by decide +kernel
set_option maxRecDepth 20000 in
theorem ggX8_found_X8_search : GoodIn wsX8_found wsX8_search := goodIn_r _ [6, 1, 7, 8, 9, 10, 11, 12, 13, 14, 5, 15, 16, 17, 18, 19, 20, 21, 22, 23, 24, 25, 26, 27, 28, 29, 30, 31, 32, 33, 34, 35, 36, 37, 38, 39, 40, 41, 42, 43, 44, 45, 46, 47, 48, 49, 50, 51, 52, 53, 54, 55, 56, 57, 58, 59, 60, 61, 62, 63, 64, 65, 66, 67, 68, 69, 70, 71, 72, 73, 74, 75, 76, 77, 78, 79, 80, 81, 82, 83] (by decide +kernel) (by decide +kernel)
set_option maxRecDepth 20000 in
theorem gX8_found_X8_search : GoodIn wsX8_found (wsV RX8 160 RX8 yX8_search wsX8_search) := goodIn_app (goodIn_of _ (by decide +kernel)) ggX8_found_X8_search
theorem dX8_found_0 : decode cX8_found 0 = .ok (.aload_n 0, 1) := by decide +kernel
theorem dX8_found_1 : decode cX8_found 1 = .ok (.invokevirtual 160, 3) := by decide +kernel
theorem dX8_found_4 : decode cX8_found 4 = .ok (.ifCond .eq 10, 3) := by decide +kernel
theorem dX8_found_7 : decode cX8_found 7 = .ok (.aload_n 0, 1) := by decide +kernel
theorem dX8_found_8 : decode cX8_found 8 = .ok (.getfield 143, 3) := by decide +kernel
theorem dX8_found_11 : decode cX8_found 11 = .ok (.goto 5, 3) := by decide +kernel
theorem dX8_found_14 : decode cX8_found 14 = .ok (.bipush (-3), 2) := by decide +kernel
theorem dX8_found_16 : decode cX8_found 16 = .ok (.ireturn, 1) := by decide +kernel
set_option maxRecDepth 20000 in
theorem ggX8_about_X8_in : GoodIn wsX8_about wsX8_in := goodIn_r _ [10] (by decide +kernel) (by decide +kernel)
set_option maxRecDepth 20000 in
theorem gX8_about_X8_in : GoodIn wsX8_about (va_wsS RX8 73 yX8_in wsX8_in) := goodIn_app (goodIn_of _ (by decide +kernel)) ggX8_about_X8_in
set_option maxRecDepth 20000 in
theorem ggX8_about_X8_search : GoodIn wsX8_about wsX8_search := goodIn_r _ [14, 1, 15, 16, 2, 4, 3, 17, 18, 19, 9, 20, 21, 22, 23, 24, 25, 26, 27, 28, 5, 6, 29, 30, 31, 32, 33, 34, 35, 36, 37, 38, 39, 40, 41, 42, 43, 44, 45, 46, 47, 48, 49, 50, 51, 52, 53, 54, 55, 56, 57, 58, 59, 60, 61, 66, 67, 68, 69, 70, 71, 72, 73, 74, 75, 76, 77, 78, 79, 80, 81, 82, 83, 84, 85, 86, 87, 88, 89, 90] (by decide +kernel) (by decide +kernel)
set_option maxRecDepth 20000 in
theorem gX8_about_X8_search : GoodIn wsX8_about (wsV RX8 160 RX8 yX8_search wsX8_search) := goodIn_app (goodIn_of _ (by decide +kernel)) ggX8_about_X8_search
set_option maxRecDepth 20000 in
theorem ggX8_about_X8_isLeast : GoodIn wsX8_about wsX8_isLeast := goodIn_r _ [65, 1, 58, 59, 60, 9, 61, 2, 4, 21, 22, 23, 24, 66, 67, 68, 69, 70, 71, 72, 73, 74, 75, 76, 77, 78, 79, 80, 81, 82, 83, 84, 85, 86, 87, 88, 89, 90] (by decide +kernel) (by decide +kernel)
set_option maxRecDepth 20000 in
theorem gX8_about_X8_isLeast : GoodIn wsX8_about (wsV RX8 163 RX8 yX8_isLeast wsX8_isLeast) := goodIn_app (goodIn_of _ (by decide +kernel)) ggX8_about_X8_isLeast
theorem dX8_about_0 : decode cX8_about 0 = .ok (.iload_n 1, 1) := by decide +kernel
theorem dX8_about_1 : decode cX8_about 1 = .ok (.ifCond .lt 13, 3) := by decide +kernel
theorem dX8_about_4 : decode cX8_about 4 = .ok (.iload_n 2, 1) := by decide +kernel
theorem dX8_about_5 : decode cX8_about 5 = .ok (.iconst 0, 1) := by decide +kernel
theorem dX8_about_6 : decode cX8_about 6 = .ok (.bipush 6, 2) := by decide +kernel
theorem dX8_about_8 : decode cX8_about 8 = .ok (.invokestatic 73, 3) := by decide +kernel
theorem dX8_about_11 : decode cX8_about 11 = .ok (.ifCond .ne 5, 3) := by decide +kernel
theorem dX8_about_14 : decode cX8_about 14 = .ok (.iconst (-1), 1) := by decide +kernel
theorem dX8_about_15 : decode cX8_about 15 = .ok (.ireturn, 1) := by decide +kernel
theorem dX8_about_16 : decode cX8_about 16 = .ok (.aload_n 0, 1) := by decide +kernel
theorem dX8_about_17 : decode cX8_about 17 = .ok (.invokevirtual 160, 3) := by decide +kernel
theorem dX8_about_20 : decode cX8_about 20 = .ok (.ifCond .ne 6, 3) := by decide +kernel
theorem dX8_about_23 : decode cX8_about 23 = .ok (.bipush (-3), 2) := by decide +kernel
theorem dX8_about_25 : decode cX8_about 25 = .ok (.ireturn, 1) := by decide +kernel
theorem dX8_about_26 : decode cX8_about 26 = .ok (.iload_n 1, 1) := by decide +kernel
theorem dX8_about_27 : decode cX8_about 27 = .ok (.aload_n 0, 1) := by decide +kernel
theorem dX8_about_28 : decode cX8_about 28 = .ok (.getfield 143, 3) := by decide +kernel
theorem dX8_about_31 : decode cX8_about 31 = .ok (.if_icmp .lt 5, 3) := by decide +kernel
theorem dX8_about_34 : decode cX8_about 34 = .ok (.iconst (-1), 1) := by decide +kernel
theorem dX8_about_35 : decode cX8_about 35 = .ok (.ireturn, 1) := by decide +kernel
theorem dX8_about_36 : decode cX8_about 36 = .ok (.iload_n 2, 1) := by decide +kernel
theorem dX8_about_37 : decode cX8_about 37 = .ok (.tableswitch 80 0 5 #[39, 46, 53, 53, 66, 73], 39) := by decide +kernel
theorem dX8_about_76 : decode cX8_about 76 = .ok (.aload_n 0, 1) := by decide +kernel
theorem dX8_about_77 : decode cX8_about 77 = .ok (.getfield 39, 3) := by decide +kernel
theorem dX8_about_80 : decode cX8_about 80 = .ok (.iload_n 1, 1) := by decide +kernel
theorem dX8_about_81 : decode cX8_about 81 = .ok (.iaload, 1) := by decide +kernel
theorem dX8_about_82 : decode cX8_about 82 = .ok (.ireturn, 1) := by decide +kernel
theorem dX8_about_83 : decode cX8_about 83 = .ok (.aload_n 0, 1) := by decide +kernel
theorem dX8_about_84 : decode cX8_about 84 = .ok (.getfield 48, 3) := by decide +kernel
theorem dX8_about_87 : decode cX8_about 87 = .ok (.iload_n 1, 1) := by decide +kernel
theorem dX8_about_88 : decode cX8_about 88 = .ok (.iaload, 1) := by decide +kernel
theorem dX8_about_89 : decode cX8_about 89 = .ok (.ireturn, 1) := by decide +kernel
theorem dX8_about_90 : decode cX8_about 90 = .ok (.aload_n 0, 1) := by decide +kernel
theorem dX8_about_91 : decode cX8_about 91 = .ok (.getfield 42, 3) := by decide +kernel
theorem dX8_about_94 : decode cX8_about 94 = .ok (.iconst 2, 1) := by decide +kernel
theorem dX8_about_95 : decode cX8_about 95 = .ok (.iload_n 1, 1) := by decide +kernel
theorem dX8_about_96 : decode cX8_about 96 = .ok (.imul, 1) := by decide +kernel
theorem dX8_about_97 : decode cX8_about 97 = .ok (.iload_n 2, 1) := by decide +kernel
theorem dX8_about_98 : decode cX8_about 98 = .ok (.iadd, 1) := by decide +kernel
theorem dX8_about_99 : decode cX8_about 99 = .ok (.iconst 2, 1) := by decide +kernel
theorem dX8_about_100 : decode cX8_about 100 = .ok (.isub, 1) := by decide +kernel
theorem dX8_about_101 : decode cX8_about 101 = .ok (.iaload, 1) := by decide +kernel
theorem dX8_about_102 : decode cX8_about 102 = .ok (.ireturn, 1) := by decide +kernel
theorem dX8_about_103 : decode cX8_about 103 = .ok (.aload_n 0, 1) := by decide +kernel
theorem dX8_about_104 : decode cX8_about 104 = .ok (.getfield 51, 3) := by decide +kernel
theorem dX8_about_107 : decode cX8_about 107 = .ok (.iload_n 1, 1) := by decide +kernel
theorem dX8_about_108 : decode cX8_about 108 = .ok (.iaload, 1) := by decide +kernel
theorem dX8_about_109 : decode cX8_about 109 = .ok (.ireturn, 1) := by decide +kernel
theorem dX8_about_110 : decode cX8_about 110 = .ok (.aload_n 0, 1) := by decide +kernel
theorem dX8_about_111 : decode cX8_about 111 = .ok (.getfield 54, 3) := by decide +kernel
theorem dX8_about_114 : decode cX8_about 114 = .ok (.iload_n 1, 1) := by decide +kernel
theorem dX8_about_115 : decode cX8_about 115 = .ok (.iaload, 1) := by decide +kernel
theorem dX8_about_116 : decode cX8_about 116 = .ok (.ireturn, 1) := by decide +kernel
theorem dX8_about_117 : decode cX8_about 117 = .ok (.aload_n 0, 1) := by decide +kernel
theorem dX8_about_118 : decode cX8_about 118 = .ok (.iload_n 1, 1) := by decide +kernel
theorem dX8_about_119 : decode cX8_about 119 = .ok (.invokevirtual 163, 3) := by decide +kernel
theorem dX8_about_122 : decode cX8_about 122 = .ok (.ifCond .eq 7, 3) := by decide +kernel
theorem dX8_about_125 : decode cX8_about 125 = .ok (.iconst 1, 1) := by decide +kernel
theorem dX8_about_126 : decode cX8_about 126 = .ok (.goto 4, 3) := by decide +kernel
theorem dX8_about_129 : decode cX8_about 129 = .ok (.iconst 0, 1) := by decide +kernel
theorem dX8_about_130 : decode cX8_about 130 = .ok (.ireturn, 1) := by decide +kernel
set_option maxRecDepth 20000 in
theorem ggX8_letter_X8_in : GoodIn wsX8_letter wsX8_in := goodIn_r _ [7] (by decide +kernel) (by decide +kernel)
set_option maxRecDepth 20000 in
theorem gX8_letter_X8_in : GoodIn wsX8_letter (va_wsS RX8 73 yX8_in wsX8_in) := goodIn_app (goodIn_of _ (by decide +kernel)) ggX8_letter_X8_in
set_option maxRecDepth 20000 in
theorem ggX8_letter_X8_search : GoodIn wsX8_letter wsX8_search := goodIn_r _ [11, 1, 12, 13, 14, 2, 15, 16, 17, 18, 6, 19, 3, 20, 21, 22, 23, 24, 25, 26, 27, 28, 29, 30, 31, 32, 33, 34, 35, 36, 37, 38, 39, 40, 41, 42, 43, 44, 45, 46, 47, 48, 49, 50, 51, 52, 53, 54, 55, 56, 57, 58, 59, 60, 61, 62, 63, 64, 65, 66, 67, 68, 69, 70, 71, 72, 73, 74, 75, 76, 77, 78, 79, 80, 81, 82, 83, 84, 85, 86] (by decide +kernel) (by decide +kernel)
set_option maxRecDepth 20000 in
theorem gX8_letter_X8_search : GoodIn wsX8_letter (wsV RX8 160 RX8 yX8_search wsX8_search) := goodIn_app (goodIn_of _ (by decide +kernel)) ggX8_letter_X8_search
set_option maxRecDepth 20000 in
theorem ggX8_letter_X8_spot : GoodIn wsX8_letter wsX8_spot := goodIn_r _ [22] (by decide +kernel) (by decide +kernel)
set_option maxRecDepth 20000 in
theorem gX8_letter_X8_spot : GoodIn wsX8_letter (va_wsS RX8 122 yX8_spot wsX8_spot) := goodIn_app (goodIn_of _ (by decide +kernel)) ggX8_letter_X8_spot
theorem dX8_letter_0 : decode cX8_letter 0 = .ok (.iload_n 1, 1) := by decide +kernel
theorem dX8_letter_1 : decode cX8_letter 1 = .ok (.ifCond .lt 16, 3) := by decide +kernel
theorem dX8_letter_4 : decode cX8_letter 4 = .ok (.iload_n 3, 1) := by decide +kernel
theorem dX8_letter_5 : decode cX8_letter 5 = .ok (.ifCond .lt 12, 3) := by decide +kernel
theorem dX8_letter_8 : decode cX8_letter 8 = .ok (.iload_n 2, 1) := by decide +kernel
theorem dX8_letter_9 : decode cX8_letter 9 = .ok (.iconst 0, 1) := by decide +kernel
theorem dX8_letter_10 : decode cX8_letter 10 = .ok (.iconst 1, 1) := by decide +kernel
theorem dX8_letter_11 : decode cX8_letter 11 = .ok (.invokestatic 73, 3) := by decide +kernel
theorem dX8_letter_14 : decode cX8_letter 14 = .ok (.ifCond .ne 5, 3) := by decide +kernel
theorem dX8_letter_17 : decode cX8_letter 17 = .ok (.iconst (-1), 1) := by decide +kernel
theorem dX8_letter_18 : decode cX8_letter 18 = .ok (.ireturn, 1) := by decide +kernel
theorem dX8_letter_19 : decode cX8_letter 19 = .ok (.aload_n 0, 1) := by decide +kernel
theorem dX8_letter_20 : decode cX8_letter 20 = .ok (.invokevirtual 160, 3) := by decide +kernel
theorem dX8_letter_23 : decode cX8_letter 23 = .ok (.ifCond .ne 6, 3) := by decide +kernel
theorem dX8_letter_26 : decode cX8_letter 26 = .ok (.bipush (-3), 2) := by decide +kernel
theorem dX8_letter_28 : decode cX8_letter 28 = .ok (.ireturn, 1) := by decide +kernel
theorem dX8_letter_29 : decode cX8_letter 29 = .ok (.iload_n 1, 1) := by decide +kernel
theorem dX8_letter_30 : decode cX8_letter 30 = .ok (.aload_n 0, 1) := by decide +kernel
theorem dX8_letter_31 : decode cX8_letter 31 = .ok (.getfield 143, 3) := by decide +kernel
theorem dX8_letter_34 : decode cX8_letter 34 = .ok (.if_icmp .ge 31, 3) := by decide +kernel
theorem dX8_letter_37 : decode cX8_letter 37 = .ok (.iload_n 3, 1) := by decide +kernel
theorem dX8_letter_38 : decode cX8_letter 38 = .ok (.aload_n 0, 1) := by decide +kernel
theorem dX8_letter_39 : decode cX8_letter 39 = .ok (.getfield 42, 3) := by decide +kernel
theorem dX8_letter_42 : decode cX8_letter 42 = .ok (.iconst 2, 1) := by decide +kernel
theorem dX8_letter_43 : decode cX8_letter 43 = .ok (.iload_n 1, 1) := by decide +kernel
theorem dX8_letter_44 : decode cX8_letter 44 = .ok (.imul, 1) := by decide +kernel
theorem dX8_letter_45 : decode cX8_letter 45 = .ok (.iload_n 2, 1) := by decide +kernel
theorem dX8_letter_46 : decode cX8_letter 46 = .ok (.iadd, 1) := by decide +kernel
theorem dX8_letter_47 : decode cX8_letter 47 = .ok (.iaload, 1) := by decide +kernel
theorem dX8_letter_48 : decode cX8_letter 48 = .ok (.if_icmp .ge 17, 3) := by decide +kernel
theorem dX8_letter_51 : decode cX8_letter 51 = .ok (.aload_n 0, 1) := by decide +kernel
theorem dX8_letter_52 : decode cX8_letter 52 = .ok (.getfield 45, 3) := by decide +kernel
theorem dX8_letter_55 : decode cX8_letter 55 = .ok (.iload_n 1, 1) := by decide +kernel
theorem dX8_letter_56 : decode cX8_letter 56 = .ok (.iload_n 2, 1) := by decide +kernel
theorem dX8_letter_57 : decode cX8_letter 57 = .ok (.iload_n 3, 1) := by decide +kernel
theorem dX8_letter_58 : decode cX8_letter 58 = .ok (.invokestatic 122, 3) := by decide +kernel
theorem dX8_letter_61 : decode cX8_letter 61 = .ok (.iaload, 1) := by decide +kernel
theorem dX8_letter_62 : decode cX8_letter 62 = .ok (.goto 4, 3) := by decide +kernel
theorem dX8_letter_65 : decode cX8_letter 65 = .ok (.iconst (-1), 1) := by decide +kernel
theorem dX8_letter_66 : decode cX8_letter 66 = .ok (.ireturn, 1) := by decide +kernel
set_option maxRecDepth 20000 in
theorem ggX8_least_X8_search : GoodIn wsX8_least wsX8_search := goodIn_r _ [6, 1, 7, 8, 9, 10, 11, 12, 13, 14, 5, 15, 16, 17, 18, 19, 20, 21, 22, 23, 24, 25, 26, 27, 28, 29, 30, 31, 32, 33, 34, 35, 36, 37, 38, 39, 40, 41, 42, 43, 44, 45, 46, 47, 48, 49, 50, 51, 52, 53, 54, 55, 56, 57, 58, 63, 64, 65, 66, 67, 68, 69, 70, 71, 72, 73, 74, 75, 76, 77, 78, 79, 80, 81, 82, 83, 84, 85, 86, 87] (by decide +kernel) (by decide +kernel)
set_option maxRecDepth 20000 in
theorem gX8_least_X8_search : GoodIn wsX8_least (wsV RX8 160 RX8 yX8_search wsX8_search) := goodIn_app (goodIn_of _ (by decide +kernel)) ggX8_least_X8_search
set_option maxRecDepth 20000 in
theorem ggX8_least_X8_isLeast : GoodIn wsX8_least wsX8_isLeast := goodIn_r _ [62, 1, 55, 56, 57, 5, 58, 9, 10, 16, 17, 18, 19, 63, 64, 65, 66, 67, 68, 69, 70, 71, 72, 73, 74, 75, 76, 77, 78, 79, 80, 81, 82, 83, 84, 85, 86, 87] (by decide +kernel) (by decide +kernel)
set_option maxRecDepth 20000 in
theorem gX8_least_X8_isLeast : GoodIn wsX8_least (wsV RX8 163 RX8 yX8_isLeast wsX8_isLeast) := goodIn_app (goodIn_of _ (by decide +kernel)) ggX8_least_X8_isLeast
theorem dX8_least_0 : decode cX8_least 0 = .ok (.aload_n 0, 1) := by decide +kernel
theorem dX8_least_1 : decode cX8_least 1 = .ok (.invokevirtual 160, 3) := by decide +kernel
theorem dX8_least_4 : decode cX8_least 4 = .ok (.ifCond .ne 6, 3) := by decide +kernel
theorem dX8_least_7 : decode cX8_least 7 = .ok (.bipush (-3), 2) := by decide +kernel
theorem dX8_least_9 : decode cX8_least 9 = .ok (.ireturn, 1) := by decide +kernel
theorem dX8_least_10 : decode cX8_least 10 = .ok (.iconst 0, 1) := by decide +kernel
theorem dX8_least_11 : decode cX8_least 11 = .ok (.istore_n 1, 1) := by decide +kernel
theorem dX8_least_12 : decode cX8_least 12 = .ok (.iconst 0, 1) := by decide +kernel
theorem dX8_least_13 : decode cX8_least 13 = .ok (.istore_n 2, 1) := by decide +kernel
theorem dX8_least_14 : decode cX8_least 14 = .ok (.iload_n 2, 1) := by decide +kernel
theorem dX8_least_15 : decode cX8_least 15 = .ok (.aload_n 0, 1) := by decide +kernel
theorem dX8_least_16 : decode cX8_least 16 = .ok (.getfield 143, 3) := by decide +kernel
theorem dX8_least_19 : decode cX8_least 19 = .ok (.if_icmp .ge 25, 3) := by decide +kernel
theorem dX8_least_22 : decode cX8_least 22 = .ok (.iload_n 1, 1) := by decide +kernel
theorem dX8_least_23 : decode cX8_least 23 = .ok (.aload_n 0, 1) := by decide +kernel
theorem dX8_least_24 : decode cX8_least 24 = .ok (.iload_n 2, 1) := by decide +kernel
theorem dX8_least_25 : decode cX8_least 25 = .ok (.invokevirtual 163, 3) := by decide +kernel
theorem dX8_least_28 : decode cX8_least 28 = .ok (.ifCond .eq 7, 3) := by decide +kernel
theorem dX8_least_31 : decode cX8_least 31 = .ok (.iconst 1, 1) := by decide +kernel
theorem dX8_least_32 : decode cX8_least 32 = .ok (.goto 4, 3) := by decide +kernel
theorem dX8_least_35 : decode cX8_least 35 = .ok (.iconst 0, 1) := by decide +kernel
theorem dX8_least_36 : decode cX8_least 36 = .ok (.iadd, 1) := by decide +kernel
theorem dX8_least_37 : decode cX8_least 37 = .ok (.istore_n 1, 1) := by decide +kernel
theorem dX8_least_38 : decode cX8_least 38 = .ok (.iinc 2 1, 3) := by decide +kernel
theorem dX8_least_41 : decode cX8_least 41 = .ok (.goto (-27), 3) := by decide +kernel
theorem dX8_least_44 : decode cX8_least 44 = .ok (.iload_n 1, 1) := by decide +kernel
theorem dX8_least_45 : decode cX8_least 45 = .ok (.ireturn, 1) := by decide +kernel
set_option maxRecDepth 20000 in
theorem ggX8_nearest_X8_isBelow : GoodIn wsX8_nearest wsX8_isBelow := goodIn_r _ [6, 7, 8, 9, 10, 11, 5, 12, 13, 14, 15, 16, 17, 18, 19, 20, 21, 22, 23, 24, 25, 26, 27, 28, 29, 30, 31, 32, 33, 34, 35, 36, 37] (by decide +kernel) (by decide +kernel)
set_option maxRecDepth 20000 in
theorem gX8_nearest_X8_isBelow : GoodIn wsX8_nearest (wsV RX8 146 RX8 yX8_isBelow wsX8_isBelow) := goodIn_app (goodIn_of _ (by decide +kernel)) ggX8_nearest_X8_isBelow
theorem dX8_nearest_0 : decode cX8_nearest 0 = .ok (.iconst 0, 1) := by decide +kernel
theorem dX8_nearest_1 : decode cX8_nearest 1 = .ok (.istore_n 1, 1) := by decide +kernel
theorem dX8_nearest_2 : decode cX8_nearest 2 = .ok (.iload_n 1, 1) := by decide +kernel
theorem dX8_nearest_3 : decode cX8_nearest 3 = .ok (.aload_n 0, 1) := by decide +kernel
theorem dX8_nearest_4 : decode cX8_nearest 4 = .ok (.getfield 143, 3) := by decide +kernel
theorem dX8_nearest_7 : decode cX8_nearest 7 = .ok (.if_icmp .ge 21, 3) := by decide +kernel
theorem dX8_nearest_10 : decode cX8_nearest 10 = .ok (.aload_n 0, 1) := by decide +kernel
theorem dX8_nearest_11 : decode cX8_nearest 11 = .ok (.iload_n 1, 1) := by decide +kernel
theorem dX8_nearest_12 : decode cX8_nearest 12 = .ok (.bipush 82, 2) := by decide +kernel
theorem dX8_nearest_14 : decode cX8_nearest 14 = .ok (.invokevirtual 146, 3) := by decide +kernel
theorem dX8_nearest_17 : decode cX8_nearest 17 = .ok (.ifCond .eq 5, 3) := by decide +kernel
theorem dX8_nearest_20 : decode cX8_nearest 20 = .ok (.iload_n 1, 1) := by decide +kernel
theorem dX8_nearest_21 : decode cX8_nearest 21 = .ok (.ireturn, 1) := by decide +kernel
theorem dX8_nearest_22 : decode cX8_nearest 22 = .ok (.iinc 1 1, 3) := by decide +kernel
theorem dX8_nearest_25 : decode cX8_nearest 25 = .ok (.goto (-23), 3) := by decide +kernel
theorem dX8_nearest_28 : decode cX8_nearest 28 = .ok (.iconst (-1), 1) := by decide +kernel
theorem dX8_nearest_29 : decode cX8_nearest 29 = .ok (.ireturn, 1) := by decide +kernel
set_option maxRecDepth 20000 in
theorem ggX8_far_X8_search : GoodIn wsX8_far wsX8_search := goodIn_r _ [6, 7, 8, 9, 10, 11, 1, 12, 13, 14, 5, 15, 16, 17, 18, 19, 20, 21, 22, 23, 24, 25, 26, 27, 28, 29, 30, 31, 32, 33, 34, 35, 36, 37, 38, 39, 40, 41, 42, 43, 44, 45, 46, 47, 48, 49, 50, 51, 52, 53, 54, 55, 56, 57, 58, 63, 64, 65, 66, 67, 68, 69, 70, 71, 72, 73, 74, 75, 76, 77, 78, 79, 80, 81, 82, 83, 84, 85, 86, 87] (by decide +kernel) (by decide +kernel)
set_option maxRecDepth 20000 in
theorem gX8_far_X8_search : GoodIn wsX8_far (wsV RX8 160 RX8 yX8_search wsX8_search) := goodIn_app (goodIn_of _ (by decide +kernel)) ggX8_far_X8_search
set_option maxRecDepth 20000 in
theorem ggX8_far_X8_nearest : GoodIn wsX8_far wsX8_nearest := goodIn_r _ [62, 7, 55, 56, 57, 5, 58, 10, 11, 16, 17, 18, 19, 63, 64, 65, 66, 67, 68, 69, 70, 71, 72, 73, 74, 75, 76, 77, 78, 79, 80, 81, 82, 83, 84, 85, 86, 87] (by decide +kernel) (by decide +kernel)
set_option maxRecDepth 20000 in
theorem gX8_far_X8_nearest : GoodIn wsX8_far (wsV RX8 166 RX8 yX8_nearest wsX8_nearest) := goodIn_app (goodIn_of _ (by decide +kernel)) ggX8_far_X8_nearest
theorem dX8_far_0 : decode cX8_far 0 = .ok (.aload_n 0, 1) := by decide +kernel
theorem dX8_far_1 : decode cX8_far 1 = .ok (.invokevirtual 160, 3) := by decide +kernel
theorem dX8_far_4 : decode cX8_far 4 = .ok (.ifCond .ne 6, 3) := by decide +kernel
theorem dX8_far_7 : decode cX8_far 7 = .ok (.bipush (-3), 2) := by decide +kernel
theorem dX8_far_9 : decode cX8_far 9 = .ok (.ireturn, 1) := by decide +kernel
theorem dX8_far_10 : decode cX8_far 10 = .ok (.aload_n 0, 1) := by decide +kernel
theorem dX8_far_11 : decode cX8_far 11 = .ok (.invokevirtual 166, 3) := by decide +kernel
theorem dX8_far_14 : decode cX8_far 14 = .ok (.istore_n 1, 1) := by decide +kernel
theorem dX8_far_15 : decode cX8_far 15 = .ok (.iload_n 1, 1) := by decide +kernel
theorem dX8_far_16 : decode cX8_far 16 = .ok (.ifCond .ge 8, 3) := by decide +kernel
theorem dX8_far_19 : decode cX8_far 19 = .ok (.bipush (-4), 2) := by decide +kernel
theorem dX8_far_21 : decode cX8_far 21 = .ok (.goto 9, 3) := by decide +kernel
theorem dX8_far_24 : decode cX8_far 24 = .ok (.aload_n 0, 1) := by decide +kernel
theorem dX8_far_25 : decode cX8_far 25 = .ok (.getfield 48, 3) := by decide +kernel
theorem dX8_far_28 : decode cX8_far 28 = .ok (.iload_n 1, 1) := by decide +kernel
theorem dX8_far_29 : decode cX8_far 29 = .ok (.iaload, 1) := by decide +kernel
theorem dX8_far_30 : decode cX8_far 30 = .ok (.ireturn, 1) := by decide +kernel
set_option maxRecDepth 20000 in
theorem ggX8_way_X8_search : GoodIn wsX8_way wsX8_search := goodIn_r _ [8, 9, 10, 11, 12, 13, 1, 14, 15, 16, 7, 17, 18, 19, 20, 21, 22, 23, 24, 25, 3, 2, 26, 27, 28, 29, 30, 31, 32, 33, 34, 35, 36, 37, 38, 39, 40, 41, 42, 43, 44, 45, 46, 47, 48, 49, 50, 51, 52, 53, 54, 55, 56, 57, 58, 63, 64, 65, 66, 67, 68, 69, 70, 71, 72, 73, 74, 75, 76, 77, 78, 79, 80, 81, 82, 83, 84, 85, 86, 87] (by decide +kernel) (by decide +kernel)
set_option maxRecDepth 20000 in
theorem gX8_way_X8_search : GoodIn wsX8_way (wsV RX8 160 RX8 yX8_search wsX8_search) := goodIn_app (goodIn_of _ (by decide +kernel)) ggX8_way_X8_search
set_option maxRecDepth 20000 in
theorem ggX8_way_X8_nearest : GoodIn wsX8_way wsX8_nearest := goodIn_r _ [62, 9, 55, 56, 57, 7, 58, 12, 13, 18, 19, 20, 21, 63, 64, 65, 66, 67, 68, 69, 70, 71, 72, 73, 74, 75, 76, 77, 78, 79, 80, 81, 82, 83, 84, 85, 86, 87] (by decide +kernel) (by decide +kernel)
set_option maxRecDepth 20000 in
theorem gX8_way_X8_nearest : GoodIn wsX8_way (wsV RX8 166 RX8 yX8_nearest wsX8_nearest) := goodIn_app (goodIn_of _ (by decide +kernel)) ggX8_way_X8_nearest
theorem dX8_way_0 : decode cX8_way 0 = .ok (.iload_n 1, 1) := by decide +kernel
theorem dX8_way_1 : decode cX8_way 1 = .ok (.ifCond .ge 5, 3) := by decide +kernel
theorem dX8_way_4 : decode cX8_way 4 = .ok (.iconst (-1), 1) := by decide +kernel
theorem dX8_way_5 : decode cX8_way 5 = .ok (.ireturn, 1) := by decide +kernel
theorem dX8_way_6 : decode cX8_way 6 = .ok (.aload_n 0, 1) := by decide +kernel
theorem dX8_way_7 : decode cX8_way 7 = .ok (.invokevirtual 160, 3) := by decide +kernel
theorem dX8_way_10 : decode cX8_way 10 = .ok (.ifCond .ne 6, 3) := by decide +kernel
theorem dX8_way_13 : decode cX8_way 13 = .ok (.bipush (-3), 2) := by decide +kernel
theorem dX8_way_15 : decode cX8_way 15 = .ok (.ireturn, 1) := by decide +kernel
theorem dX8_way_16 : decode cX8_way 16 = .ok (.aload_n 0, 1) := by decide +kernel
theorem dX8_way_17 : decode cX8_way 17 = .ok (.invokevirtual 166, 3) := by decide +kernel
theorem dX8_way_20 : decode cX8_way 20 = .ok (.istore_n 2, 1) := by decide +kernel
theorem dX8_way_21 : decode cX8_way 21 = .ok (.iload_n 2, 1) := by decide +kernel
theorem dX8_way_22 : decode cX8_way 22 = .ok (.ifCond .ge 6, 3) := by decide +kernel
theorem dX8_way_25 : decode cX8_way 25 = .ok (.bipush (-4), 2) := by decide +kernel
theorem dX8_way_27 : decode cX8_way 27 = .ok (.ireturn, 1) := by decide +kernel
theorem dX8_way_28 : decode cX8_way 28 = .ok (.iload_n 1, 1) := by decide +kernel
theorem dX8_way_29 : decode cX8_way 29 = .ok (.aload_n 0, 1) := by decide +kernel
theorem dX8_way_30 : decode cX8_way 30 = .ok (.getfield 48, 3) := by decide +kernel
theorem dX8_way_33 : decode cX8_way 33 = .ok (.iload_n 2, 1) := by decide +kernel
theorem dX8_way_34 : decode cX8_way 34 = .ok (.iaload, 1) := by decide +kernel
theorem dX8_way_35 : decode cX8_way 35 = .ok (.if_icmp .lt 5, 3) := by decide +kernel
theorem dX8_way_38 : decode cX8_way 38 = .ok (.iconst (-1), 1) := by decide +kernel
theorem dX8_way_39 : decode cX8_way 39 = .ok (.ireturn, 1) := by decide +kernel
theorem dX8_way_40 : decode cX8_way 40 = .ok (.iconst 0, 1) := by decide +kernel
theorem dX8_way_41 : decode cX8_way 41 = .ok (.istore_n 3, 1) := by decide +kernel
theorem dX8_way_42 : decode cX8_way 42 = .ok (.iload_n 3, 1) := by decide +kernel
theorem dX8_way_43 : decode cX8_way 43 = .ok (.iload_n 1, 1) := by decide +kernel
theorem dX8_way_44 : decode cX8_way 44 = .ok (.if_icmp .ge 16, 3) := by decide +kernel
theorem dX8_way_47 : decode cX8_way 47 = .ok (.aload_n 0, 1) := by decide +kernel
theorem dX8_way_48 : decode cX8_way 48 = .ok (.getfield 54, 3) := by decide +kernel
theorem dX8_way_51 : decode cX8_way 51 = .ok (.iload_n 2, 1) := by decide +kernel
theorem dX8_way_52 : decode cX8_way 52 = .ok (.iaload, 1) := by decide +kernel
theorem dX8_way_53 : decode cX8_way 53 = .ok (.istore_n 2, 1) := by decide +kernel
theorem dX8_way_54 : decode cX8_way 54 = .ok (.iinc 3 1, 3) := by decide +kernel
theorem dX8_way_57 : decode cX8_way 57 = .ok (.goto (-15), 3) := by decide +kernel
theorem dX8_way_60 : decode cX8_way 60 = .ok (.aload_n 0, 1) := by decide +kernel
theorem dX8_way_61 : decode cX8_way 61 = .ok (.getfield 51, 3) := by decide +kernel
theorem dX8_way_64 : decode cX8_way 64 = .ok (.iload_n 2, 1) := by decide +kernel
theorem dX8_way_65 : decode cX8_way 65 = .ok (.iaload, 1) := by decide +kernel
theorem dX8_way_66 : decode cX8_way 66 = .ok (.ireturn, 1) := by decide +kernel
set_option maxRecDepth 20000 in
theorem ggX8_codeOf_X8_spot : GoodIn wsX8_codeOf wsX8_spot := goodIn_r _ [6] (by decide +kernel) (by decide +kernel)
set_option maxRecDepth 20000 in
theorem gX8_codeOf_X8_spot : GoodIn wsX8_codeOf (va_wsS RX8 122 yX8_spot wsX8_spot) := goodIn_app (goodIn_of _ (by decide +kernel)) ggX8_codeOf_X8_spot
theorem dX8_codeOf_0 : decode cX8_codeOf 0 = .ok (.iconst 0, 1) := by decide +kernel
theorem dX8_codeOf_1 : decode cX8_codeOf 1 = .ok (.istore_n 3, 1) := by decide +kernel
theorem dX8_codeOf_2 : decode cX8_codeOf 2 = .ok (.aload_n 0, 1) := by decide +kernel
theorem dX8_codeOf_3 : decode cX8_codeOf 3 = .ok (.getfield 42, 3) := by decide +kernel
theorem dX8_codeOf_6 : decode cX8_codeOf 6 = .ok (.iconst 2, 1) := by decide +kernel
theorem dX8_codeOf_7 : decode cX8_codeOf 7 = .ok (.iload_n 1, 1) := by decide +kernel
theorem dX8_codeOf_8 : decode cX8_codeOf 8 = .ok (.imul, 1) := by decide +kernel
theorem dX8_codeOf_9 : decode cX8_codeOf 9 = .ok (.iload_n 2, 1) := by decide +kernel
theorem dX8_codeOf_10 : decode cX8_codeOf 10 = .ok (.iadd, 1) := by decide +kernel
theorem dX8_codeOf_11 : decode cX8_codeOf 11 = .ok (.iaload, 1) := by decide +kernel
theorem dX8_codeOf_12 : decode cX8_codeOf 12 = .ok (.iconst 1, 1) := by decide +kernel
theorem dX8_codeOf_13 : decode cX8_codeOf 13 = .ok (.isub, 1) := by decide +kernel
theorem dX8_codeOf_14 : decode cX8_codeOf 14 = .ok (.istore 4, 2) := by decide +kernel
theorem dX8_codeOf_16 : decode cX8_codeOf 16 = .ok (.iload 4, 2) := by decide +kernel
theorem dX8_codeOf_18 : decode cX8_codeOf 18 = .ok (.ifCond .lt 28, 3) := by decide +kernel
theorem dX8_codeOf_21 : decode cX8_codeOf 21 = .ok (.iconst 4, 1) := by decide +kernel
theorem dX8_codeOf_22 : decode cX8_codeOf 22 = .ok (.iload_n 3, 1) := by decide +kernel
theorem dX8_codeOf_23 : decode cX8_codeOf 23 = .ok (.imul, 1) := by decide +kernel
theorem dX8_codeOf_24 : decode cX8_codeOf 24 = .ok (.aload_n 0, 1) := by decide +kernel
theorem dX8_codeOf_25 : decode cX8_codeOf 25 = .ok (.getfield 45, 3) := by decide +kernel
theorem dX8_codeOf_28 : decode cX8_codeOf 28 = .ok (.iload_n 1, 1) := by decide +kernel
theorem dX8_codeOf_29 : decode cX8_codeOf 29 = .ok (.iload_n 2, 1) := by decide +kernel
theorem dX8_codeOf_30 : decode cX8_codeOf 30 = .ok (.iload 4, 2) := by decide +kernel
theorem dX8_codeOf_32 : decode cX8_codeOf 32 = .ok (.invokestatic 122, 3) := by decide +kernel
theorem dX8_codeOf_35 : decode cX8_codeOf 35 = .ok (.iaload, 1) := by decide +kernel
theorem dX8_codeOf_36 : decode cX8_codeOf 36 = .ok (.iadd, 1) := by decide +kernel
theorem dX8_codeOf_37 : decode cX8_codeOf 37 = .ok (.iconst 1, 1) := by decide +kernel
theorem dX8_codeOf_38 : decode cX8_codeOf 38 = .ok (.iadd, 1) := by decide +kernel
theorem dX8_codeOf_39 : decode cX8_codeOf 39 = .ok (.istore_n 3, 1) := by decide +kernel
theorem dX8_codeOf_40 : decode cX8_codeOf 40 = .ok (.iinc 4 (-1), 3) := by decide +kernel
theorem dX8_codeOf_43 : decode cX8_codeOf 43 = .ok (.goto (-27), 3) := by decide +kernel
theorem dX8_codeOf_46 : decode cX8_codeOf 46 = .ok (.iload_n 3, 1) := by decide +kernel
theorem dX8_codeOf_47 : decode cX8_codeOf 47 = .ok (.ireturn, 1) := by decide +kernel
set_option maxRecDepth 20000 in
theorem ggX8_decode_X8_spot : GoodIn wsX8_decode wsX8_spot := goodIn_r _ [6] (by decide +kernel) (by decide +kernel)
set_option maxRecDepth 20000 in
theorem gX8_decode_X8_spot : GoodIn wsX8_decode (va_wsS RX8 122 yX8_spot wsX8_spot) := goodIn_app (goodIn_of _ (by decide +kernel)) ggX8_decode_X8_spot
theorem dX8_decode_0 : decode cX8_decode 0 = .ok (.iload_n 1, 1) := by decide +kernel
theorem dX8_decode_1 : decode cX8_decode 1 = .ok (.istore 4, 2) := by decide +kernel
theorem dX8_decode_3 : decode cX8_decode 3 = .ok (.aload_n 0, 1) := by decide +kernel
theorem dX8_decode_4 : decode cX8_decode 4 = .ok (.getfield 42, 3) := by decide +kernel
theorem dX8_decode_7 : decode cX8_decode 7 = .ok (.iconst 2, 1) := by decide +kernel
theorem dX8_decode_8 : decode cX8_decode 8 = .ok (.iload_n 2, 1) := by decide +kernel
theorem dX8_decode_9 : decode cX8_decode 9 = .ok (.imul, 1) := by decide +kernel
theorem dX8_decode_10 : decode cX8_decode 10 = .ok (.iload_n 3, 1) := by decide +kernel
theorem dX8_decode_11 : decode cX8_decode 11 = .ok (.iadd, 1) := by decide +kernel
theorem dX8_decode_12 : decode cX8_decode 12 = .ok (.iconst 0, 1) := by decide +kernel
theorem dX8_decode_13 : decode cX8_decode 13 = .ok (.iastore, 1) := by decide +kernel
theorem dX8_decode_14 : decode cX8_decode 14 = .ok (.iload 4, 2) := by decide +kernel
theorem dX8_decode_16 : decode cX8_decode 16 = .ok (.ifCond .le 52, 3) := by decide +kernel
theorem dX8_decode_19 : decode cX8_decode 19 = .ok (.aload_n 0, 1) := by decide +kernel
theorem dX8_decode_20 : decode cX8_decode 20 = .ok (.getfield 45, 3) := by decide +kernel
theorem dX8_decode_23 : decode cX8_decode 23 = .ok (.iload_n 2, 1) := by decide +kernel
theorem dX8_decode_24 : decode cX8_decode 24 = .ok (.iload_n 3, 1) := by decide +kernel
theorem dX8_decode_25 : decode cX8_decode 25 = .ok (.aload_n 0, 1) := by decide +kernel
theorem dX8_decode_26 : decode cX8_decode 26 = .ok (.getfield 42, 3) := by decide +kernel
theorem dX8_decode_29 : decode cX8_decode 29 = .ok (.iconst 2, 1) := by decide +kernel
theorem dX8_decode_30 : decode cX8_decode 30 = .ok (.iload_n 2, 1) := by decide +kernel
theorem dX8_decode_31 : decode cX8_decode 31 = .ok (.imul, 1) := by decide +kernel
theorem dX8_decode_32 : decode cX8_decode 32 = .ok (.iload_n 3, 1) := by decide +kernel
theorem dX8_decode_33 : decode cX8_decode 33 = .ok (.iadd, 1) := by decide +kernel
theorem dX8_decode_34 : decode cX8_decode 34 = .ok (.iaload, 1) := by decide +kernel
theorem dX8_decode_35 : decode cX8_decode 35 = .ok (.invokestatic 122, 3) := by decide +kernel
theorem dX8_decode_38 : decode cX8_decode 38 = .ok (.iload 4, 2) := by decide +kernel
theorem dX8_decode_40 : decode cX8_decode 40 = .ok (.iconst 4, 1) := by decide +kernel
theorem dX8_decode_41 : decode cX8_decode 41 = .ok (.irem, 1) := by decide +kernel
theorem dX8_decode_42 : decode cX8_decode 42 = .ok (.iconst 1, 1) := by decide +kernel
theorem dX8_decode_43 : decode cX8_decode 43 = .ok (.isub, 1) := by decide +kernel
theorem dX8_decode_44 : decode cX8_decode 44 = .ok (.iastore, 1) := by decide +kernel
theorem dX8_decode_45 : decode cX8_decode 45 = .ok (.aload_n 0, 1) := by decide +kernel
theorem dX8_decode_46 : decode cX8_decode 46 = .ok (.getfield 42, 3) := by decide +kernel
theorem dX8_decode_49 : decode cX8_decode 49 = .ok (.iconst 2, 1) := by decide +kernel
theorem dX8_decode_50 : decode cX8_decode 50 = .ok (.iload_n 2, 1) := by decide +kernel
theorem dX8_decode_51 : decode cX8_decode 51 = .ok (.imul, 1) := by decide +kernel
theorem dX8_decode_52 : decode cX8_decode 52 = .ok (.iload_n 3, 1) := by decide +kernel
theorem dX8_decode_53 : decode cX8_decode 53 = .ok (.iadd, 1) := by decide +kernel
theorem dX8_decode_54 : decode cX8_decode 54 = .ok (.dup2, 1) := by decide +kernel
theorem dX8_decode_55 : decode cX8_decode 55 = .ok (.iaload, 1) := by decide +kernel
theorem dX8_decode_56 : decode cX8_decode 56 = .ok (.iconst 1, 1) := by decide +kernel
theorem dX8_decode_57 : decode cX8_decode 57 = .ok (.iadd, 1) := by decide +kernel
theorem dX8_decode_58 : decode cX8_decode 58 = .ok (.iastore, 1) := by decide +kernel
theorem dX8_decode_59 : decode cX8_decode 59 = .ok (.iload 4, 2) := by decide +kernel
theorem dX8_decode_61 : decode cX8_decode 61 = .ok (.iconst 4, 1) := by decide +kernel
theorem dX8_decode_62 : decode cX8_decode 62 = .ok (.idiv, 1) := by decide +kernel
theorem dX8_decode_63 : decode cX8_decode 63 = .ok (.istore 4, 2) := by decide +kernel
theorem dX8_decode_65 : decode cX8_decode 65 = .ok (.goto (-51), 3) := by decide +kernel
theorem dX8_decode_68 : decode cX8_decode 68 = .ok (.return_, 1) := by decide +kernel
set_option maxRecDepth 20000 in
theorem ggX8_wholeCode_X8_codeOf : GoodIn wsX8_wholeCode wsX8_codeOf := goodIn_r _ [6, 7, 8, 9, 10, 5, 11, 12, 13, 14, 15, 16, 17, 18, 19, 20, 21, 22, 23, 24, 25, 26, 27, 28, 29, 30, 31, 32, 33, 34, 35, 36] (by decide +kernel) (by decide +kernel)
set_option maxRecDepth 20000 in
theorem gX8_wholeCode_X8_codeOf : GoodIn wsX8_wholeCode (wsV RX8 169 RX8 yX8_codeOf wsX8_codeOf) := goodIn_app (goodIn_of _ (by decide +kernel)) ggX8_wholeCode_X8_codeOf
theorem dX8_wholeCode_0 : decode cX8_wholeCode 0 = .ok (.sipush 4096, 3) := by decide +kernel
theorem dX8_wholeCode_3 : decode cX8_wholeCode 3 = .ok (.aload_n 0, 1) := by decide +kernel
theorem dX8_wholeCode_4 : decode cX8_wholeCode 4 = .ok (.getfield 39, 3) := by decide +kernel
theorem dX8_wholeCode_7 : decode cX8_wholeCode 7 = .ok (.iload_n 1, 1) := by decide +kernel
theorem dX8_wholeCode_8 : decode cX8_wholeCode 8 = .ok (.iaload, 1) := by decide +kernel
theorem dX8_wholeCode_9 : decode cX8_wholeCode 9 = .ok (.imul, 1) := by decide +kernel
theorem dX8_wholeCode_10 : decode cX8_wholeCode 10 = .ok (.bipush 64, 2) := by decide +kernel
theorem dX8_wholeCode_12 : decode cX8_wholeCode 12 = .ok (.aload_n 0, 1) := by decide +kernel
theorem dX8_wholeCode_13 : decode cX8_wholeCode 13 = .ok (.iload_n 1, 1) := by decide +kernel
theorem dX8_wholeCode_14 : decode cX8_wholeCode 14 = .ok (.iconst 0, 1) := by decide +kernel
theorem dX8_wholeCode_15 : decode cX8_wholeCode 15 = .ok (.invokevirtual 169, 3) := by decide +kernel
theorem dX8_wholeCode_18 : decode cX8_wholeCode 18 = .ok (.imul, 1) := by decide +kernel
theorem dX8_wholeCode_19 : decode cX8_wholeCode 19 = .ok (.iadd, 1) := by decide +kernel
theorem dX8_wholeCode_20 : decode cX8_wholeCode 20 = .ok (.aload_n 0, 1) := by decide +kernel
theorem dX8_wholeCode_21 : decode cX8_wholeCode 21 = .ok (.iload_n 1, 1) := by decide +kernel
theorem dX8_wholeCode_22 : decode cX8_wholeCode 22 = .ok (.iconst 1, 1) := by decide +kernel
theorem dX8_wholeCode_23 : decode cX8_wholeCode 23 = .ok (.invokevirtual 169, 3) := by decide +kernel
theorem dX8_wholeCode_26 : decode cX8_wholeCode 26 = .ok (.iadd, 1) := by decide +kernel
theorem dX8_wholeCode_27 : decode cX8_wholeCode 27 = .ok (.ireturn, 1) := by decide +kernel
set_option maxRecDepth 20000 in
theorem ggX8_goes_X8_firstOf : GoodIn wsX8_goes wsX8_firstOf := goodIn_r _ [13, 7, 14, 15, 16, 12, 17, 30, 31, 32, 33, 34, 35, 36, 37, 38, 39, 40, 41, 42, 43, 44, 45, 46, 47, 48, 49, 50, 51, 52, 53, 54] (by decide +kernel) (by decide +kernel)
set_option maxRecDepth 20000 in
theorem gX8_goes_X8_firstOf : GoodIn wsX8_goes (wsV RX8 126 RX8 yX8_firstOf wsX8_firstOf) := goodIn_app (goodIn_of _ (by decide +kernel)) ggX8_goes_X8_firstOf
set_option maxRecDepth 20000 in
theorem ggX8_goes_X8_takeOut : GoodIn wsX8_goes wsX8_takeOut := goodIn_r _ [21, 7, 14, 15, 16, 12, 17, 30, 31, 32, 33, 34, 35, 36, 37, 38, 39, 40, 41, 42, 43, 44, 45, 46, 47, 48, 49, 50, 51, 52, 53, 54] (by decide +kernel) (by decide +kernel)
set_option maxRecDepth 20000 in
theorem gX8_goes_X8_takeOut : GoodIn wsX8_goes (wsV RX8 129 RX8 yX8_takeOut wsX8_takeOut) := goodIn_app (goodIn_of _ (by decide +kernel)) ggX8_goes_X8_takeOut
set_option maxRecDepth 20000 in
theorem ggX8_goes_X8_inOrder : GoodIn wsX8_goes wsX8_inOrder := goodIn_r _ [25, 7, 14, 15, 16, 12, 17, 30, 31, 32, 33, 34, 35, 36, 37, 38, 39, 40, 41, 42, 43, 44, 45, 46, 47, 48, 49, 50, 51, 52, 53, 54] (by decide +kernel) (by decide +kernel)
set_option maxRecDepth 20000 in
theorem gX8_goes_X8_inOrder : GoodIn wsX8_goes (wsV RX8 133 RX8 yX8_inOrder wsX8_inOrder) := goodIn_app (goodIn_of _ (by decide +kernel)) ggX8_goes_X8_inOrder
set_option maxRecDepth 20000 in
theorem ggX8_goes_X8_putIn : GoodIn wsX8_goes wsX8_putIn := goodIn_r _ [29, 7, 14, 15, 16, 12, 17, 30, 31, 32, 33, 34, 35, 36, 37, 38, 39, 40, 41, 42, 43, 44, 45, 46, 47, 48, 49, 50, 51, 52, 53, 54] (by decide +kernel) (by decide +kernel)
set_option maxRecDepth 20000 in
theorem gX8_goes_X8_putIn : GoodIn wsX8_goes (wsV RX8 136 RX8 yX8_putIn wsX8_putIn) := goodIn_app (goodIn_of _ (by decide +kernel)) ggX8_goes_X8_putIn
theorem dX8_goes_0 : decode cX8_goes 0 = .ok (.aload_n 0, 1) := by decide +kernel
theorem dX8_goes_1 : decode cX8_goes 1 = .ok (.getfield 24, 3) := by decide +kernel
theorem dX8_goes_4 : decode cX8_goes 4 = .ok (.iload_n 1, 1) := by decide +kernel
theorem dX8_goes_5 : decode cX8_goes 5 = .ok (.iaload, 1) := by decide +kernel
theorem dX8_goes_6 : decode cX8_goes 6 = .ok (.istore_n 3, 1) := by decide +kernel
theorem dX8_goes_7 : decode cX8_goes 7 = .ok (.aload_n 0, 1) := by decide +kernel
theorem dX8_goes_8 : decode cX8_goes 8 = .ok (.getfield 27, 3) := by decide +kernel
theorem dX8_goes_11 : decode cX8_goes 11 = .ok (.iload_n 1, 1) := by decide +kernel
theorem dX8_goes_12 : decode cX8_goes 12 = .ok (.iaload, 1) := by decide +kernel
theorem dX8_goes_13 : decode cX8_goes 13 = .ok (.istore 4, 2) := by decide +kernel
theorem dX8_goes_15 : decode cX8_goes 15 = .ok (.aload_n 0, 1) := by decide +kernel
theorem dX8_goes_16 : decode cX8_goes 16 = .ok (.getfield 17, 3) := by decide +kernel
theorem dX8_goes_19 : decode cX8_goes 19 = .ok (.iload_n 1, 1) := by decide +kernel
theorem dX8_goes_20 : decode cX8_goes 20 = .ok (.iaload, 1) := by decide +kernel
theorem dX8_goes_21 : decode cX8_goes 21 = .ok (.aload_n 0, 1) := by decide +kernel
theorem dX8_goes_22 : decode cX8_goes 22 = .ok (.getfield 39, 3) := by decide +kernel
theorem dX8_goes_25 : decode cX8_goes 25 = .ok (.bipush 80, 2) := by decide +kernel
theorem dX8_goes_27 : decode cX8_goes 27 = .ok (.iaload, 1) := by decide +kernel
theorem dX8_goes_28 : decode cX8_goes 28 = .ok (.if_icmp .eq 5, 3) := by decide +kernel
theorem dX8_goes_31 : decode cX8_goes 31 = .ok (.iconst 0, 1) := by decide +kernel
theorem dX8_goes_32 : decode cX8_goes 32 = .ok (.ireturn, 1) := by decide +kernel
theorem dX8_goes_33 : decode cX8_goes 33 = .ok (.aload_n 0, 1) := by decide +kernel
theorem dX8_goes_34 : decode cX8_goes 34 = .ok (.getfield 21, 3) := by decide +kernel
theorem dX8_goes_37 : decode cX8_goes 37 = .ok (.iload_n 1, 1) := by decide +kernel
theorem dX8_goes_38 : decode cX8_goes 38 = .ok (.iaload, 1) := by decide +kernel
theorem dX8_goes_39 : decode cX8_goes 39 = .ok (.iconst 2, 1) := by decide +kernel
theorem dX8_goes_40 : decode cX8_goes 40 = .ok (.if_icmp .ne 47, 3) := by decide +kernel
theorem dX8_goes_43 : decode cX8_goes 43 = .ok (.aload_n 0, 1) := by decide +kernel
theorem dX8_goes_44 : decode cX8_goes 44 = .ok (.bipush 80, 2) := by decide +kernel
theorem dX8_goes_46 : decode cX8_goes 46 = .ok (.iload_n 3, 1) := by decide +kernel
theorem dX8_goes_47 : decode cX8_goes 47 = .ok (.iload 4, 2) := by decide +kernel
theorem dX8_goes_49 : decode cX8_goes 49 = .ok (.invokevirtual 126, 3) := by decide +kernel
theorem dX8_goes_52 : decode cX8_goes 52 = .ok (.istore 5, 2) := by decide +kernel
theorem dX8_goes_54 : decode cX8_goes 54 = .ok (.iload 5, 2) := by decide +kernel
theorem dX8_goes_56 : decode cX8_goes 56 = .ok (.ifCond .lt 17, 3) := by decide +kernel
theorem dX8_goes_59 : decode cX8_goes 59 = .ok (.iload 5, 2) := by decide +kernel
theorem dX8_goes_61 : decode cX8_goes 61 = .ok (.ifCond .le 14, 3) := by decide +kernel
theorem dX8_goes_64 : decode cX8_goes 64 = .ok (.aload_n 0, 1) := by decide +kernel
theorem dX8_goes_65 : decode cX8_goes 65 = .ok (.getfield 13, 3) := by decide +kernel
theorem dX8_goes_68 : decode cX8_goes 68 = .ok (.iload_n 3, 1) := by decide +kernel
theorem dX8_goes_69 : decode cX8_goes 69 = .ok (.baload, 1) := by decide +kernel
theorem dX8_goes_70 : decode cX8_goes 70 = .ok (.ifCond .ne 5, 3) := by decide +kernel
theorem dX8_goes_73 : decode cX8_goes 73 = .ok (.iconst 0, 1) := by decide +kernel
theorem dX8_goes_74 : decode cX8_goes 74 = .ok (.ireturn, 1) := by decide +kernel
theorem dX8_goes_75 : decode cX8_goes 75 = .ok (.aload_n 0, 1) := by decide +kernel
theorem dX8_goes_76 : decode cX8_goes 76 = .ok (.bipush 80, 2) := by decide +kernel
theorem dX8_goes_78 : decode cX8_goes 78 = .ok (.iload_n 3, 1) := by decide +kernel
theorem dX8_goes_79 : decode cX8_goes 79 = .ok (.iload 5, 2) := by decide +kernel
theorem dX8_goes_81 : decode cX8_goes 81 = .ok (.invokevirtual 129, 3) := by decide +kernel
theorem dX8_goes_84 : decode cX8_goes 84 = .ok (.goto 69, 3) := by decide +kernel
theorem dX8_goes_87 : decode cX8_goes 87 = .ok (.aload_n 0, 1) := by decide +kernel
theorem dX8_goes_88 : decode cX8_goes 88 = .ok (.getfield 21, 3) := by decide +kernel
theorem dX8_goes_91 : decode cX8_goes 91 = .ok (.iload_n 1, 1) := by decide +kernel
theorem dX8_goes_92 : decode cX8_goes 92 = .ok (.iaload, 1) := by decide +kernel
theorem dX8_goes_93 : decode cX8_goes 93 = .ok (.iconst 1, 1) := by decide +kernel
theorem dX8_goes_94 : decode cX8_goes 94 = .ok (.if_icmp .ne 59, 3) := by decide +kernel
theorem dX8_goes_97 : decode cX8_goes 97 = .ok (.aload_n 0, 1) := by decide +kernel
theorem dX8_goes_98 : decode cX8_goes 98 = .ok (.getfield 42, 3) := by decide +kernel
theorem dX8_goes_101 : decode cX8_goes 101 = .ok (.sipush 160, 3) := by decide +kernel
theorem dX8_goes_104 : decode cX8_goes 104 = .ok (.iload_n 3, 1) := by decide +kernel
theorem dX8_goes_105 : decode cX8_goes 105 = .ok (.iadd, 1) := by decide +kernel
theorem dX8_goes_106 : decode cX8_goes 106 = .ok (.iaload, 1) := by decide +kernel
theorem dX8_goes_107 : decode cX8_goes 107 = .ok (.iload_n 2, 1) := by decide +kernel
theorem dX8_goes_108 : decode cX8_goes 108 = .ok (.if_icmp .lt 5, 3) := by decide +kernel
theorem dX8_goes_111 : decode cX8_goes 111 = .ok (.iconst 0, 1) := by decide +kernel
theorem dX8_goes_112 : decode cX8_goes 112 = .ok (.ireturn, 1) := by decide +kernel
theorem dX8_goes_113 : decode cX8_goes 113 = .ok (.aload_n 0, 1) := by decide +kernel
theorem dX8_goes_114 : decode cX8_goes 114 = .ok (.bipush 80, 2) := by decide +kernel
theorem dX8_goes_116 : decode cX8_goes 116 = .ok (.iload_n 3, 1) := by decide +kernel
theorem dX8_goes_117 : decode cX8_goes 117 = .ok (.aload_n 0, 1) := by decide +kernel
theorem dX8_goes_118 : decode cX8_goes 118 = .ok (.getfield 13, 3) := by decide +kernel
theorem dX8_goes_121 : decode cX8_goes 121 = .ok (.iload_n 3, 1) := by decide +kernel
theorem dX8_goes_122 : decode cX8_goes 122 = .ok (.baload, 1) := by decide +kernel
theorem dX8_goes_123 : decode cX8_goes 123 = .ok (.ifCond .eq 15, 3) := by decide +kernel
theorem dX8_goes_126 : decode cX8_goes 126 = .ok (.aload_n 0, 1) := by decide +kernel
theorem dX8_goes_127 : decode cX8_goes 127 = .ok (.bipush 80, 2) := by decide +kernel
theorem dX8_goes_129 : decode cX8_goes 129 = .ok (.iload_n 3, 1) := by decide +kernel
theorem dX8_goes_130 : decode cX8_goes 130 = .ok (.iload 4, 2) := by decide +kernel
theorem dX8_goes_132 : decode cX8_goes 132 = .ok (.invokevirtual 133, 3) := by decide +kernel
theorem dX8_goes_135 : decode cX8_goes 135 = .ok (.goto 13, 3) := by decide +kernel
theorem dX8_goes_138 : decode cX8_goes 138 = .ok (.aload_n 0, 1) := by decide +kernel
theorem dX8_goes_139 : decode cX8_goes 139 = .ok (.getfield 42, 3) := by decide +kernel
theorem dX8_goes_142 : decode cX8_goes 142 = .ok (.sipush 160, 3) := by decide +kernel
theorem dX8_goes_145 : decode cX8_goes 145 = .ok (.iload_n 3, 1) := by decide +kernel
theorem dX8_goes_146 : decode cX8_goes 146 = .ok (.iadd, 1) := by decide +kernel
theorem dX8_goes_147 : decode cX8_goes 147 = .ok (.iaload, 1) := by decide +kernel
theorem dX8_goes_148 : decode cX8_goes 148 = .ok (.iload 4, 2) := by decide +kernel
theorem dX8_goes_150 : decode cX8_goes 150 = .ok (.invokevirtual 136, 3) := by decide +kernel
theorem dX8_goes_153 : decode cX8_goes 153 = .ok (.aload_n 0, 1) := by decide +kernel
theorem dX8_goes_154 : decode cX8_goes 154 = .ok (.getfield 39, 3) := by decide +kernel
theorem dX8_goes_157 : decode cX8_goes 157 = .ok (.bipush 80, 2) := by decide +kernel
theorem dX8_goes_159 : decode cX8_goes 159 = .ok (.aload_n 0, 1) := by decide +kernel
theorem dX8_goes_160 : decode cX8_goes 160 = .ok (.getfield 30, 3) := by decide +kernel
theorem dX8_goes_163 : decode cX8_goes 163 = .ok (.iload_n 1, 1) := by decide +kernel
theorem dX8_goes_164 : decode cX8_goes 164 = .ok (.iaload, 1) := by decide +kernel
theorem dX8_goes_165 : decode cX8_goes 165 = .ok (.iastore, 1) := by decide +kernel
theorem dX8_goes_166 : decode cX8_goes 166 = .ok (.iconst 1, 1) := by decide +kernel
theorem dX8_goes_167 : decode cX8_goes 167 = .ok (.ireturn, 1) := by decide +kernel
theorem dX8_isLong_0 : decode cX8_isLong 0 = .ok (.aload_n 0, 1) := by decide +kernel
theorem dX8_isLong_1 : decode cX8_isLong 1 = .ok (.getfield 42, 3) := by decide +kernel
theorem dX8_isLong_4 : decode cX8_isLong 4 = .ok (.iconst 2, 1) := by decide +kernel
theorem dX8_isLong_5 : decode cX8_isLong 5 = .ok (.iload_n 1, 1) := by decide +kernel
theorem dX8_isLong_6 : decode cX8_isLong 6 = .ok (.imul, 1) := by decide +kernel
theorem dX8_isLong_7 : decode cX8_isLong 7 = .ok (.iaload, 1) := by decide +kernel
theorem dX8_isLong_8 : decode cX8_isLong 8 = .ok (.iload_n 2, 1) := by decide +kernel
theorem dX8_isLong_9 : decode cX8_isLong 9 = .ok (.if_icmp .gt 17, 3) := by decide +kernel
theorem dX8_isLong_12 : decode cX8_isLong 12 = .ok (.aload_n 0, 1) := by decide +kernel
theorem dX8_isLong_13 : decode cX8_isLong 13 = .ok (.getfield 42, 3) := by decide +kernel
theorem dX8_isLong_16 : decode cX8_isLong 16 = .ok (.iconst 2, 1) := by decide +kernel
theorem dX8_isLong_17 : decode cX8_isLong 17 = .ok (.iload_n 1, 1) := by decide +kernel
theorem dX8_isLong_18 : decode cX8_isLong 18 = .ok (.imul, 1) := by decide +kernel
theorem dX8_isLong_19 : decode cX8_isLong 19 = .ok (.iconst 1, 1) := by decide +kernel
theorem dX8_isLong_20 : decode cX8_isLong 20 = .ok (.iadd, 1) := by decide +kernel
theorem dX8_isLong_21 : decode cX8_isLong 21 = .ok (.iaload, 1) := by decide +kernel
theorem dX8_isLong_22 : decode cX8_isLong 22 = .ok (.iload_n 2, 1) := by decide +kernel
theorem dX8_isLong_23 : decode cX8_isLong 23 = .ok (.if_icmp .le 7, 3) := by decide +kernel
theorem dX8_isLong_26 : decode cX8_isLong 26 = .ok (.iconst 1, 1) := by decide +kernel
theorem dX8_isLong_27 : decode cX8_isLong 27 = .ok (.goto 4, 3) := by decide +kernel
theorem dX8_isLong_30 : decode cX8_isLong 30 = .ok (.iconst 0, 1) := by decide +kernel
theorem dX8_isLong_31 : decode cX8_isLong 31 = .ok (.ireturn, 1) := by decide +kernel
set_option maxRecDepth 20000 in
theorem ggX8_strict_X8_in : GoodIn wsX8_strict wsX8_in := goodIn_r _ [8] (by decide +kernel) (by decide +kernel)
set_option maxRecDepth 20000 in
theorem gX8_strict_X8_in : GoodIn wsX8_strict (va_wsS RX8 73 yX8_in wsX8_in) := goodIn_app (goodIn_of _ (by decide +kernel)) ggX8_strict_X8_in
set_option maxRecDepth 20000 in
theorem ggX8_strict_X8_isLong : GoodIn wsX8_strict wsX8_isLong := goodIn_r _ [12, 13, 65, 66, 67, 68, 69, 70, 71, 72, 73, 74, 75, 76, 77, 78, 79, 80, 81, 82, 83, 84, 85, 86, 87, 88, 89] (by decide +kernel) (by decide +kernel)
set_option maxRecDepth 20000 in
theorem gX8_strict_X8_isLong : GoodIn wsX8_strict (wsV RX8 172 RX8 yX8_isLong wsX8_isLong) := goodIn_app (goodIn_of _ (by decide +kernel)) ggX8_strict_X8_isLong
set_option maxRecDepth 20000 in
theorem ggX8_strict_X8_wholeCode : GoodIn wsX8_strict wsX8_wholeCode := goodIn_r _ [17, 18, 19, 20, 21, 7, 22, 13, 23, 24, 25, 26, 65, 66, 67, 68, 69, 70, 71, 72, 73, 74, 75, 76, 77, 78, 79, 80, 81, 82, 83, 84, 85, 86, 87, 88, 89] (by decide +kernel) (by decide +kernel)
set_option maxRecDepth 20000 in
theorem gX8_strict_X8_wholeCode : GoodIn wsX8_strict (wsV RX8 175 RX8 yX8_wholeCode wsX8_wholeCode) := goodIn_app (goodIn_of _ (by decide +kernel)) ggX8_strict_X8_wholeCode
set_option maxRecDepth 20000 in
theorem ggX8_strict_X8_lay : GoodIn wsX8_strict wsX8_lay := goodIn_r _ [30, 18, 31, 32, 33, 7, 34, 13, 23, 24, 25, 26, 65, 66, 67, 68, 69, 70, 71, 72, 73, 74, 75, 76, 77, 78, 79, 80, 81, 82, 83, 84, 85, 86, 87, 88, 89] (by decide +kernel) (by decide +kernel)
set_option maxRecDepth 20000 in
theorem gX8_strict_X8_lay : GoodIn wsX8_strict (wsV RX8 179 RX8 yX8_lay wsX8_lay) := goodIn_app (goodIn_of _ (by decide +kernel)) ggX8_strict_X8_lay
set_option maxRecDepth 20000 in
theorem ggX8_strict_X8_isBelow : GoodIn wsX8_strict wsX8_isBelow := goodIn_r _ [38, 18, 13, 23, 24, 25, 7, 26, 65, 66, 67, 68, 69, 70, 71, 72, 73, 74, 75, 76, 77, 78, 79, 80, 81, 82, 83, 84, 85, 86, 87, 88, 89] (by decide +kernel) (by decide +kernel)
set_option maxRecDepth 20000 in
theorem gX8_strict_X8_isBelow : GoodIn wsX8_strict (wsV RX8 146 RX8 yX8_isBelow wsX8_isBelow) := goodIn_app (goodIn_of _ (by decide +kernel)) ggX8_strict_X8_isBelow
set_option maxRecDepth 20000 in
theorem ggX8_strict_X8_goes : GoodIn wsX8_strict wsX8_goes := goodIn_r _ [42, 43, 44, 45, 18, 46, 47, 13, 48, 49, 50, 51, 7, 52, 23, 24, 25, 26, 53, 54, 55, 56, 57, 58, 59, 60, 61, 62, 63, 64, 65, 66, 67, 68, 69, 70, 71, 72, 73, 74, 75, 76, 77, 78, 79, 80, 81, 82, 83, 84, 85, 86, 87, 88, 89] (by decide +kernel) (by decide +kernel)
set_option maxRecDepth 20000 in
theorem gX8_strict_X8_goes : GoodIn wsX8_strict (wsV RX8 183 RX8 yX8_goes wsX8_goes) := goodIn_app (goodIn_of _ (by decide +kernel)) ggX8_strict_X8_goes
theorem dX8_strict_0 : decode cX8_strict 0 = .ok (.iload_n 1, 1) := by decide +kernel
theorem dX8_strict_1 : decode cX8_strict 1 = .ok (.iconst 0, 1) := by decide +kernel
theorem dX8_strict_2 : decode cX8_strict 2 = .ok (.iconst 3, 1) := by decide +kernel
theorem dX8_strict_3 : decode cX8_strict 3 = .ok (.invokestatic 73, 3) := by decide +kernel
theorem dX8_strict_6 : decode cX8_strict 6 = .ok (.ifCond .ne 5, 3) := by decide +kernel
theorem dX8_strict_9 : decode cX8_strict 9 = .ok (.iconst (-1), 1) := by decide +kernel
theorem dX8_strict_10 : decode cX8_strict 10 = .ok (.ireturn, 1) := by decide +kernel
theorem dX8_strict_11 : decode cX8_strict 11 = .ok (.aload_n 0, 1) := by decide +kernel
theorem dX8_strict_12 : decode cX8_strict 12 = .ok (.bipush 82, 2) := by decide +kernel
theorem dX8_strict_14 : decode cX8_strict 14 = .ok (.iload_n 1, 1) := by decide +kernel
theorem dX8_strict_15 : decode cX8_strict 15 = .ok (.invokevirtual 172, 3) := by decide +kernel
theorem dX8_strict_18 : decode cX8_strict 18 = .ok (.ifCond .ne 13, 3) := by decide +kernel
theorem dX8_strict_21 : decode cX8_strict 21 = .ok (.aload_n 0, 1) := by decide +kernel
theorem dX8_strict_22 : decode cX8_strict 22 = .ok (.bipush 81, 2) := by decide +kernel
theorem dX8_strict_24 : decode cX8_strict 24 = .ok (.iload_n 1, 1) := by decide +kernel
theorem dX8_strict_25 : decode cX8_strict 25 = .ok (.invokevirtual 172, 3) := by decide +kernel
theorem dX8_strict_28 : decode cX8_strict 28 = .ok (.ifCond .eq 6, 3) := by decide +kernel
theorem dX8_strict_31 : decode cX8_strict 31 = .ok (.bipush (-2), 2) := by decide +kernel
theorem dX8_strict_33 : decode cX8_strict 33 = .ok (.ireturn, 1) := by decide +kernel
theorem dX8_strict_34 : decode cX8_strict 34 = .ok (.iconst 0, 1) := by decide +kernel
theorem dX8_strict_35 : decode cX8_strict 35 = .ok (.istore_n 2, 1) := by decide +kernel
theorem dX8_strict_36 : decode cX8_strict 36 = .ok (.iload_n 2, 1) := by decide +kernel
theorem dX8_strict_37 : decode cX8_strict 37 = .ok (.ldc 57, 2) := by decide +kernel
theorem dX8_strict_39 : decode cX8_strict 39 = .ok (.if_icmp .ge 16, 3) := by decide +kernel
theorem dX8_strict_42 : decode cX8_strict 42 = .ok (.aload_n 0, 1) := by decide +kernel
theorem dX8_strict_43 : decode cX8_strict 43 = .ok (.getfield 61, 3) := by decide +kernel
theorem dX8_strict_46 : decode cX8_strict 46 = .ok (.iload_n 2, 1) := by decide +kernel
theorem dX8_strict_47 : decode cX8_strict 47 = .ok (.iconst (-1), 1) := by decide +kernel
theorem dX8_strict_48 : decode cX8_strict 48 = .ok (.iastore, 1) := by decide +kernel
theorem dX8_strict_49 : decode cX8_strict 49 = .ok (.iinc 2 1, 3) := by decide +kernel
theorem dX8_strict_52 : decode cX8_strict 52 = .ok (.goto (-16), 3) := by decide +kernel
theorem dX8_strict_55 : decode cX8_strict 55 = .ok (.aload_n 0, 1) := by decide +kernel
theorem dX8_strict_56 : decode cX8_strict 56 = .ok (.getfield 58, 3) := by decide +kernel
theorem dX8_strict_59 : decode cX8_strict 59 = .ok (.iconst 0, 1) := by decide +kernel
theorem dX8_strict_60 : decode cX8_strict 60 = .ok (.aload_n 0, 1) := by decide +kernel
theorem dX8_strict_61 : decode cX8_strict 61 = .ok (.bipush 82, 2) := by decide +kernel
theorem dX8_strict_63 : decode cX8_strict 63 = .ok (.invokevirtual 175, 3) := by decide +kernel
theorem dX8_strict_66 : decode cX8_strict 66 = .ok (.iastore, 1) := by decide +kernel
theorem dX8_strict_67 : decode cX8_strict 67 = .ok (.aload_n 0, 1) := by decide +kernel
theorem dX8_strict_68 : decode cX8_strict 68 = .ok (.getfield 61, 3) := by decide +kernel
theorem dX8_strict_71 : decode cX8_strict 71 = .ok (.aload_n 0, 1) := by decide +kernel
theorem dX8_strict_72 : decode cX8_strict 72 = .ok (.getfield 58, 3) := by decide +kernel
theorem dX8_strict_75 : decode cX8_strict 75 = .ok (.iconst 0, 1) := by decide +kernel
theorem dX8_strict_76 : decode cX8_strict 76 = .ok (.iaload, 1) := by decide +kernel
theorem dX8_strict_77 : decode cX8_strict 77 = .ok (.iconst 0, 1) := by decide +kernel
theorem dX8_strict_78 : decode cX8_strict 78 = .ok (.iastore, 1) := by decide +kernel
theorem dX8_strict_79 : decode cX8_strict 79 = .ok (.iconst 1, 1) := by decide +kernel
theorem dX8_strict_80 : decode cX8_strict 80 = .ok (.istore_n 2, 1) := by decide +kernel
theorem dX8_strict_81 : decode cX8_strict 81 = .ok (.iconst 0, 1) := by decide +kernel
theorem dX8_strict_82 : decode cX8_strict 82 = .ok (.istore_n 3, 1) := by decide +kernel
theorem dX8_strict_83 : decode cX8_strict 83 = .ok (.iload_n 3, 1) := by decide +kernel
theorem dX8_strict_84 : decode cX8_strict 84 = .ok (.iload_n 2, 1) := by decide +kernel
theorem dX8_strict_85 : decode cX8_strict 85 = .ok (.if_icmp .ge 138, 3) := by decide +kernel
theorem dX8_strict_88 : decode cX8_strict 88 = .ok (.aload_n 0, 1) := by decide +kernel
theorem dX8_strict_89 : decode cX8_strict 89 = .ok (.aload_n 0, 1) := by decide +kernel
theorem dX8_strict_90 : decode cX8_strict 90 = .ok (.getfield 58, 3) := by decide +kernel
theorem dX8_strict_93 : decode cX8_strict 93 = .ok (.iload_n 3, 1) := by decide +kernel
theorem dX8_strict_94 : decode cX8_strict 94 = .ok (.iaload, 1) := by decide +kernel
theorem dX8_strict_95 : decode cX8_strict 95 = .ok (.invokevirtual 179, 3) := by decide +kernel
theorem dX8_strict_98 : decode cX8_strict 98 = .ok (.aload_n 0, 1) := by decide +kernel
theorem dX8_strict_99 : decode cX8_strict 99 = .ok (.bipush 81, 2) := by decide +kernel
theorem dX8_strict_101 : decode cX8_strict 101 = .ok (.bipush 80, 2) := by decide +kernel
theorem dX8_strict_103 : decode cX8_strict 103 = .ok (.invokevirtual 146, 3) := by decide +kernel
theorem dX8_strict_106 : decode cX8_strict 106 = .ok (.ifCond .eq 15, 3) := by decide +kernel
theorem dX8_strict_109 : decode cX8_strict 109 = .ok (.aload_n 0, 1) := by decide +kernel
theorem dX8_strict_110 : decode cX8_strict 110 = .ok (.getfield 61, 3) := by decide +kernel
theorem dX8_strict_113 : decode cX8_strict 113 = .ok (.aload_n 0, 1) := by decide +kernel
theorem dX8_strict_114 : decode cX8_strict 114 = .ok (.getfield 58, 3) := by decide +kernel
theorem dX8_strict_117 : decode cX8_strict 117 = .ok (.iload_n 3, 1) := by decide +kernel
theorem dX8_strict_118 : decode cX8_strict 118 = .ok (.iaload, 1) := by decide +kernel
theorem dX8_strict_119 : decode cX8_strict 119 = .ok (.iaload, 1) := by decide +kernel
theorem dX8_strict_120 : decode cX8_strict 120 = .ok (.ireturn, 1) := by decide +kernel
theorem dX8_strict_121 : decode cX8_strict 121 = .ok (.iconst 0, 1) := by decide +kernel
theorem dX8_strict_122 : decode cX8_strict 122 = .ok (.istore 4, 2) := by decide +kernel
theorem dX8_strict_124 : decode cX8_strict 124 = .ok (.iload 4, 2) := by decide +kernel
theorem dX8_strict_126 : decode cX8_strict 126 = .ok (.aload_n 0, 1) := by decide +kernel
theorem dX8_strict_127 : decode cX8_strict 127 = .ok (.getfield 77, 3) := by decide +kernel
theorem dX8_strict_130 : decode cX8_strict 130 = .ok (.if_icmp .ge 87, 3) := by decide +kernel
theorem dX8_strict_133 : decode cX8_strict 133 = .ok (.aload_n 0, 1) := by decide +kernel
theorem dX8_strict_134 : decode cX8_strict 134 = .ok (.aload_n 0, 1) := by decide +kernel
theorem dX8_strict_135 : decode cX8_strict 135 = .ok (.getfield 58, 3) := by decide +kernel
theorem dX8_strict_138 : decode cX8_strict 138 = .ok (.iload_n 3, 1) := by decide +kernel
theorem dX8_strict_139 : decode cX8_strict 139 = .ok (.iaload, 1) := by decide +kernel
theorem dX8_strict_140 : decode cX8_strict 140 = .ok (.invokevirtual 179, 3) := by decide +kernel
theorem dX8_strict_143 : decode cX8_strict 143 = .ok (.aload_n 0, 1) := by decide +kernel
theorem dX8_strict_144 : decode cX8_strict 144 = .ok (.iload 4, 2) := by decide +kernel
theorem dX8_strict_146 : decode cX8_strict 146 = .ok (.iload_n 1, 1) := by decide +kernel
theorem dX8_strict_147 : decode cX8_strict 147 = .ok (.invokevirtual 183, 3) := by decide +kernel
theorem dX8_strict_150 : decode cX8_strict 150 = .ok (.ifCond .eq 12, 3) := by decide +kernel
theorem dX8_strict_153 : decode cX8_strict 153 = .ok (.aload_n 0, 1) := by decide +kernel
theorem dX8_strict_154 : decode cX8_strict 154 = .ok (.bipush 80, 2) := by decide +kernel
theorem dX8_strict_156 : decode cX8_strict 156 = .ok (.invokevirtual 175, 3) := by decide +kernel
theorem dX8_strict_159 : decode cX8_strict 159 = .ok (.goto 9, 3) := by decide +kernel
theorem dX8_strict_162 : decode cX8_strict 162 = .ok (.aload_n 0, 1) := by decide +kernel
theorem dX8_strict_163 : decode cX8_strict 163 = .ok (.getfield 58, 3) := by decide +kernel
theorem dX8_strict_166 : decode cX8_strict 166 = .ok (.iload_n 3, 1) := by decide +kernel
theorem dX8_strict_167 : decode cX8_strict 167 = .ok (.iaload, 1) := by decide +kernel
theorem dX8_strict_168 : decode cX8_strict 168 = .ok (.istore 5, 2) := by decide +kernel
