set_option maxRecDepth 20000 in
theorem gX7_lose_X6_at : GoodIn wsX7_lose (va_wsS RX7 140 yX6_at wsX6_at) := goodIn_app (goodIn_of _ (by decide +kernel)) ggX7_lose_X6_at
set_option maxRecDepth 20000 in
theorem ggX7_lose_X6_without : GoodIn wsX7_lose wsX6_without := goodIn_r _ [16] (by decide +kernel) (by decide +kernel)
set_option maxRecDepth 20000 in
theorem gX7_lose_X6_without : GoodIn wsX7_lose (va_wsS RX7 143 yX6_without wsX6_without) := goodIn_app (goodIn_of _ (by decide +kernel)) ggX7_lose_X6_without
theorem dX7_lose_0 : decode cX7_lose 0 = .ok (.iload_n 1, 1) := by decide +kernel
theorem dX7_lose_1 : decode cX7_lose 1 = .ok (.iconst 2, 1) := by decide +kernel
theorem dX7_lose_2 : decode cX7_lose 2 = .ok (.invokestatic 68, 3) := by decide +kernel
theorem dX7_lose_5 : decode cX7_lose 5 = .ok (.ifCond .eq 22, 3) := by decide +kernel
theorem dX7_lose_8 : decode cX7_lose 8 = .ok (.iload_n 2, 1) := by decide +kernel
theorem dX7_lose_9 : decode cX7_lose 9 = .ok (.aload_n 0, 1) := by decide +kernel
theorem dX7_lose_10 : decode cX7_lose 10 = .ok (.getfield 26, 3) := by decide +kernel
theorem dX7_lose_13 : decode cX7_lose 13 = .ok (.getfield 127, 3) := by decide +kernel
theorem dX7_lose_16 : decode cX7_lose 16 = .ok (.iload_n 1, 1) := by decide +kernel
theorem dX7_lose_17 : decode cX7_lose 17 = .ok (.iaload, 1) := by decide +kernel
theorem dX7_lose_18 : decode cX7_lose 18 = .ok (.invokestatic 138, 3) := by decide +kernel
theorem dX7_lose_21 : decode cX7_lose 21 = .ok (.invokestatic 68, 3) := by decide +kernel
theorem dX7_lose_24 : decode cX7_lose 24 = .ok (.ifCond .ne 5, 3) := by decide +kernel
theorem dX7_lose_27 : decode cX7_lose 27 = .ok (.iconst (-1), 1) := by decide +kernel
theorem dX7_lose_28 : decode cX7_lose 28 = .ok (.ireturn, 1) := by decide +kernel
theorem dX7_lose_29 : decode cX7_lose 29 = .ok (.aload_n 0, 1) := by decide +kernel
theorem dX7_lose_30 : decode cX7_lose 30 = .ok (.getfield 26, 3) := by decide +kernel
theorem dX7_lose_33 : decode cX7_lose 33 = .ok (.getfield 127, 3) := by decide +kernel
theorem dX7_lose_36 : decode cX7_lose 36 = .ok (.iload_n 1, 1) := by decide +kernel
theorem dX7_lose_37 : decode cX7_lose 37 = .ok (.iaload, 1) := by decide +kernel
theorem dX7_lose_38 : decode cX7_lose 38 = .ok (.iload_n 2, 1) := by decide +kernel
theorem dX7_lose_39 : decode cX7_lose 39 = .ok (.invokestatic 140, 3) := by decide +kernel
theorem dX7_lose_42 : decode cX7_lose 42 = .ok (.istore_n 3, 1) := by decide +kernel
theorem dX7_lose_43 : decode cX7_lose 43 = .ok (.aload_n 0, 1) := by decide +kernel
theorem dX7_lose_44 : decode cX7_lose 44 = .ok (.getfield 26, 3) := by decide +kernel
theorem dX7_lose_47 : decode cX7_lose 47 = .ok (.getfield 127, 3) := by decide +kernel
theorem dX7_lose_50 : decode cX7_lose 50 = .ok (.iload_n 1, 1) := by decide +kernel
theorem dX7_lose_51 : decode cX7_lose 51 = .ok (.aload_n 0, 1) := by decide +kernel
theorem dX7_lose_52 : decode cX7_lose 52 = .ok (.getfield 26, 3) := by decide +kernel
theorem dX7_lose_55 : decode cX7_lose 55 = .ok (.getfield 127, 3) := by decide +kernel
theorem dX7_lose_58 : decode cX7_lose 58 = .ok (.iload_n 1, 1) := by decide +kernel
theorem dX7_lose_59 : decode cX7_lose 59 = .ok (.iaload, 1) := by decide +kernel
theorem dX7_lose_60 : decode cX7_lose 60 = .ok (.iload_n 2, 1) := by decide +kernel
theorem dX7_lose_61 : decode cX7_lose 61 = .ok (.invokestatic 143, 3) := by decide +kernel
theorem dX7_lose_64 : decode cX7_lose 64 = .ok (.iastore, 1) := by decide +kernel
theorem dX7_lose_65 : decode cX7_lose 65 = .ok (.iload_n 3, 1) := by decide +kernel
theorem dX7_lose_66 : decode cX7_lose 66 = .ok (.ireturn, 1) := by decide +kernel
set_option maxRecDepth 20000 in
theorem ggX7_now_X7_isAmong : GoodIn wsX7_now wsX7_isAmong := goodIn_r _ [7] (by decide +kernel) (by decide +kernel)
set_option maxRecDepth 20000 in
theorem gX7_now_X7_isAmong : GoodIn wsX7_now (va_wsS RX7 68 yX7_isAmong wsX7_isAmong) := goodIn_app (goodIn_of _ (by decide +kernel)) ggX7_now_X7_isAmong
set_option maxRecDepth 20000 in
theorem ggX7_now_X6_size : GoodIn wsX7_now wsX6_size := goodIn_r _ [11] (by decide +kernel) (by decide +kernel)
set_option maxRecDepth 20000 in
theorem gX7_now_X6_size : GoodIn wsX7_now (va_wsS RX7 138 yX6_size wsX6_size) := goodIn_app (goodIn_of _ (by decide +kernel)) ggX7_now_X6_size
set_option maxRecDepth 20000 in
theorem ggX7_now_X6_at : GoodIn wsX7_now wsX6_at := goodIn_r _ [14] (by decide +kernel) (by decide +kernel)
set_option maxRecDepth 20000 in
theorem gX7_now_X6_at : GoodIn wsX7_now (va_wsS RX7 140 yX6_at wsX6_at) := goodIn_app (goodIn_of _ (by decide +kernel)) ggX7_now_X6_at
theorem dX7_now_0 : decode cX7_now 0 = .ok (.iload_n 2, 1) := by decide +kernel
theorem dX7_now_1 : decode cX7_now 1 = .ok (.bipush (-2), 2) := by decide +kernel
theorem dX7_now_3 : decode cX7_now 3 = .ok (.if_icmp .ne 11, 3) := by decide +kernel
theorem dX7_now_6 : decode cX7_now 6 = .ok (.aload_n 0, 1) := by decide +kernel
theorem dX7_now_7 : decode cX7_now 7 = .ok (.getfield 26, 3) := by decide +kernel
theorem dX7_now_10 : decode cX7_now 10 = .ok (.getfield 124, 3) := by decide +kernel
theorem dX7_now_13 : decode cX7_now 13 = .ok (.ireturn, 1) := by decide +kernel
theorem dX7_now_14 : decode cX7_now 14 = .ok (.iload_n 1, 1) := by decide +kernel
theorem dX7_now_15 : decode cX7_now 15 = .ok (.iconst 2, 1) := by decide +kernel
theorem dX7_now_16 : decode cX7_now 16 = .ok (.invokestatic 68, 3) := by decide +kernel
theorem dX7_now_19 : decode cX7_now 19 = .ok (.ifCond .ne 5, 3) := by decide +kernel
theorem dX7_now_22 : decode cX7_now 22 = .ok (.iconst (-1), 1) := by decide +kernel
theorem dX7_now_23 : decode cX7_now 23 = .ok (.ireturn, 1) := by decide +kernel
theorem dX7_now_24 : decode cX7_now 24 = .ok (.aload_n 0, 1) := by decide +kernel
theorem dX7_now_25 : decode cX7_now 25 = .ok (.getfield 26, 3) := by decide +kernel
theorem dX7_now_28 : decode cX7_now 28 = .ok (.getfield 127, 3) := by decide +kernel
theorem dX7_now_31 : decode cX7_now 31 = .ok (.iload_n 1, 1) := by decide +kernel
theorem dX7_now_32 : decode cX7_now 32 = .ok (.iaload, 1) := by decide +kernel
theorem dX7_now_33 : decode cX7_now 33 = .ok (.invokestatic 138, 3) := by decide +kernel
theorem dX7_now_36 : decode cX7_now 36 = .ok (.istore_n 3, 1) := by decide +kernel
theorem dX7_now_37 : decode cX7_now 37 = .ok (.iload_n 2, 1) := by decide +kernel
theorem dX7_now_38 : decode cX7_now 38 = .ok (.iconst (-1), 1) := by decide +kernel
theorem dX7_now_39 : decode cX7_now 39 = .ok (.if_icmp .ne 5, 3) := by decide +kernel
theorem dX7_now_42 : decode cX7_now 42 = .ok (.iload_n 3, 1) := by decide +kernel
theorem dX7_now_43 : decode cX7_now 43 = .ok (.ireturn, 1) := by decide +kernel
theorem dX7_now_44 : decode cX7_now 44 = .ok (.iload_n 2, 1) := by decide +kernel
theorem dX7_now_45 : decode cX7_now 45 = .ok (.iload_n 3, 1) := by decide +kernel
theorem dX7_now_46 : decode cX7_now 46 = .ok (.invokestatic 68, 3) := by decide +kernel
theorem dX7_now_49 : decode cX7_now 49 = .ok (.ifCond .eq 19, 3) := by decide +kernel
theorem dX7_now_52 : decode cX7_now 52 = .ok (.aload_n 0, 1) := by decide +kernel
theorem dX7_now_53 : decode cX7_now 53 = .ok (.getfield 26, 3) := by decide +kernel
theorem dX7_now_56 : decode cX7_now 56 = .ok (.getfield 127, 3) := by decide +kernel
theorem dX7_now_59 : decode cX7_now 59 = .ok (.iload_n 1, 1) := by decide +kernel
theorem dX7_now_60 : decode cX7_now 60 = .ok (.iaload, 1) := by decide +kernel
theorem dX7_now_61 : decode cX7_now 61 = .ok (.iload_n 2, 1) := by decide +kernel
theorem dX7_now_62 : decode cX7_now 62 = .ok (.invokestatic 140, 3) := by decide +kernel
theorem dX7_now_65 : decode cX7_now 65 = .ok (.goto 4, 3) := by decide +kernel
theorem dX7_now_68 : decode cX7_now 68 = .ok (.iconst (-1), 1) := by decide +kernel
theorem dX7_now_69 : decode cX7_now 69 = .ok (.ireturn, 1) := by decide +kernel
set_option maxRecDepth 20000 in
theorem ggX7_reset_X1_clear : GoodIn wsX7_reset wsX1_clear := goodIn_r _ [6, 7, 8, 17, 18] (by decide +kernel) (by decide +kernel)
set_option maxRecDepth 20000 in
theorem gX7_reset_X1_clear : GoodIn wsX7_reset (wsV RX7 61 RX1 yX1_clear wsX1_clear) := goodIn_app (goodIn_of _ (by decide +kernel)) ggX7_reset_X1_clear
theorem dX7_reset_0 : decode cX7_reset 0 = .ok (.aload_n 0, 1) := by decide +kernel
theorem dX7_reset_1 : decode cX7_reset 1 = .ok (.getfield 26, 3) := by decide +kernel
theorem dX7_reset_4 : decode cX7_reset 4 = .ok (.iconst 0, 1) := by decide +kernel
theorem dX7_reset_5 : decode cX7_reset 5 = .ok (.invokevirtual 61, 3) := by decide +kernel
theorem dX7_reset_8 : decode cX7_reset 8 = .ok (.iconst 1, 1) := by decide +kernel
theorem dX7_reset_9 : decode cX7_reset 9 = .ok (.ireturn, 1) := by decide +kernel
set_option maxRecDepth 20000 in
theorem ggX7_aim_X7_isAmong : GoodIn wsX7_aim wsX7_isAmong := goodIn_r _ [8] (by decide +kernel) (by decide +kernel)
set_option maxRecDepth 20000 in
theorem gX7_aim_X7_isAmong : GoodIn wsX7_aim (va_wsS RX7 68 yX7_isAmong wsX7_isAmong) := goodIn_app (goodIn_of _ (by decide +kernel)) ggX7_aim_X7_isAmong
set_option maxRecDepth 20000 in
theorem ggX7_aim_X1_clear : GoodIn wsX7_aim wsX1_clear := goodIn_r _ [13, 14, 15, 28, 29] (by decide +kernel) (by decide +kernel)
set_option maxRecDepth 20000 in
theorem gX7_aim_X1_clear : GoodIn wsX7_aim (wsV RX7 61 RX1 yX1_clear wsX1_clear) := goodIn_app (goodIn_of _ (by decide +kernel)) ggX7_aim_X1_clear
theorem dX7_aim_0 : decode cX7_aim 0 = .ok (.iload_n 1, 1) := by decide +kernel
theorem dX7_aim_1 : decode cX7_aim 1 = .ok (.aload_n 0, 1) := by decide +kernel
theorem dX7_aim_2 : decode cX7_aim 2 = .ok (.getfield 10, 3) := by decide +kernel
theorem dX7_aim_5 : decode cX7_aim 5 = .ok (.getfield 54, 3) := by decide +kernel
theorem dX7_aim_8 : decode cX7_aim 8 = .ok (.invokestatic 68, 3) := by decide +kernel
theorem dX7_aim_11 : decode cX7_aim 11 = .ok (.ifCond .ne 5, 3) := by decide +kernel
theorem dX7_aim_14 : decode cX7_aim 14 = .ok (.iconst (-1), 1) := by decide +kernel
theorem dX7_aim_15 : decode cX7_aim 15 = .ok (.ireturn, 1) := by decide +kernel
theorem dX7_aim_16 : decode cX7_aim 16 = .ok (.aload_n 0, 1) := by decide +kernel
theorem dX7_aim_17 : decode cX7_aim 17 = .ok (.getfield 30, 3) := by decide +kernel
theorem dX7_aim_20 : decode cX7_aim 20 = .ok (.iload_n 1, 1) := by decide +kernel
theorem dX7_aim_21 : decode cX7_aim 21 = .ok (.invokevirtual 61, 3) := by decide +kernel
theorem dX7_aim_24 : decode cX7_aim 24 = .ok (.aload_n 0, 1) := by decide +kernel
theorem dX7_aim_25 : decode cX7_aim 25 = .ok (.iconst 0, 1) := by decide +kernel
theorem dX7_aim_26 : decode cX7_aim 26 = .ok (.putfield 146, 3) := by decide +kernel
theorem dX7_aim_29 : decode cX7_aim 29 = .ok (.iconst 1, 1) := by decide +kernel
theorem dX7_aim_30 : decode cX7_aim 30 = .ok (.ireturn, 1) := by decide +kernel
set_option maxRecDepth 20000 in
theorem ggX7_want_X7_isAmong : GoodIn wsX7_want wsX7_isAmong := goodIn_r _ [8] (by decide +kernel) (by decide +kernel)
set_option maxRecDepth 20000 in
theorem gX7_want_X7_isAmong : GoodIn wsX7_want (va_wsS RX7 68 yX7_isAmong wsX7_isAmong) := goodIn_app (goodIn_of _ (by decide +kernel)) ggX7_want_X7_isAmong
set_option maxRecDepth 20000 in
theorem ggX7_want_X6_size : GoodIn wsX7_want wsX6_size := goodIn_r _ [12] (by decide +kernel) (by decide +kernel)
set_option maxRecDepth 20000 in
theorem gX7_want_X6_size : GoodIn wsX7_want (va_wsS RX7 138 yX6_size wsX6_size) := goodIn_app (goodIn_of _ (by decide +kernel)) ggX7_want_X6_size
set_option maxRecDepth 20000 in
theorem ggX7_want_X0_wordWith : GoodIn wsX7_want wsX0_wordWith := goodIn_r _ [17, 18, 19, 20, 11, 21, 22, 10, 12, 23, 24, 25, 36, 37, 38, 39] (by decide +kernel) (by decide +kernel)
set_option maxRecDepth 20000 in
theorem gX7_want_X0_wordWith : GoodIn wsX7_want (wsV RX7 150 RX0 yX0_wordWith wsX0_wordWith) := goodIn_app (goodIn_of _ (by decide +kernel)) ggX7_want_X0_wordWith
theorem dX7_want_0 : decode cX7_want 0 = .ok (.iload_n 1, 1) := by decide +kernel
theorem dX7_want_1 : decode cX7_want 1 = .ok (.iconst 2, 1) := by decide +kernel
theorem dX7_want_2 : decode cX7_want 2 = .ok (.invokestatic 68, 3) := by decide +kernel
theorem dX7_want_5 : decode cX7_want 5 = .ok (.ifCond .eq 11, 3) := by decide +kernel
theorem dX7_want_8 : decode cX7_want 8 = .ok (.iload_n 2, 1) := by decide +kernel
theorem dX7_want_9 : decode cX7_want 9 = .ok (.iconst 3, 1) := by decide +kernel
theorem dX7_want_10 : decode cX7_want 10 = .ok (.invokestatic 68, 3) := by decide +kernel
theorem dX7_want_13 : decode cX7_want 13 = .ok (.ifCond .ne 5, 3) := by decide +kernel
theorem dX7_want_16 : decode cX7_want 16 = .ok (.iconst (-1), 1) := by decide +kernel
theorem dX7_want_17 : decode cX7_want 17 = .ok (.ireturn, 1) := by decide +kernel
theorem dX7_want_18 : decode cX7_want 18 = .ok (.aload_n 0, 1) := by decide +kernel
theorem dX7_want_19 : decode cX7_want 19 = .ok (.getfield 30, 3) := by decide +kernel
theorem dX7_want_22 : decode cX7_want 22 = .ok (.getfield 127, 3) := by decide +kernel
theorem dX7_want_25 : decode cX7_want 25 = .ok (.iload_n 1, 1) := by decide +kernel
theorem dX7_want_26 : decode cX7_want 26 = .ok (.iaload, 1) := by decide +kernel
theorem dX7_want_27 : decode cX7_want 27 = .ok (.invokestatic 138, 3) := by decide +kernel
theorem dX7_want_30 : decode cX7_want 30 = .ok (.istore_n 3, 1) := by decide +kernel
theorem dX7_want_31 : decode cX7_want 31 = .ok (.iload_n 3, 1) := by decide +kernel
theorem dX7_want_32 : decode cX7_want 32 = .ok (.bipush 10, 2) := by decide +kernel
theorem dX7_want_34 : decode cX7_want 34 = .ok (.if_icmp .lt 6, 3) := by decide +kernel
theorem dX7_want_37 : decode cX7_want 37 = .ok (.bipush (-3), 2) := by decide +kernel
theorem dX7_want_39 : decode cX7_want 39 = .ok (.ireturn, 1) := by decide +kernel
theorem dX7_want_40 : decode cX7_want 40 = .ok (.aload_n 0, 1) := by decide +kernel
theorem dX7_want_41 : decode cX7_want 41 = .ok (.getfield 30, 3) := by decide +kernel
theorem dX7_want_44 : decode cX7_want 44 = .ok (.getfield 127, 3) := by decide +kernel
theorem dX7_want_47 : decode cX7_want 47 = .ok (.iload_n 1, 1) := by decide +kernel
theorem dX7_want_48 : decode cX7_want 48 = .ok (.aload_n 0, 1) := by decide +kernel
theorem dX7_want_49 : decode cX7_want 49 = .ok (.getfield 10, 3) := by decide +kernel
theorem dX7_want_52 : decode cX7_want 52 = .ok (.iload_n 1, 1) := by decide +kernel
theorem dX7_want_53 : decode cX7_want 53 = .ok (.aload_n 0, 1) := by decide +kernel
theorem dX7_want_54 : decode cX7_want 54 = .ok (.getfield 30, 3) := by decide +kernel
theorem dX7_want_57 : decode cX7_want 57 = .ok (.getfield 127, 3) := by decide +kernel
theorem dX7_want_60 : decode cX7_want 60 = .ok (.iload_n 1, 1) := by decide +kernel
theorem dX7_want_61 : decode cX7_want 61 = .ok (.iaload, 1) := by decide +kernel
theorem dX7_want_62 : decode cX7_want 62 = .ok (.iload_n 2, 1) := by decide +kernel
theorem dX7_want_63 : decode cX7_want 63 = .ok (.invokevirtual 150, 3) := by decide +kernel
theorem dX7_want_66 : decode cX7_want 66 = .ok (.iastore, 1) := by decide +kernel
theorem dX7_want_67 : decode cX7_want 67 = .ok (.aload_n 0, 1) := by decide +kernel
theorem dX7_want_68 : decode cX7_want 68 = .ok (.iconst 0, 1) := by decide +kernel
theorem dX7_want_69 : decode cX7_want 69 = .ok (.putfield 146, 3) := by decide +kernel
theorem dX7_want_72 : decode cX7_want 72 = .ok (.iload_n 3, 1) := by decide +kernel
theorem dX7_want_73 : decode cX7_want 73 = .ok (.iconst 1, 1) := by decide +kernel
theorem dX7_want_74 : decode cX7_want 74 = .ok (.iadd, 1) := by decide +kernel
theorem dX7_want_75 : decode cX7_want 75 = .ok (.ireturn, 1) := by decide +kernel
set_option maxRecDepth 20000 in
theorem ggX7_found_X7_searchOnce : GoodIn wsX7_found wsX7_searchOnce := goodIn_r _ [8, 9, 1, 10, 11, 12, 13, 14, 15, 16, 17, 18, 19, 20, 21, 22, 23, 24, 25, 26, 27, 28, 29, 30, 31, 32, 33, 34, 35, 36, 37, 38, 39, 40, 41, 42, 43, 44, 45, 46, 47, 48, 49, 50, 51, 52, 53, 54, 55, 56, 57, 58, 59, 60, 61, 62, 63, 64, 65, 66, 67, 68, 69, 70, 71, 72, 73, 74, 75, 76, 77, 78, 79, 80, 81, 82, 83, 84, 85, 86, 87, 88, 89, 90, 91, 92, 93, 94, 95, 96, 97, 98, 99, 100, 101, 102, 103, 104, 105, 106] (by decide +kernel) (by decide +kernel)
set_option maxRecDepth 20000 in
theorem gX7_found_X7_searchOnce : GoodIn wsX7_found (wsV RX7 154 RX7 yX7_searchOnce wsX7_searchOnce) := goodIn_app (goodIn_of _ (by decide +kernel)) ggX7_found_X7_searchOnce
theorem dX7_found_0 : decode cX7_found 0 = .ok (.aload_n 0, 1) := by decide +kernel
theorem dX7_found_1 : decode cX7_found 1 = .ok (.invokevirtual 154, 3) := by decide +kernel
theorem dX7_found_4 : decode cX7_found 4 = .ok (.aload_n 0, 1) := by decide +kernel
theorem dX7_found_5 : decode cX7_found 5 = .ok (.getfield 36, 3) := by decide +kernel
theorem dX7_found_8 : decode cX7_found 8 = .ok (.getfield 157, 3) := by decide +kernel
theorem dX7_found_11 : decode cX7_found 11 = .ok (.ifCond .eq 8, 3) := by decide +kernel
theorem dX7_found_14 : decode cX7_found 14 = .ok (.bipush (-3), 2) := by decide +kernel
theorem dX7_found_16 : decode cX7_found 16 = .ok (.goto 10, 3) := by decide +kernel
theorem dX7_found_19 : decode cX7_found 19 = .ok (.aload_n 0, 1) := by decide +kernel
theorem dX7_found_20 : decode cX7_found 20 = .ok (.getfield 36, 3) := by decide +kernel
theorem dX7_found_23 : decode cX7_found 23 = .ok (.getfield 160, 3) := by decide +kernel
theorem dX7_found_26 : decode cX7_found 26 = .ok (.ireturn, 1) := by decide +kernel
set_option maxRecDepth 20000 in
theorem ggX7_about_X7_searchOnce : GoodIn wsX7_about wsX7_searchOnce := goodIn_r _ [8, 9, 1, 10, 11, 12, 13, 14, 15, 16, 17, 18, 19, 20, 21, 22, 23, 24, 25, 26, 27, 28, 29, 30, 31, 32, 33, 34, 35, 36, 37, 38, 39, 40, 41, 42, 43, 44, 45, 46, 47, 48, 49, 50, 51, 52, 53, 54, 55, 56, 57, 58, 59, 60, 61, 62, 63, 64, 65, 66, 67, 68, 69, 70, 71, 72, 73, 74, 75, 76, 77, 78, 79, 80, 81, 82, 83, 84, 94, 95, 96, 97, 98, 99, 100, 101, 102, 103, 104, 105, 106, 107, 108, 109, 110, 111, 112, 113, 114, 115] (by decide +kernel) (by decide +kernel)
set_option maxRecDepth 20000 in
theorem gX7_about_X7_searchOnce : GoodIn wsX7_about (wsV RX7 154 RX7 yX7_searchOnce wsX7_searchOnce) := goodIn_app (goodIn_of _ (by decide +kernel)) ggX7_about_X7_searchOnce
set_option maxRecDepth 20000 in
theorem ggX7_about_X2_fact : GoodIn wsX7_about wsX2_fact := goodIn_r _ [88, 22, 31, 27, 28, 29, 30, 89, 53, 50, 54, 90, 91, 92, 15, 93, 17, 75, 76, 77, 78, 79, 80, 81, 102, 103, 104, 105, 106, 107, 108, 109] (by decide +kernel) (by decide +kernel)
set_option maxRecDepth 20000 in
theorem gX7_about_X2_fact : GoodIn wsX7_about (wsV RX7 161 RX2 yX2_fact wsX2_fact) := goodIn_app (goodIn_of _ (by decide +kernel)) ggX7_about_X2_fact
theorem dX7_about_0 : decode cX7_about 0 = .ok (.iload_n 1, 1) := by decide +kernel
theorem dX7_about_1 : decode cX7_about 1 = .ok (.ifCond .lt 13, 3) := by decide +kernel
theorem dX7_about_4 : decode cX7_about 4 = .ok (.iload_n 2, 1) := by decide +kernel
theorem dX7_about_5 : decode cX7_about 5 = .ok (.ifCond .lt 9, 3) := by decide +kernel
theorem dX7_about_8 : decode cX7_about 8 = .ok (.iload_n 2, 1) := by decide +kernel
theorem dX7_about_9 : decode cX7_about 9 = .ok (.bipush 6, 2) := by decide +kernel
theorem dX7_about_11 : decode cX7_about 11 = .ok (.if_icmp .le 5, 3) := by decide +kernel
theorem dX7_about_14 : decode cX7_about 14 = .ok (.iconst (-1), 1) := by decide +kernel
theorem dX7_about_15 : decode cX7_about 15 = .ok (.ireturn, 1) := by decide +kernel
theorem dX7_about_16 : decode cX7_about 16 = .ok (.aload_n 0, 1) := by decide +kernel
theorem dX7_about_17 : decode cX7_about 17 = .ok (.invokevirtual 154, 3) := by decide +kernel
theorem dX7_about_20 : decode cX7_about 20 = .ok (.aload_n 0, 1) := by decide +kernel
theorem dX7_about_21 : decode cX7_about 21 = .ok (.getfield 36, 3) := by decide +kernel
theorem dX7_about_24 : decode cX7_about 24 = .ok (.getfield 157, 3) := by decide +kernel
theorem dX7_about_27 : decode cX7_about 27 = .ok (.ifCond .eq 6, 3) := by decide +kernel
theorem dX7_about_30 : decode cX7_about 30 = .ok (.bipush (-3), 2) := by decide +kernel
theorem dX7_about_32 : decode cX7_about 32 = .ok (.ireturn, 1) := by decide +kernel
theorem dX7_about_33 : decode cX7_about 33 = .ok (.iload_n 1, 1) := by decide +kernel
theorem dX7_about_34 : decode cX7_about 34 = .ok (.aload_n 0, 1) := by decide +kernel
theorem dX7_about_35 : decode cX7_about 35 = .ok (.getfield 36, 3) := by decide +kernel
theorem dX7_about_38 : decode cX7_about 38 = .ok (.getfield 160, 3) := by decide +kernel
theorem dX7_about_41 : decode cX7_about 41 = .ok (.if_icmp .ge 15, 3) := by decide +kernel
theorem dX7_about_44 : decode cX7_about 44 = .ok (.aload_n 0, 1) := by decide +kernel
theorem dX7_about_45 : decode cX7_about 45 = .ok (.getfield 36, 3) := by decide +kernel
theorem dX7_about_48 : decode cX7_about 48 = .ok (.iload_n 1, 1) := by decide +kernel
theorem dX7_about_49 : decode cX7_about 49 = .ok (.iload_n 2, 1) := by decide +kernel
theorem dX7_about_50 : decode cX7_about 50 = .ok (.invokevirtual 161, 3) := by decide +kernel
theorem dX7_about_53 : decode cX7_about 53 = .ok (.goto 4, 3) := by decide +kernel
theorem dX7_about_56 : decode cX7_about 56 = .ok (.iconst (-1), 1) := by decide +kernel
theorem dX7_about_57 : decode cX7_about 57 = .ok (.ireturn, 1) := by decide +kernel
set_option maxRecDepth 20000 in
theorem ggX7_letter_X7_isAmong : GoodIn wsX7_letter wsX7_isAmong := goodIn_r _ [7] (by decide +kernel) (by decide +kernel)
set_option maxRecDepth 20000 in
theorem gX7_letter_X7_isAmong : GoodIn wsX7_letter (va_wsS RX7 68 yX7_isAmong wsX7_isAmong) := goodIn_app (goodIn_of _ (by decide +kernel)) ggX7_letter_X7_isAmong
set_option maxRecDepth 20000 in
theorem ggX7_letter_X7_searchOnce : GoodIn wsX7_letter wsX7_searchOnce := goodIn_r _ [11, 12, 1, 13, 14, 15, 16, 17, 18, 19, 20, 21, 22, 23, 24, 25, 26, 27, 28, 29, 30, 31, 32, 33, 34, 35, 36, 37, 38, 39, 40, 41, 42, 43, 44, 45, 46, 47, 48, 49, 50, 51, 52, 53, 54, 55, 56, 57, 58, 59, 60, 61, 62, 63, 64, 65, 66, 67, 68, 69, 70, 71, 72, 73, 74, 75, 76, 77, 78, 79, 80, 81, 82, 83, 84, 85, 86, 87, 94, 95, 96, 97, 98, 99, 100, 101, 102, 103, 104, 105, 106, 107, 108, 109, 110, 111, 112, 113, 114, 115] (by decide +kernel) (by decide +kernel)
set_option maxRecDepth 20000 in
theorem gX7_letter_X7_searchOnce : GoodIn wsX7_letter (wsV RX7 154 RX7 yX7_searchOnce wsX7_searchOnce) := goodIn_app (goodIn_of _ (by decide +kernel)) ggX7_letter_X7_searchOnce
set_option maxRecDepth 20000 in
theorem ggX7_letter_X2_wordOf : GoodIn wsX7_letter wsX2_wordOf := goodIn_r _ [91, 30, 31, 102, 103, 104, 105, 106, 107, 108, 109] (by decide +kernel) (by decide +kernel)
set_option maxRecDepth 20000 in
theorem gX7_letter_X2_wordOf : GoodIn wsX7_letter (wsV RX7 164 RX2 yX2_wordOf wsX2_wordOf) := goodIn_app (goodIn_of _ (by decide +kernel)) ggX7_letter_X2_wordOf
set_option maxRecDepth 20000 in
theorem ggX7_letter_X6_size : GoodIn wsX7_letter wsX6_size := goodIn_r _ [57] (by decide +kernel) (by decide +kernel)
set_option maxRecDepth 20000 in
theorem gX7_letter_X6_size : GoodIn wsX7_letter (va_wsS RX7 138 yX6_size wsX6_size) := goodIn_app (goodIn_of _ (by decide +kernel)) ggX7_letter_X6_size
set_option maxRecDepth 20000 in
theorem ggX7_letter_X6_at : GoodIn wsX7_letter wsX6_at := goodIn_r _ [60] (by decide +kernel) (by decide +kernel)
set_option maxRecDepth 20000 in
theorem gX7_letter_X6_at : GoodIn wsX7_letter (va_wsS RX7 140 yX6_at wsX6_at) := goodIn_app (goodIn_of _ (by decide +kernel)) ggX7_letter_X6_at
theorem dX7_letter_0 : decode cX7_letter 0 = .ok (.iload_n 1, 1) := by decide +kernel
theorem dX7_letter_1 : decode cX7_letter 1 = .ok (.ifCond .lt 15, 3) := by decide +kernel
theorem dX7_letter_4 : decode cX7_letter 4 = .ok (.iload_n 3, 1) := by decide +kernel
theorem dX7_letter_5 : decode cX7_letter 5 = .ok (.ifCond .lt 11, 3) := by decide +kernel
theorem dX7_letter_8 : decode cX7_letter 8 = .ok (.iload_n 2, 1) := by decide +kernel
theorem dX7_letter_9 : decode cX7_letter 9 = .ok (.iconst 2, 1) := by decide +kernel
theorem dX7_letter_10 : decode cX7_letter 10 = .ok (.invokestatic 68, 3) := by decide +kernel
theorem dX7_letter_13 : decode cX7_letter 13 = .ok (.ifCond .ne 5, 3) := by decide +kernel
theorem dX7_letter_16 : decode cX7_letter 16 = .ok (.iconst (-1), 1) := by decide +kernel
theorem dX7_letter_17 : decode cX7_letter 17 = .ok (.ireturn, 1) := by decide +kernel
theorem dX7_letter_18 : decode cX7_letter 18 = .ok (.aload_n 0, 1) := by decide +kernel
theorem dX7_letter_19 : decode cX7_letter 19 = .ok (.invokevirtual 154, 3) := by decide +kernel
theorem dX7_letter_22 : decode cX7_letter 22 = .ok (.aload_n 0, 1) := by decide +kernel
theorem dX7_letter_23 : decode cX7_letter 23 = .ok (.getfield 36, 3) := by decide +kernel
theorem dX7_letter_26 : decode cX7_letter 26 = .ok (.getfield 157, 3) := by decide +kernel
theorem dX7_letter_29 : decode cX7_letter 29 = .ok (.ifCond .eq 6, 3) := by decide +kernel
theorem dX7_letter_32 : decode cX7_letter 32 = .ok (.bipush (-3), 2) := by decide +kernel
theorem dX7_letter_34 : decode cX7_letter 34 = .ok (.ireturn, 1) := by decide +kernel
theorem dX7_letter_35 : decode cX7_letter 35 = .ok (.iload_n 1, 1) := by decide +kernel
theorem dX7_letter_36 : decode cX7_letter 36 = .ok (.aload_n 0, 1) := by decide +kernel
theorem dX7_letter_37 : decode cX7_letter 37 = .ok (.getfield 36, 3) := by decide +kernel
theorem dX7_letter_40 : decode cX7_letter 40 = .ok (.getfield 160, 3) := by decide +kernel
theorem dX7_letter_43 : decode cX7_letter 43 = .ok (.if_icmp .lt 5, 3) := by decide +kernel
theorem dX7_letter_46 : decode cX7_letter 46 = .ok (.iconst (-1), 1) := by decide +kernel
theorem dX7_letter_47 : decode cX7_letter 47 = .ok (.ireturn, 1) := by decide +kernel
theorem dX7_letter_48 : decode cX7_letter 48 = .ok (.aload_n 0, 1) := by decide +kernel
theorem dX7_letter_49 : decode cX7_letter 49 = .ok (.getfield 36, 3) := by decide +kernel
theorem dX7_letter_52 : decode cX7_letter 52 = .ok (.iload_n 1, 1) := by decide +kernel
theorem dX7_letter_53 : decode cX7_letter 53 = .ok (.iload_n 2, 1) := by decide +kernel
theorem dX7_letter_54 : decode cX7_letter 54 = .ok (.invokevirtual 164, 3) := by decide +kernel
theorem dX7_letter_57 : decode cX7_letter 57 = .ok (.istore 4, 2) := by decide +kernel
theorem dX7_letter_59 : decode cX7_letter 59 = .ok (.iload_n 3, 1) := by decide +kernel
theorem dX7_letter_60 : decode cX7_letter 60 = .ok (.iload 4, 2) := by decide +kernel
theorem dX7_letter_62 : decode cX7_letter 62 = .ok (.invokestatic 138, 3) := by decide +kernel
theorem dX7_letter_65 : decode cX7_letter 65 = .ok (.if_icmp .ge 12, 3) := by decide +kernel
theorem dX7_letter_68 : decode cX7_letter 68 = .ok (.iload 4, 2) := by decide +kernel
theorem dX7_letter_70 : decode cX7_letter 70 = .ok (.iload_n 3, 1) := by decide +kernel
theorem dX7_letter_71 : decode cX7_letter 71 = .ok (.invokestatic 140, 3) := by decide +kernel
theorem dX7_letter_74 : decode cX7_letter 74 = .ok (.goto 4, 3) := by decide +kernel
theorem dX7_letter_77 : decode cX7_letter 77 = .ok (.iconst (-1), 1) := by decide +kernel
theorem dX7_letter_78 : decode cX7_letter 78 = .ok (.ireturn, 1) := by decide +kernel
set_option maxRecDepth 20000 in
theorem ggX7_least_X7_searchOnce : GoodIn wsX7_least wsX7_searchOnce := goodIn_r _ [7, 8, 1, 9, 10, 11, 12, 13, 14, 15, 16, 17, 18, 19, 20, 21, 22, 23, 24, 25, 26, 27, 28, 29, 30, 31, 32, 33, 34, 35, 36, 37, 38, 39, 40, 41, 42, 43, 44, 45, 46, 47, 48, 49, 50, 51, 52, 53, 54, 55, 56, 57, 58, 59, 60, 61, 62, 63, 64, 65, 66, 67, 68, 69, 70, 71, 72, 73, 74, 75, 76, 77, 78, 79, 80, 81, 82, 83, 92, 93, 94, 95, 96, 97, 98, 99, 100, 101, 102, 103, 104, 105, 106, 107, 108, 109, 110, 111, 112, 113] (by decide +kernel) (by decide +kernel)
set_option maxRecDepth 20000 in
theorem gX7_least_X7_searchOnce : GoodIn wsX7_least (wsV RX7 154 RX7 yX7_searchOnce wsX7_searchOnce) := goodIn_app (goodIn_of _ (by decide +kernel)) ggX7_least_X7_searchOnce
set_option maxRecDepth 20000 in
theorem ggX7_least_X2_countLeast : GoodIn wsX7_least wsX2_countLeast := goodIn_r _ [87, 16, 88, 89, 90, 14, 91, 21, 26, 27, 74, 75, 76, 77, 78, 79, 49, 80, 100, 101, 102, 103, 104, 105, 106, 107] (by decide +kernel) (by decide +kernel)
set_option maxRecDepth 20000 in
theorem gX7_least_X2_countLeast : GoodIn wsX7_least (wsV RX7 167 RX2 yX2_countLeast wsX2_countLeast) := goodIn_app (goodIn_of _ (by decide +kernel)) ggX7_least_X2_countLeast
theorem dX7_least_0 : decode cX7_least 0 = .ok (.aload_n 0, 1) := by decide +kernel
theorem dX7_least_1 : decode cX7_least 1 = .ok (.invokevirtual 154, 3) := by decide +kernel
theorem dX7_least_4 : decode cX7_least 4 = .ok (.aload_n 0, 1) := by decide +kernel
theorem dX7_least_5 : decode cX7_least 5 = .ok (.getfield 36, 3) := by decide +kernel
theorem dX7_least_8 : decode cX7_least 8 = .ok (.getfield 157, 3) := by decide +kernel
theorem dX7_least_11 : decode cX7_least 11 = .ok (.ifCond .eq 8, 3) := by decide +kernel
theorem dX7_least_14 : decode cX7_least 14 = .ok (.bipush (-3), 2) := by decide +kernel
theorem dX7_least_16 : decode cX7_least 16 = .ok (.goto 10, 3) := by decide +kernel
theorem dX7_least_19 : decode cX7_least 19 = .ok (.aload_n 0, 1) := by decide +kernel
theorem dX7_least_20 : decode cX7_least 20 = .ok (.getfield 36, 3) := by decide +kernel
theorem dX7_least_23 : decode cX7_least 23 = .ok (.invokevirtual 167, 3) := by decide +kernel
theorem dX7_least_26 : decode cX7_least 26 = .ok (.ireturn, 1) := by decide +kernel
set_option maxRecDepth 20000 in
theorem ggX7_far_X7_searchOnce : GoodIn wsX7_far wsX7_searchOnce := goodIn_r _ [11, 12, 1, 13, 14, 15, 16, 17, 18, 19, 20, 21, 22, 23, 24, 25, 26, 27, 28, 29, 30, 31, 32, 33, 34, 35, 36, 37, 38, 39, 40, 41, 42, 43, 44, 45, 46, 47, 48, 49, 50, 51, 52, 53, 54, 55, 56, 57, 58, 59, 60, 61, 62, 63, 64, 65, 66, 67, 68, 69, 70, 71, 72, 73, 74, 75, 76, 77, 78, 79, 80, 81, 82, 83, 84, 85, 86, 87, 89, 90, 91, 92, 93, 94, 95, 96, 97, 98, 99, 100, 101, 102, 103, 104, 105, 106, 107, 108, 109, 110] (by decide +kernel) (by decide +kernel)
set_option maxRecDepth 20000 in
theorem gX7_far_X7_searchOnce : GoodIn wsX7_far (wsV RX7 154 RX7 yX7_searchOnce wsX7_searchOnce) := goodIn_app (goodIn_of _ (by decide +kernel)) ggX7_far_X7_searchOnce
set_option maxRecDepth 20000 in
theorem ggX7_far_X2_firstBelow : GoodIn wsX7_far wsX2_firstBelow := goodIn_r _ [77, 20, 78, 79, 80, 18, 81, 25, 30, 31, 82, 83, 53, 84, 97, 98, 99, 100, 101, 102, 103, 104] (by decide +kernel) (by decide +kernel)
set_option maxRecDepth 20000 in
theorem gX7_far_X2_firstBelow : GoodIn wsX7_far (wsV RX7 171 RX2 yX2_firstBelow wsX2_firstBelow) := goodIn_app (goodIn_of _ (by decide +kernel)) ggX7_far_X2_firstBelow
theorem dX7_far_0 : decode cX7_far 0 = .ok (.aload_n 0, 1) := by decide +kernel
theorem dX7_far_1 : decode cX7_far 1 = .ok (.invokevirtual 154, 3) := by decide +kernel
theorem dX7_far_4 : decode cX7_far 4 = .ok (.aload_n 0, 1) := by decide +kernel
theorem dX7_far_5 : decode cX7_far 5 = .ok (.getfield 36, 3) := by decide +kernel
theorem dX7_far_8 : decode cX7_far 8 = .ok (.getfield 157, 3) := by decide +kernel
theorem dX7_far_11 : decode cX7_far 11 = .ok (.ifCond .eq 6, 3) := by decide +kernel
theorem dX7_far_14 : decode cX7_far 14 = .ok (.bipush (-3), 2) := by decide +kernel
theorem dX7_far_16 : decode cX7_far 16 = .ok (.ireturn, 1) := by decide +kernel
theorem dX7_far_17 : decode cX7_far 17 = .ok (.aload_n 0, 1) := by decide +kernel
theorem dX7_far_18 : decode cX7_far 18 = .ok (.getfield 36, 3) := by decide +kernel
theorem dX7_far_21 : decode cX7_far 21 = .ok (.aload_n 0, 1) := by decide +kernel
theorem dX7_far_22 : decode cX7_far 22 = .ok (.getfield 26, 3) := by decide +kernel
theorem dX7_far_25 : decode cX7_far 25 = .ok (.getfield 124, 3) := by decide +kernel
theorem dX7_far_28 : decode cX7_far 28 = .ok (.aload_n 0, 1) := by decide +kernel
theorem dX7_far_29 : decode cX7_far 29 = .ok (.getfield 26, 3) := by decide +kernel
theorem dX7_far_32 : decode cX7_far 32 = .ok (.getfield 127, 3) := by decide +kernel
theorem dX7_far_35 : decode cX7_far 35 = .ok (.iconst 0, 1) := by decide +kernel
theorem dX7_far_36 : decode cX7_far 36 = .ok (.iaload, 1) := by decide +kernel
theorem dX7_far_37 : decode cX7_far 37 = .ok (.aload_n 0, 1) := by decide +kernel
theorem dX7_far_38 : decode cX7_far 38 = .ok (.getfield 26, 3) := by decide +kernel
theorem dX7_far_41 : decode cX7_far 41 = .ok (.getfield 127, 3) := by decide +kernel
theorem dX7_far_44 : decode cX7_far 44 = .ok (.iconst 1, 1) := by decide +kernel
theorem dX7_far_45 : decode cX7_far 45 = .ok (.iaload, 1) := by decide +kernel
theorem dX7_far_46 : decode cX7_far 46 = .ok (.invokevirtual 171, 3) := by decide +kernel
theorem dX7_far_49 : decode cX7_far 49 = .ok (.istore_n 1, 1) := by decide +kernel
theorem dX7_far_50 : decode cX7_far 50 = .ok (.iload_n 1, 1) := by decide +kernel
theorem dX7_far_51 : decode cX7_far 51 = .ok (.ifCond .ge 8, 3) := by decide +kernel
theorem dX7_far_54 : decode cX7_far 54 = .ok (.bipush (-4), 2) := by decide +kernel
theorem dX7_far_56 : decode cX7_far 56 = .ok (.goto 12, 3) := by decide +kernel
theorem dX7_far_59 : decode cX7_far 59 = .ok (.aload_n 0, 1) := by decide +kernel
theorem dX7_far_60 : decode cX7_far 60 = .ok (.getfield 36, 3) := by decide +kernel
theorem dX7_far_63 : decode cX7_far 63 = .ok (.getfield 174, 3) := by decide +kernel
theorem dX7_far_66 : decode cX7_far 66 = .ok (.iload_n 1, 1) := by decide +kernel
theorem dX7_far_67 : decode cX7_far 67 = .ok (.iaload, 1) := by decide +kernel
theorem dX7_far_68 : decode cX7_far 68 = .ok (.ireturn, 1) := by decide +kernel
set_option maxRecDepth 20000 in
theorem ggX7_way_X7_searchOnce : GoodIn wsX7_way wsX7_searchOnce := goodIn_r _ [11, 12, 1, 13, 14, 15, 16, 17, 18, 19, 20, 21, 22, 23, 24, 25, 26, 27, 28, 29, 30, 31, 32, 33, 34, 35, 36, 37, 38, 39, 40, 41, 42, 43, 44, 45, 46, 47, 48, 49, 50, 51, 52, 53, 54, 55, 56, 57, 58, 59, 60, 61, 62, 63, 64, 65, 66, 67, 68, 69, 70, 71, 72, 73, 74, 75, 76, 77, 78, 79, 80, 81, 82, 83, 84, 85, 86, 87, 93, 94, 95, 96, 97, 98, 99, 100, 101, 102, 103, 104, 105, 106, 107, 108, 109, 110, 111, 112, 113, 114] (by decide +kernel) (by decide +kernel)
set_option maxRecDepth 20000 in
theorem gX7_way_X7_searchOnce : GoodIn wsX7_way (wsV RX7 154 RX7 yX7_searchOnce wsX7_searchOnce) := goodIn_app (goodIn_of _ (by decide +kernel)) ggX7_way_X7_searchOnce
set_option maxRecDepth 20000 in
theorem ggX7_way_X2_firstBelow : GoodIn wsX7_way wsX2_firstBelow := goodIn_r _ [77, 20, 78, 79, 80, 18, 81, 25, 30, 31, 82, 83, 53, 84, 101, 102, 103, 104, 105, 106, 107, 108] (by decide +kernel) (by decide +kernel)
set_option maxRecDepth 20000 in
theorem gX7_way_X2_firstBelow : GoodIn wsX7_way (wsV RX7 171 RX2 yX2_firstBelow wsX2_firstBelow) := goodIn_app (goodIn_of _ (by decide +kernel)) ggX7_way_X2_firstBelow
set_option maxRecDepth 20000 in
theorem ggX7_way_X2_arcOfWay : GoodIn wsX7_way wsX2_arcOfWay := goodIn_r _ [92, 33, 32, 101, 102, 103, 104, 105, 106, 107, 108] (by decide +kernel) (by decide +kernel)
set_option maxRecDepth 20000 in
theorem gX7_way_X2_arcOfWay : GoodIn wsX7_way (wsV RX7 177 RX2 yX2_arcOfWay wsX2_arcOfWay) := goodIn_app (goodIn_of _ (by decide +kernel)) ggX7_way_X2_arcOfWay
theorem dX7_way_0 : decode cX7_way 0 = .ok (.iload_n 1, 1) := by decide +kernel
theorem dX7_way_1 : decode cX7_way 1 = .ok (.ifCond .ge 5, 3) := by decide +kernel
theorem dX7_way_4 : decode cX7_way 4 = .ok (.iconst (-1), 1) := by decide +kernel
theorem dX7_way_5 : decode cX7_way 5 = .ok (.ireturn, 1) := by decide +kernel
theorem dX7_way_6 : decode cX7_way 6 = .ok (.aload_n 0, 1) := by decide +kernel
theorem dX7_way_7 : decode cX7_way 7 = .ok (.invokevirtual 154, 3) := by decide +kernel
theorem dX7_way_10 : decode cX7_way 10 = .ok (.aload_n 0, 1) := by decide +kernel
theorem dX7_way_11 : decode cX7_way 11 = .ok (.getfield 36, 3) := by decide +kernel
theorem dX7_way_14 : decode cX7_way 14 = .ok (.getfield 157, 3) := by decide +kernel
theorem dX7_way_17 : decode cX7_way 17 = .ok (.ifCond .eq 6, 3) := by decide +kernel
theorem dX7_way_20 : decode cX7_way 20 = .ok (.bipush (-3), 2) := by decide +kernel
theorem dX7_way_22 : decode cX7_way 22 = .ok (.ireturn, 1) := by decide +kernel
theorem dX7_way_23 : decode cX7_way 23 = .ok (.aload_n 0, 1) := by decide +kernel
theorem dX7_way_24 : decode cX7_way 24 = .ok (.getfield 36, 3) := by decide +kernel
theorem dX7_way_27 : decode cX7_way 27 = .ok (.aload_n 0, 1) := by decide +kernel
theorem dX7_way_28 : decode cX7_way 28 = .ok (.getfield 26, 3) := by decide +kernel
theorem dX7_way_31 : decode cX7_way 31 = .ok (.getfield 124, 3) := by decide +kernel
theorem dX7_way_34 : decode cX7_way 34 = .ok (.aload_n 0, 1) := by decide +kernel
theorem dX7_way_35 : decode cX7_way 35 = .ok (.getfield 26, 3) := by decide +kernel
theorem dX7_way_38 : decode cX7_way 38 = .ok (.getfield 127, 3) := by decide +kernel
theorem dX7_way_41 : decode cX7_way 41 = .ok (.iconst 0, 1) := by decide +kernel
theorem dX7_way_42 : decode cX7_way 42 = .ok (.iaload, 1) := by decide +kernel
theorem dX7_way_43 : decode cX7_way 43 = .ok (.aload_n 0, 1) := by decide +kernel
theorem dX7_way_44 : decode cX7_way 44 = .ok (.getfield 26, 3) := by decide +kernel
theorem dX7_way_47 : decode cX7_way 47 = .ok (.getfield 127, 3) := by decide +kernel
theorem dX7_way_50 : decode cX7_way 50 = .ok (.iconst 1, 1) := by decide +kernel
theorem dX7_way_51 : decode cX7_way 51 = .ok (.iaload, 1) := by decide +kernel
theorem dX7_way_52 : decode cX7_way 52 = .ok (.invokevirtual 171, 3) := by decide +kernel
theorem dX7_way_55 : decode cX7_way 55 = .ok (.istore_n 2, 1) := by decide +kernel
theorem dX7_way_56 : decode cX7_way 56 = .ok (.iload_n 2, 1) := by decide +kernel
theorem dX7_way_57 : decode cX7_way 57 = .ok (.ifCond .ge 6, 3) := by decide +kernel
theorem dX7_way_60 : decode cX7_way 60 = .ok (.bipush (-4), 2) := by decide +kernel
theorem dX7_way_62 : decode cX7_way 62 = .ok (.ireturn, 1) := by decide +kernel
theorem dX7_way_63 : decode cX7_way 63 = .ok (.iload_n 1, 1) := by decide +kernel
theorem dX7_way_64 : decode cX7_way 64 = .ok (.aload_n 0, 1) := by decide +kernel
theorem dX7_way_65 : decode cX7_way 65 = .ok (.getfield 36, 3) := by decide +kernel
theorem dX7_way_68 : decode cX7_way 68 = .ok (.getfield 174, 3) := by decide +kernel
theorem dX7_way_71 : decode cX7_way 71 = .ok (.iload_n 2, 1) := by decide +kernel
theorem dX7_way_72 : decode cX7_way 72 = .ok (.iaload, 1) := by decide +kernel
theorem dX7_way_73 : decode cX7_way 73 = .ok (.if_icmp .ge 15, 3) := by decide +kernel
theorem dX7_way_76 : decode cX7_way 76 = .ok (.aload_n 0, 1) := by decide +kernel
theorem dX7_way_77 : decode cX7_way 77 = .ok (.getfield 36, 3) := by decide +kernel
theorem dX7_way_80 : decode cX7_way 80 = .ok (.iload_n 2, 1) := by decide +kernel
theorem dX7_way_81 : decode cX7_way 81 = .ok (.iload_n 1, 1) := by decide +kernel
theorem dX7_way_82 : decode cX7_way 82 = .ok (.invokevirtual 177, 3) := by decide +kernel
theorem dX7_way_85 : decode cX7_way 85 = .ok (.goto 4, 3) := by decide +kernel
theorem dX7_way_88 : decode cX7_way 88 = .ok (.iconst (-1), 1) := by decide +kernel
theorem dX7_way_89 : decode cX7_way 89 = .ok (.ireturn, 1) := by decide +kernel
set_option maxRecDepth 20000 in
theorem ggX7_strict_X1_isLonger : GoodIn wsX7_strict wsX1_isLonger := goodIn_r _ [9, 10, 11, 12, 13, 14, 94, 95] (by decide +kernel) (by decide +kernel)
set_option maxRecDepth 20000 in
theorem gX7_strict_X1_isLonger : GoodIn wsX7_strict (wsV RX7 180 RX1 yX1_isLonger wsX1_isLonger) := goodIn_app (goodIn_of _ (by decide +kernel)) ggX7_strict_X1_isLonger
set_option maxRecDepth 20000 in
theorem ggX7_strict_X5_fewest : GoodIn wsX7_strict wsX5_fewest := goodIn_r _ [19, 20, 21, 22, 23, 24, 25, 26, 27, 28, 29, 30, 31, 18, 32, 33, 34, 35, 36, 37, 38, 39, 40, 41, 42, 43, 13, 44, 45, 46, 47, 48, 49, 50, 51, 52, 53, 54, 55, 56, 57, 58, 59, 60, 61, 62, 63, 64, 65, 66, 67, 68, 69, 70, 71, 72, 73, 74, 75, 76, 77, 78, 79, 80, 81, 82, 83, 84, 85, 12, 14, 96, 97, 98, 94, 95, 99, 100, 101, 102] (by decide +kernel) (by decide +kernel)
set_option maxRecDepth 20000 in
theorem gX7_strict_X5_fewest : GoodIn wsX7_strict (wsV RX7 183 RX5 yX5_fewest wsX5_fewest) := goodIn_app (goodIn_of _ (by decide +kernel)) ggX7_strict_X5_fewest
theorem dX7_strict_0 : decode cX7_strict 0 = .ok (.iload_n 1, 1) := by decide +kernel
theorem dX7_strict_1 : decode cX7_strict 1 = .ok (.ifCond .lt 8, 3) := by decide +kernel
theorem dX7_strict_4 : decode cX7_strict 4 = .ok (.iload_n 1, 1) := by decide +kernel
theorem dX7_strict_5 : decode cX7_strict 5 = .ok (.iconst 3, 1) := by decide +kernel
theorem dX7_strict_6 : decode cX7_strict 6 = .ok (.if_icmp .le 5, 3) := by decide +kernel
theorem dX7_strict_9 : decode cX7_strict 9 = .ok (.iconst (-1), 1) := by decide +kernel
theorem dX7_strict_10 : decode cX7_strict 10 = .ok (.ireturn, 1) := by decide +kernel
theorem dX7_strict_11 : decode cX7_strict 11 = .ok (.aload_n 0, 1) := by decide +kernel
theorem dX7_strict_12 : decode cX7_strict 12 = .ok (.getfield 26, 3) := by decide +kernel
theorem dX7_strict_15 : decode cX7_strict 15 = .ok (.iload_n 1, 1) := by decide +kernel
theorem dX7_strict_16 : decode cX7_strict 16 = .ok (.invokevirtual 180, 3) := by decide +kernel
theorem dX7_strict_19 : decode cX7_strict 19 = .ok (.ifCond .ne 14, 3) := by decide +kernel
theorem dX7_strict_22 : decode cX7_strict 22 = .ok (.aload_n 0, 1) := by decide +kernel
theorem dX7_strict_23 : decode cX7_strict 23 = .ok (.getfield 30, 3) := by decide +kernel
theorem dX7_strict_26 : decode cX7_strict 26 = .ok (.iload_n 1, 1) := by decide +kernel
theorem dX7_strict_27 : decode cX7_strict 27 = .ok (.invokevirtual 180, 3) := by decide +kernel
theorem dX7_strict_30 : decode cX7_strict 30 = .ok (.ifCond .eq 6, 3) := by decide +kernel
theorem dX7_strict_33 : decode cX7_strict 33 = .ok (.bipush (-2), 2) := by decide +kernel
theorem dX7_strict_35 : decode cX7_strict 35 = .ok (.ireturn, 1) := by decide +kernel
theorem dX7_strict_36 : decode cX7_strict 36 = .ok (.aload_n 0, 1) := by decide +kernel
theorem dX7_strict_37 : decode cX7_strict 37 = .ok (.getfield 43, 3) := by decide +kernel
theorem dX7_strict_40 : decode cX7_strict 40 = .ok (.aload_n 0, 1) := by decide +kernel
theorem dX7_strict_41 : decode cX7_strict 41 = .ok (.getfield 10, 3) := by decide +kernel
theorem dX7_strict_44 : decode cX7_strict 44 = .ok (.aload_n 0, 1) := by decide +kernel
theorem dX7_strict_45 : decode cX7_strict 45 = .ok (.getfield 26, 3) := by decide +kernel
theorem dX7_strict_48 : decode cX7_strict 48 = .ok (.aload_n 0, 1) := by decide +kernel
theorem dX7_strict_49 : decode cX7_strict 49 = .ok (.getfield 30, 3) := by decide +kernel
theorem dX7_strict_52 : decode cX7_strict 52 = .ok (.iload_n 1, 1) := by decide +kernel
theorem dX7_strict_53 : decode cX7_strict 53 = .ok (.invokevirtual 183, 3) := by decide +kernel
theorem dX7_strict_56 : decode cX7_strict 56 = .ok (.ireturn, 1) := by decide +kernel
set_option maxRecDepth 20000 in
theorem ggX7_sheet_X7_isAmong : GoodIn wsX7_sheet wsX7_isAmong := goodIn_r _ [5] (by decide +kernel) (by decide +kernel)
set_option maxRecDepth 20000 in
theorem gX7_sheet_X7_isAmong : GoodIn wsX7_sheet (va_wsS RX7 68 yX7_isAmong wsX7_isAmong) := goodIn_app (goodIn_of _ (by decide +kernel)) ggX7_sheet_X7_isAmong
set_option maxRecDepth 20000 in
theorem ggX7_sheet_X3_hold : GoodIn wsX7_sheet wsX3_hold := goodIn_r _ [10, 11, 12, 13, 14, 15, 16, 17, 18, 27, 28, 29, 30] (by decide +kernel) (by decide +kernel)
set_option maxRecDepth 20000 in
theorem gX7_sheet_X3_hold : GoodIn wsX7_sheet (wsV RX7 187 RX3 yX3_hold wsX3_hold) := goodIn_app (goodIn_of _ (by decide +kernel)) ggX7_sheet_X3_hold
theorem dX7_sheet_0 : decode cX7_sheet 0 = .ok (.iload_n 1, 1) := by decide +kernel
theorem dX7_sheet_1 : decode cX7_sheet 1 = .ok (.iconst 2, 1) := by decide +kernel
theorem dX7_sheet_2 : decode cX7_sheet 2 = .ok (.invokestatic 68, 3) := by decide +kernel
theorem dX7_sheet_5 : decode cX7_sheet 5 = .ok (.ifCond .eq 17, 3) := by decide +kernel
theorem dX7_sheet_8 : decode cX7_sheet 8 = .ok (.iload_n 2, 1) := by decide +kernel
theorem dX7_sheet_9 : decode cX7_sheet 9 = .ok (.iconst 2, 1) := by decide +kernel
theorem dX7_sheet_10 : decode cX7_sheet 10 = .ok (.invokestatic 68, 3) := by decide +kernel
theorem dX7_sheet_13 : decode cX7_sheet 13 = .ok (.ifCond .eq 9, 3) := by decide +kernel
theorem dX7_sheet_16 : decode cX7_sheet 16 = .ok (.iload_n 3, 1) := by decide +kernel
theorem dX7_sheet_17 : decode cX7_sheet 17 = .ok (.bipush 60, 2) := by decide +kernel
theorem dX7_sheet_19 : decode cX7_sheet 19 = .ok (.if_icmp .le 5, 3) := by decide +kernel
theorem dX7_sheet_22 : decode cX7_sheet 22 = .ok (.iconst (-1), 1) := by decide +kernel
theorem dX7_sheet_23 : decode cX7_sheet 23 = .ok (.ireturn, 1) := by decide +kernel
theorem dX7_sheet_24 : decode cX7_sheet 24 = .ok (.iload_n 3, 1) := by decide +kernel
theorem dX7_sheet_25 : decode cX7_sheet 25 = .ok (.ifCond .ge 6, 3) := by decide +kernel
theorem dX7_sheet_28 : decode cX7_sheet 28 = .ok (.bipush (-14), 2) := by decide +kernel
theorem dX7_sheet_30 : decode cX7_sheet 30 = .ok (.ireturn, 1) := by decide +kernel
theorem dX7_sheet_31 : decode cX7_sheet 31 = .ok (.aload_n 0, 1) := by decide +kernel
theorem dX7_sheet_32 : decode cX7_sheet 32 = .ok (.getfield 50, 3) := by decide +kernel
theorem dX7_sheet_35 : decode cX7_sheet 35 = .ok (.iload_n 1, 1) := by decide +kernel
theorem dX7_sheet_36 : decode cX7_sheet 36 = .ok (.aaload, 1) := by decide +kernel
theorem dX7_sheet_37 : decode cX7_sheet 37 = .ok (.iload_n 2, 1) := by decide +kernel
theorem dX7_sheet_38 : decode cX7_sheet 38 = .ok (.iload_n 3, 1) := by decide +kernel
theorem dX7_sheet_39 : decode cX7_sheet 39 = .ok (.invokevirtual 187, 3) := by decide +kernel
theorem dX7_sheet_42 : decode cX7_sheet 42 = .ok (.iload_n 3, 1) := by decide +kernel
theorem dX7_sheet_43 : decode cX7_sheet 43 = .ok (.ireturn, 1) := by decide +kernel
set_option maxRecDepth 20000 in
theorem ggX7_drop_X7_isAmong : GoodIn wsX7_drop wsX7_isAmong := goodIn_r _ [7] (by decide +kernel) (by decide +kernel)
set_option maxRecDepth 20000 in
theorem gX7_drop_X7_isAmong : GoodIn wsX7_drop (va_wsS RX7 68 yX7_isAmong wsX7_isAmong) := goodIn_app (goodIn_of _ (by decide +kernel)) ggX7_drop_X7_isAmong
theorem dX7_drop_0 : decode cX7_drop 0 = .ok (.iload_n 1, 1) := by decide +kernel
theorem dX7_drop_1 : decode cX7_drop 1 = .ok (.iconst 2, 1) := by decide +kernel
theorem dX7_drop_2 : decode cX7_drop 2 = .ok (.invokestatic 68, 3) := by decide +kernel
theorem dX7_drop_5 : decode cX7_drop 5 = .ok (.ifCond .ne 5, 3) := by decide +kernel
theorem dX7_drop_8 : decode cX7_drop 8 = .ok (.iconst (-1), 1) := by decide +kernel
theorem dX7_drop_9 : decode cX7_drop 9 = .ok (.ireturn, 1) := by decide +kernel
theorem dX7_drop_10 : decode cX7_drop 10 = .ok (.aload_n 0, 1) := by decide +kernel
theorem dX7_drop_11 : decode cX7_drop 11 = .ok (.getfield 50, 3) := by decide +kernel
theorem dX7_drop_14 : decode cX7_drop 14 = .ok (.iload_n 1, 1) := by decide +kernel
theorem dX7_drop_15 : decode cX7_drop 15 = .ok (.aaload, 1) := by decide +kernel
theorem dX7_drop_16 : decode cX7_drop 16 = .ok (.getfield 191, 3) := by decide +kernel
theorem dX7_drop_19 : decode cX7_drop 19 = .ok (.ifCond .ne 6, 3) := by decide +kernel
theorem dX7_drop_22 : decode cX7_drop 22 = .ok (.bipush (-11), 2) := by decide +kernel
theorem dX7_drop_24 : decode cX7_drop 24 = .ok (.ireturn, 1) := by decide +kernel
theorem dX7_drop_25 : decode cX7_drop 25 = .ok (.aload_n 0, 1) := by decide +kernel
theorem dX7_drop_26 : decode cX7_drop 26 = .ok (.getfield 50, 3) := by decide +kernel
theorem dX7_drop_29 : decode cX7_drop 29 = .ok (.iload_n 1, 1) := by decide +kernel
theorem dX7_drop_30 : decode cX7_drop 30 = .ok (.aaload, 1) := by decide +kernel
theorem dX7_drop_31 : decode cX7_drop 31 = .ok (.iconst 0, 1) := by decide +kernel
theorem dX7_drop_32 : decode cX7_drop 32 = .ok (.putfield 191, 3) := by decide +kernel
theorem dX7_drop_35 : decode cX7_drop 35 = .ok (.aload_n 0, 1) := by decide +kernel
theorem dX7_drop_36 : decode cX7_drop 36 = .ok (.getfield 50, 3) := by decide +kernel
theorem dX7_drop_39 : decode cX7_drop 39 = .ok (.iload_n 1, 1) := by decide +kernel
theorem dX7_drop_40 : decode cX7_drop 40 = .ok (.aaload, 1) := by decide +kernel
theorem dX7_drop_41 : decode cX7_drop 41 = .ok (.getfield 112, 3) := by decide +kernel
theorem dX7_drop_44 : decode cX7_drop 44 = .ok (.ireturn, 1) := by decide +kernel
set_option maxRecDepth 20000 in
theorem ggX7_item_X7_isAmong : GoodIn wsX7_item wsX7_isAmong := goodIn_r _ [6] (by decide +kernel) (by decide +kernel)
set_option maxRecDepth 20000 in
theorem gX7_item_X7_isAmong : GoodIn wsX7_item (va_wsS RX7 68 yX7_isAmong wsX7_isAmong) := goodIn_app (goodIn_of _ (by decide +kernel)) ggX7_item_X7_isAmong
set_option maxRecDepth 20000 in
theorem ggX7_item_X3_faultAs : GoodIn wsX7_item wsX3_faultAs := goodIn_r _ [11, 12, 13, 27, 28, 29, 30] (by decide +kernel) (by decide +kernel)
set_option maxRecDepth 20000 in
theorem gX7_item_X3_faultAs : GoodIn wsX7_item (wsV RX7 109 RX3 yX3_faultAs wsX3_faultAs) := goodIn_app (goodIn_of _ (by decide +kernel)) ggX7_item_X3_faultAs
set_option maxRecDepth 20000 in
theorem ggX7_item_X3_put : GoodIn wsX7_item wsX3_put := goodIn_r _ [17, 18, 13, 27, 28, 29, 30] (by decide +kernel) (by decide +kernel)
set_option maxRecDepth 20000 in
theorem gX7_item_X3_put : GoodIn wsX7_item (wsV RX7 194 RX3 yX3_put wsX3_put) := goodIn_app (goodIn_of _ (by decide +kernel)) ggX7_item_X3_put
theorem dX7_item_0 : decode cX7_item 0 = .ok (.iload_n 1, 1) := by decide +kernel
theorem dX7_item_1 : decode cX7_item 1 = .ok (.iconst 2, 1) := by decide +kernel
theorem dX7_item_2 : decode cX7_item 2 = .ok (.invokestatic 68, 3) := by decide +kernel
theorem dX7_item_5 : decode cX7_item 5 = .ok (.ifCond .eq 11, 3) := by decide +kernel
theorem dX7_item_8 : decode cX7_item 8 = .ok (.iload_n 2, 1) := by decide +kernel
theorem dX7_item_9 : decode cX7_item 9 = .ok (.iconst 2, 1) := by decide +kernel
theorem dX7_item_10 : decode cX7_item 10 = .ok (.invokestatic 68, 3) := by decide +kernel
theorem dX7_item_13 : decode cX7_item 13 = .ok (.ifCond .ne 5, 3) := by decide +kernel
theorem dX7_item_16 : decode cX7_item 16 = .ok (.iconst (-1), 1) := by decide +kernel
theorem dX7_item_17 : decode cX7_item 17 = .ok (.ireturn, 1) := by decide +kernel
theorem dX7_item_18 : decode cX7_item 18 = .ok (.aload_n 0, 1) := by decide +kernel
theorem dX7_item_19 : decode cX7_item 19 = .ok (.getfield 50, 3) := by decide +kernel
theorem dX7_item_22 : decode cX7_item 22 = .ok (.iload_n 1, 1) := by decide +kernel
theorem dX7_item_23 : decode cX7_item 23 = .ok (.aaload, 1) := by decide +kernel
theorem dX7_item_24 : decode cX7_item 24 = .ok (.astore 5, 2) := by decide +kernel
theorem dX7_item_26 : decode cX7_item 26 = .ok (.aload 5, 2) := by decide +kernel
theorem dX7_item_28 : decode cX7_item 28 = .ok (.iload_n 2, 1) := by decide +kernel
theorem dX7_item_29 : decode cX7_item 29 = .ok (.invokevirtual 109, 3) := by decide +kernel
theorem dX7_item_32 : decode cX7_item 32 = .ok (.istore 6, 2) := by decide +kernel
theorem dX7_item_34 : decode cX7_item 34 = .ok (.iload 6, 2) := by decide +kernel
theorem dX7_item_36 : decode cX7_item 36 = .ok (.ifCond .eq 6, 3) := by decide +kernel
theorem dX7_item_39 : decode cX7_item 39 = .ok (.iload 6, 2) := by decide +kernel
theorem dX7_item_41 : decode cX7_item 41 = .ok (.ireturn, 1) := by decide +kernel
theorem dX7_item_42 : decode cX7_item 42 = .ok (.iload_n 3, 1) := by decide +kernel
theorem dX7_item_43 : decode cX7_item 43 = .ok (.aload 5, 2) := by decide +kernel
theorem dX7_item_45 : decode cX7_item 45 = .ok (.getfield 112, 3) := by decide +kernel
theorem dX7_item_48 : decode cX7_item 48 = .ok (.invokestatic 68, 3) := by decide +kernel
theorem dX7_item_51 : decode cX7_item 51 = .ok (.ifCond .ne 6, 3) := by decide +kernel
theorem dX7_item_54 : decode cX7_item 54 = .ok (.bipush (-13), 2) := by decide +kernel
theorem dX7_item_56 : decode cX7_item 56 = .ok (.ireturn, 1) := by decide +kernel
theorem dX7_item_57 : decode cX7_item 57 = .ok (.aload 5, 2) := by decide +kernel
theorem dX7_item_59 : decode cX7_item 59 = .ok (.iload_n 3, 1) := by decide +kernel
theorem dX7_item_60 : decode cX7_item 60 = .ok (.iload 4, 2) := by decide +kernel
theorem dX7_item_62 : decode cX7_item 62 = .ok (.invokevirtual 194, 3) := by decide +kernel
theorem dX7_item_65 : decode cX7_item 65 = .ok (.iconst 1, 1) := by decide +kernel
theorem dX7_item_66 : decode cX7_item 66 = .ok (.ireturn, 1) := by decide +kernel
theorem dX7_isAmong_0 : decode cX7_isAmong 0 = .ok (.iload_n 0, 1) := by decide +kernel
theorem dX7_isAmong_1 : decode cX7_isAmong 1 = .ok (.ifCond .lt 12, 3) := by decide +kernel
theorem dX7_isAmong_4 : decode cX7_isAmong 4 = .ok (.iload_n 0, 1) := by decide +kernel
theorem dX7_isAmong_5 : decode cX7_isAmong 5 = .ok (.iload_n 1, 1) := by decide +kernel
theorem dX7_isAmong_6 : decode cX7_isAmong 6 = .ok (.if_icmp .ge 7, 3) := by decide +kernel
theorem dX7_isAmong_9 : decode cX7_isAmong 9 = .ok (.iconst 1, 1) := by decide +kernel
theorem dX7_isAmong_10 : decode cX7_isAmong 10 = .ok (.goto 4, 3) := by decide +kernel
theorem dX7_isAmong_13 : decode cX7_isAmong 13 = .ok (.iconst 0, 1) := by decide +kernel
theorem dX7_isAmong_14 : decode cX7_isAmong 14 = .ok (.ireturn, 1) := by decide +kernel
set_option maxRecDepth 20000 in
theorem ggX7_startAgain_X1_clear : GoodIn wsX7_startAgain wsX1_clear := goodIn_r _ [7, 8, 9, 18, 19] (by decide +kernel) (by decide +kernel)
set_option maxRecDepth 20000 in
theorem gX7_startAgain_X1_clear : GoodIn wsX7_startAgain (wsV RX7 61 RX1 yX1_clear wsX1_clear) := goodIn_app (goodIn_of _ (by decide +kernel)) ggX7_startAgain_X1_clear
theorem dX7_startAgain_0 : decode cX7_startAgain 0 = .ok (.aload_n 0, 1) := by decide +kernel
theorem dX7_startAgain_1 : decode cX7_startAgain 1 = .ok (.getfield 26, 3) := by decide +kernel
theorem dX7_startAgain_4 : decode cX7_startAgain 4 = .ok (.iconst 0, 1) := by decide +kernel
theorem dX7_startAgain_5 : decode cX7_startAgain 5 = .ok (.invokevirtual 61, 3) := by decide +kernel
theorem dX7_startAgain_8 : decode cX7_startAgain 8 = .ok (.aload_n 0, 1) := by decide +kernel
theorem dX7_startAgain_9 : decode cX7_startAgain 9 = .ok (.iconst 0, 1) := by decide +kernel
theorem dX7_startAgain_10 : decode cX7_startAgain 10 = .ok (.putfield 146, 3) := by decide +kernel
theorem dX7_startAgain_13 : decode cX7_startAgain 13 = .ok (.return_, 1) := by decide +kernel
set_option maxRecDepth 20000 in
theorem ggX7_searchOnce_X2_run : GoodIn wsX7_searchOnce wsX2_run := goodIn_r _ [9, 10, 11, 12, 13, 14, 15, 16, 17, 18, 8, 19, 20, 21, 22, 23, 24, 25, 26, 27, 28, 29, 30, 31, 32, 33, 34, 35, 36, 37, 38, 39, 40, 41, 42, 43, 44, 45, 46, 47, 48, 49, 50, 51, 52, 53, 54, 55, 56, 57, 58, 59, 60, 61, 62, 63, 64, 65, 66, 67, 68, 69, 70, 71, 72, 73, 74, 75, 76, 77, 86, 87, 88, 89, 90, 91, 92, 93, 94, 95, 96, 97, 98, 99] (by decide +kernel) (by decide +kernel)
set_option maxRecDepth 20000 in
theorem gX7_searchOnce_X2_run : GoodIn wsX7_searchOnce (wsV RX7 197 RX2 yX2_run wsX2_run) := goodIn_app (goodIn_of _ (by decide +kernel)) ggX7_searchOnce_X2_run
theorem dX7_searchOnce_0 : decode cX7_searchOnce 0 = .ok (.aload_n 0, 1) := by decide +kernel
theorem dX7_searchOnce_1 : decode cX7_searchOnce 1 = .ok (.getfield 146, 3) := by decide +kernel
theorem dX7_searchOnce_4 : decode cX7_searchOnce 4 = .ok (.ifCond .ne 23, 3) := by decide +kernel
theorem dX7_searchOnce_7 : decode cX7_searchOnce 7 = .ok (.aload_n 0, 1) := by decide +kernel
theorem dX7_searchOnce_8 : decode cX7_searchOnce 8 = .ok (.getfield 36, 3) := by decide +kernel
theorem dX7_searchOnce_11 : decode cX7_searchOnce 11 = .ok (.aload_n 0, 1) := by decide +kernel
theorem dX7_searchOnce_12 : decode cX7_searchOnce 12 = .ok (.getfield 10, 3) := by decide +kernel
theorem dX7_searchOnce_15 : decode cX7_searchOnce 15 = .ok (.aload_n 0, 1) := by decide +kernel
theorem dX7_searchOnce_16 : decode cX7_searchOnce 16 = .ok (.getfield 30, 3) := by decide +kernel
theorem dX7_searchOnce_19 : decode cX7_searchOnce 19 = .ok (.invokevirtual 197, 3) := by decide +kernel
theorem dX7_searchOnce_22 : decode cX7_searchOnce 22 = .ok (.aload_n 0, 1) := by decide +kernel
theorem dX7_searchOnce_23 : decode cX7_searchOnce 23 = .ok (.iconst 1, 1) := by decide +kernel
theorem dX7_searchOnce_24 : decode cX7_searchOnce 24 = .ok (.putfield 146, 3) := by decide +kernel
theorem dX7_searchOnce_27 : decode cX7_searchOnce 27 = .ok (.return_, 1) := by decide +kernel
theorem dX8_in_0 : decode cX8_in 0 = .ok (.iload_n 0, 1) := by decide +kernel
theorem dX8_in_1 : decode cX8_in 1 = .ok (.iload_n 1, 1) := by decide +kernel
theorem dX8_in_2 : decode cX8_in 2 = .ok (.if_icmp .lt 12, 3) := by decide +kernel
theorem dX8_in_5 : decode cX8_in 5 = .ok (.iload_n 0, 1) := by decide +kernel
theorem dX8_in_6 : decode cX8_in 6 = .ok (.iload_n 2, 1) := by decide +kernel
theorem dX8_in_7 : decode cX8_in 7 = .ok (.if_icmp .gt 7, 3) := by decide +kernel
theorem dX8_in_10 : decode cX8_in 10 = .ok (.iconst 1, 1) := by decide +kernel
theorem dX8_in_11 : decode cX8_in 11 = .ok (.goto 4, 3) := by decide +kernel
theorem dX8_in_14 : decode cX8_in 14 = .ok (.iconst 0, 1) := by decide +kernel
theorem dX8_in_15 : decode cX8_in 15 = .ok (.ireturn, 1) := by decide +kernel
theorem dX8_init_0 : decode cX8_init 0 = .ok (.aload_n 0, 1) := by decide +kernel
theorem dX8_init_1 : decode cX8_init 1 = .ok (.invokespecial 1, 3) := by decide +kernel
theorem dX8_init_4 : decode cX8_init 4 = .ok (.aload_n 0, 1) := by decide +kernel
theorem dX8_init_5 : decode cX8_init 5 = .ok (.iconst 4, 1) := by decide +kernel
theorem dX8_init_6 : decode cX8_init 6 = .ok (.putfield 7, 3) := by decide +kernel
theorem dX8_init_9 : decode cX8_init 9 = .ok (.aload_n 0, 1) := by decide +kernel
theorem dX8_init_10 : decode cX8_init 10 = .ok (.iconst 2, 1) := by decide +kernel
theorem dX8_init_11 : decode cX8_init 11 = .ok (.newarray .boolean, 2) := by decide +kernel
theorem dX8_init_13 : decode cX8_init 13 = .ok (.putfield 13, 3) := by decide +kernel
theorem dX8_init_16 : decode cX8_init 16 = .ok (.aload_n 0, 1) := by decide +kernel
theorem dX8_init_17 : decode cX8_init 17 = .ok (.bipush 20, 2) := by decide +kernel
theorem dX8_init_19 : decode cX8_init 19 = .ok (.newarray .int, 2) := by decide +kernel
theorem dX8_init_21 : decode cX8_init 21 = .ok (.putfield 17, 3) := by decide +kernel
theorem dX8_init_24 : decode cX8_init 24 = .ok (.aload_n 0, 1) := by decide +kernel
theorem dX8_init_25 : decode cX8_init 25 = .ok (.bipush 20, 2) := by decide +kernel
theorem dX8_init_27 : decode cX8_init 27 = .ok (.newarray .int, 2) := by decide +kernel
theorem dX8_init_29 : decode cX8_init 29 = .ok (.putfield 21, 3) := by decide +kernel
theorem dX8_init_32 : decode cX8_init 32 = .ok (.aload_n 0, 1) := by decide +kernel
theorem dX8_init_33 : decode cX8_init 33 = .ok (.bipush 20, 2) := by decide +kernel
theorem dX8_init_35 : decode cX8_init 35 = .ok (.newarray .int, 2) := by decide +kernel
theorem dX8_init_37 : decode cX8_init 37 = .ok (.putfield 24, 3) := by decide +kernel
theorem dX8_init_40 : decode cX8_init 40 = .ok (.aload_n 0, 1) := by decide +kernel
theorem dX8_init_41 : decode cX8_init 41 = .ok (.bipush 20, 2) := by decide +kernel
theorem dX8_init_43 : decode cX8_init 43 = .ok (.newarray .int, 2) := by decide +kernel
theorem dX8_init_45 : decode cX8_init 45 = .ok (.putfield 27, 3) := by decide +kernel
theorem dX8_init_48 : decode cX8_init 48 = .ok (.aload_n 0, 1) := by decide +kernel
theorem dX8_init_49 : decode cX8_init 49 = .ok (.bipush 20, 2) := by decide +kernel
theorem dX8_init_51 : decode cX8_init 51 = .ok (.newarray .int, 2) := by decide +kernel
theorem dX8_init_53 : decode cX8_init 53 = .ok (.putfield 30, 3) := by decide +kernel
theorem dX8_init_56 : decode cX8_init 56 = .ok (.aload_n 0, 1) := by decide +kernel
theorem dX8_init_57 : decode cX8_init 57 = .ok (.sipush 130, 3) := by decide +kernel
theorem dX8_init_60 : decode cX8_init 60 = .ok (.newarray .int, 2) := by decide +kernel
theorem dX8_init_62 : decode cX8_init 62 = .ok (.putfield 33, 3) := by decide +kernel
theorem dX8_init_65 : decode cX8_init 65 = .ok (.aload_n 0, 1) := by decide +kernel
theorem dX8_init_66 : decode cX8_init 66 = .ok (.bipush 100, 2) := by decide +kernel
theorem dX8_init_68 : decode cX8_init 68 = .ok (.newarray .int, 2) := by decide +kernel
theorem dX8_init_70 : decode cX8_init 70 = .ok (.putfield 36, 3) := by decide +kernel
theorem dX8_init_73 : decode cX8_init 73 = .ok (.aload_n 0, 1) := by decide +kernel
theorem dX8_init_74 : decode cX8_init 74 = .ok (.bipush 83, 2) := by decide +kernel
theorem dX8_init_76 : decode cX8_init 76 = .ok (.newarray .int, 2) := by decide +kernel
theorem dX8_init_78 : decode cX8_init 78 = .ok (.putfield 39, 3) := by decide +kernel
theorem dX8_init_81 : decode cX8_init 81 = .ok (.aload_n 0, 1) := by decide +kernel
theorem dX8_init_82 : decode cX8_init 82 = .ok (.sipush 166, 3) := by decide +kernel
theorem dX8_init_85 : decode cX8_init 85 = .ok (.newarray .int, 2) := by decide +kernel
theorem dX8_init_87 : decode cX8_init 87 = .ok (.putfield 42, 3) := by decide +kernel
theorem dX8_init_90 : decode cX8_init 90 = .ok (.aload_n 0, 1) := by decide +kernel
theorem dX8_init_91 : decode cX8_init 91 = .ok (.sipush 1826, 3) := by decide +kernel
theorem dX8_init_94 : decode cX8_init 94 = .ok (.newarray .int, 2) := by decide +kernel
theorem dX8_init_96 : decode cX8_init 96 = .ok (.putfield 45, 3) := by decide +kernel
theorem dX8_init_99 : decode cX8_init 99 = .ok (.aload_n 0, 1) := by decide +kernel
theorem dX8_init_100 : decode cX8_init 100 = .ok (.bipush 80, 2) := by decide +kernel
theorem dX8_init_102 : decode cX8_init 102 = .ok (.newarray .int, 2) := by decide +kernel
theorem dX8_init_104 : decode cX8_init 104 = .ok (.putfield 48, 3) := by decide +kernel
theorem dX8_init_107 : decode cX8_init 107 = .ok (.aload_n 0, 1) := by decide +kernel
theorem dX8_init_108 : decode cX8_init 108 = .ok (.bipush 80, 2) := by decide +kernel
theorem dX8_init_110 : decode cX8_init 110 = .ok (.newarray .int, 2) := by decide +kernel
theorem dX8_init_112 : decode cX8_init 112 = .ok (.putfield 51, 3) := by decide +kernel
theorem dX8_init_115 : decode cX8_init 115 = .ok (.aload_n 0, 1) := by decide +kernel
theorem dX8_init_116 : decode cX8_init 116 = .ok (.bipush 80, 2) := by decide +kernel
theorem dX8_init_118 : decode cX8_init 118 = .ok (.newarray .int, 2) := by decide +kernel
theorem dX8_init_120 : decode cX8_init 120 = .ok (.putfield 54, 3) := by decide +kernel
theorem dX8_init_123 : decode cX8_init 123 = .ok (.aload_n 0, 1) := by decide +kernel
theorem dX8_init_124 : decode cX8_init 124 = .ok (.ldc 57, 2) := by decide +kernel
theorem dX8_init_126 : decode cX8_init 126 = .ok (.newarray .int, 2) := by decide +kernel
theorem dX8_init_128 : decode cX8_init 128 = .ok (.putfield 58, 3) := by decide +kernel
theorem dX8_init_131 : decode cX8_init 131 = .ok (.aload_n 0, 1) := by decide +kernel
theorem dX8_init_132 : decode cX8_init 132 = .ok (.ldc 57, 2) := by decide +kernel
theorem dX8_init_134 : decode cX8_init 134 = .ok (.newarray .int, 2) := by decide +kernel
theorem dX8_init_136 : decode cX8_init 136 = .ok (.putfield 61, 3) := by decide +kernel
theorem dX8_init_139 : decode cX8_init 139 = .ok (.aload_n 0, 1) := by decide +kernel
theorem dX8_init_140 : decode cX8_init 140 = .ok (.iconst 2, 1) := by decide +kernel
theorem dX8_init_141 : decode cX8_init 141 = .ok (.newarray .int, 2) := by decide +kernel
theorem dX8_init_143 : decode cX8_init 143 = .ok (.putfield 64, 3) := by decide +kernel
theorem dX8_init_146 : decode cX8_init 146 = .ok (.aload_n 0, 1) := by decide +kernel
theorem dX8_init_147 : decode cX8_init 147 = .ok (.iconst 2, 1) := by decide +kernel
theorem dX8_init_148 : decode cX8_init 148 = .ok (.newarray .int, 2) := by decide +kernel
theorem dX8_init_150 : decode cX8_init 150 = .ok (.putfield 67, 3) := by decide +kernel
theorem dX8_init_153 : decode cX8_init 153 = .ok (.aload_n 0, 1) := by decide +kernel
theorem dX8_init_154 : decode cX8_init 154 = .ok (.bipush 120, 2) := by decide +kernel
theorem dX8_init_156 : decode cX8_init 156 = .ok (.newarray .int, 2) := by decide +kernel
theorem dX8_init_158 : decode cX8_init 158 = .ok (.putfield 70, 3) := by decide +kernel
theorem dX8_init_161 : decode cX8_init 161 = .ok (.aload_n 0, 1) := by decide +kernel
theorem dX8_init_162 : decode cX8_init 162 = .ok (.getfield 64, 3) := by decide +kernel
theorem dX8_init_165 : decode cX8_init 165 = .ok (.iconst 0, 1) := by decide +kernel
theorem dX8_init_166 : decode cX8_init 166 = .ok (.iconst (-1), 1) := by decide +kernel
theorem dX8_init_167 : decode cX8_init 167 = .ok (.iastore, 1) := by decide +kernel
theorem dX8_init_168 : decode cX8_init 168 = .ok (.aload_n 0, 1) := by decide +kernel
theorem dX8_init_169 : decode cX8_init 169 = .ok (.getfield 64, 3) := by decide +kernel
theorem dX8_init_172 : decode cX8_init 172 = .ok (.iconst 1, 1) := by decide +kernel
theorem dX8_init_173 : decode cX8_init 173 = .ok (.iconst (-1), 1) := by decide +kernel
theorem dX8_init_174 : decode cX8_init 174 = .ok (.iastore, 1) := by decide +kernel
theorem dX8_init_175 : decode cX8_init 175 = .ok (.return_, 1) := by decide +kernel
theorem dX8_empty_0 : decode cX8_empty 0 = .ok (.aload_n 0, 1) := by decide +kernel
theorem dX8_empty_1 : decode cX8_empty 1 = .ok (.getfield 39, 3) := by decide +kernel
theorem dX8_empty_4 : decode cX8_empty 4 = .ok (.iload_n 1, 1) := by decide +kernel
theorem dX8_empty_5 : decode cX8_empty 5 = .ok (.iload_n 2, 1) := by decide +kernel
theorem dX8_empty_6 : decode cX8_empty 6 = .ok (.iastore, 1) := by decide +kernel
theorem dX8_empty_7 : decode cX8_empty 7 = .ok (.aload_n 0, 1) := by decide +kernel
theorem dX8_empty_8 : decode cX8_empty 8 = .ok (.getfield 42, 3) := by decide +kernel
theorem dX8_empty_11 : decode cX8_empty 11 = .ok (.iconst 2, 1) := by decide +kernel
theorem dX8_empty_12 : decode cX8_empty 12 = .ok (.iload_n 1, 1) := by decide +kernel
theorem dX8_empty_13 : decode cX8_empty 13 = .ok (.imul, 1) := by decide +kernel
theorem dX8_empty_14 : decode cX8_empty 14 = .ok (.iconst 0, 1) := by decide +kernel
theorem dX8_empty_15 : decode cX8_empty 15 = .ok (.iastore, 1) := by decide +kernel
theorem dX8_empty_16 : decode cX8_empty 16 = .ok (.aload_n 0, 1) := by decide +kernel
theorem dX8_empty_17 : decode cX8_empty 17 = .ok (.getfield 42, 3) := by decide +kernel
theorem dX8_empty_20 : decode cX8_empty 20 = .ok (.iconst 2, 1) := by decide +kernel
theorem dX8_empty_21 : decode cX8_empty 21 = .ok (.iload_n 1, 1) := by decide +kernel
theorem dX8_empty_22 : decode cX8_empty 22 = .ok (.imul, 1) := by decide +kernel
theorem dX8_empty_23 : decode cX8_empty 23 = .ok (.iconst 1, 1) := by decide +kernel
theorem dX8_empty_24 : decode cX8_empty 24 = .ok (.iadd, 1) := by decide +kernel
theorem dX8_empty_25 : decode cX8_empty 25 = .ok (.iconst 0, 1) := by decide +kernel
theorem dX8_empty_26 : decode cX8_empty 26 = .ok (.iastore, 1) := by decide +kernel
theorem dX8_empty_27 : decode cX8_empty 27 = .ok (.return_, 1) := by decide +kernel
set_option maxRecDepth 20000 in
theorem ggX8_states_X8_in : GoodIn wsX8_states wsX8_in := goodIn_r _ [6] (by decide +kernel) (by decide +kernel)
set_option maxRecDepth 20000 in
theorem gX8_states_X8_in : GoodIn wsX8_states (va_wsS RX8 73 yX8_in wsX8_in) := goodIn_app (goodIn_of _ (by decide +kernel)) ggX8_states_X8_in
set_option maxRecDepth 20000 in
theorem ggX8_states_X8_empty : GoodIn wsX8_states wsX8_empty := goodIn_r _ [10, 11, 12, 13, 14, 15, 16, 17, 18, 19, 20, 21, 22, 23, 24, 25, 26, 27, 28, 29, 30, 31, 32, 33, 34, 35, 36, 37] (by decide +kernel) (by decide +kernel)
set_option maxRecDepth 20000 in
theorem gX8_states_X8_empty : GoodIn wsX8_states (wsV RX8 80 RX8 yX8_empty wsX8_empty) := goodIn_app (goodIn_of _ (by decide +kernel)) ggX8_states_X8_empty
theorem dX8_states_0 : decode cX8_states 0 = .ok (.iload_n 1, 1) := by decide +kernel
theorem dX8_states_1 : decode cX8_states 1 = .ok (.iconst 1, 1) := by decide +kernel
theorem dX8_states_2 : decode cX8_states 2 = .ok (.bipush 8, 2) := by decide +kernel
theorem dX8_states_4 : decode cX8_states 4 = .ok (.invokestatic 73, 3) := by decide +kernel
theorem dX8_states_7 : decode cX8_states 7 = .ok (.ifCond .ne 5, 3) := by decide +kernel
theorem dX8_states_10 : decode cX8_states 10 = .ok (.iconst (-1), 1) := by decide +kernel
theorem dX8_states_11 : decode cX8_states 11 = .ok (.ireturn, 1) := by decide +kernel
theorem dX8_states_12 : decode cX8_states 12 = .ok (.aload_n 0, 1) := by decide +kernel
theorem dX8_states_13 : decode cX8_states 13 = .ok (.getfield 7, 3) := by decide +kernel
theorem dX8_states_16 : decode cX8_states 16 = .ok (.istore_n 2, 1) := by decide +kernel
theorem dX8_states_17 : decode cX8_states 17 = .ok (.aload_n 0, 1) := by decide +kernel
theorem dX8_states_18 : decode cX8_states 18 = .ok (.iload_n 1, 1) := by decide +kernel
theorem dX8_states_19 : decode cX8_states 19 = .ok (.putfield 7, 3) := by decide +kernel
theorem dX8_states_22 : decode cX8_states 22 = .ok (.aload_n 0, 1) := by decide +kernel
theorem dX8_states_23 : decode cX8_states 23 = .ok (.iconst 0, 1) := by decide +kernel
theorem dX8_states_24 : decode cX8_states 24 = .ok (.putfield 77, 3) := by decide +kernel
theorem dX8_states_27 : decode cX8_states 27 = .ok (.aload_n 0, 1) := by decide +kernel
theorem dX8_states_28 : decode cX8_states 28 = .ok (.bipush 81, 2) := by decide +kernel
theorem dX8_states_30 : decode cX8_states 30 = .ok (.iconst 0, 1) := by decide +kernel
theorem dX8_states_31 : decode cX8_states 31 = .ok (.invokevirtual 80, 3) := by decide +kernel
theorem dX8_states_34 : decode cX8_states 34 = .ok (.aload_n 0, 1) := by decide +kernel
theorem dX8_states_35 : decode cX8_states 35 = .ok (.bipush 82, 2) := by decide +kernel
theorem dX8_states_37 : decode cX8_states 37 = .ok (.iconst 0, 1) := by decide +kernel
theorem dX8_states_38 : decode cX8_states 38 = .ok (.invokevirtual 80, 3) := by decide +kernel
theorem dX8_states_41 : decode cX8_states 41 = .ok (.iload_n 2, 1) := by decide +kernel
theorem dX8_states_42 : decode cX8_states 42 = .ok (.ireturn, 1) := by decide +kernel
set_option maxRecDepth 20000 in
theorem ggX8_bag_X8_in : GoodIn wsX8_bag wsX8_in := goodIn_r _ [5] (by decide +kernel) (by decide +kernel)
set_option maxRecDepth 20000 in
theorem gX8_bag_X8_in : GoodIn wsX8_bag (va_wsS RX8 73 yX8_in wsX8_in) := goodIn_app (goodIn_of _ (by decide +kernel)) ggX8_bag_X8_in
set_option maxRecDepth 20000 in
theorem ggX8_bag_X8_empty : GoodIn wsX8_bag wsX8_empty := goodIn_r _ [9, 10, 11, 12, 13, 14, 15, 16, 17, 18, 19, 20, 21, 22, 23, 24, 25, 26, 27, 28, 29, 30, 31, 32, 33, 34, 35, 36] (by decide +kernel) (by decide +kernel)
set_option maxRecDepth 20000 in
theorem gX8_bag_X8_empty : GoodIn wsX8_bag (wsV RX8 80 RX8 yX8_empty wsX8_empty) := goodIn_app (goodIn_of _ (by decide +kernel)) ggX8_bag_X8_empty
theorem dX8_bag_0 : decode cX8_bag 0 = .ok (.iload_n 1, 1) := by decide +kernel
theorem dX8_bag_1 : decode cX8_bag 1 = .ok (.iconst 0, 1) := by decide +kernel
theorem dX8_bag_2 : decode cX8_bag 2 = .ok (.iconst 1, 1) := by decide +kernel
theorem dX8_bag_3 : decode cX8_bag 3 = .ok (.invokestatic 73, 3) := by decide +kernel
theorem dX8_bag_6 : decode cX8_bag 6 = .ok (.ifCond .ne 5, 3) := by decide +kernel
theorem dX8_bag_9 : decode cX8_bag 9 = .ok (.iconst (-1), 1) := by decide +kernel
theorem dX8_bag_10 : decode cX8_bag 10 = .ok (.ireturn, 1) := by decide +kernel
theorem dX8_bag_11 : decode cX8_bag 11 = .ok (.aload_n 0, 1) := by decide +kernel
theorem dX8_bag_12 : decode cX8_bag 12 = .ok (.getfield 13, 3) := by decide +kernel
theorem dX8_bag_15 : decode cX8_bag 15 = .ok (.iload_n 1, 1) := by decide +kernel
theorem dX8_bag_16 : decode cX8_bag 16 = .ok (.baload, 1) := by decide +kernel
theorem dX8_bag_17 : decode cX8_bag 17 = .ok (.istore_n 3, 1) := by decide +kernel
theorem dX8_bag_18 : decode cX8_bag 18 = .ok (.aload_n 0, 1) := by decide +kernel
theorem dX8_bag_19 : decode cX8_bag 19 = .ok (.getfield 13, 3) := by decide +kernel
theorem dX8_bag_22 : decode cX8_bag 22 = .ok (.iload_n 1, 1) := by decide +kernel
theorem dX8_bag_23 : decode cX8_bag 23 = .ok (.iload_n 2, 1) := by decide +kernel
theorem dX8_bag_24 : decode cX8_bag 24 = .ok (.bastore, 1) := by decide +kernel
theorem dX8_bag_25 : decode cX8_bag 25 = .ok (.aload_n 0, 1) := by decide +kernel
theorem dX8_bag_26 : decode cX8_bag 26 = .ok (.bipush 81, 2) := by decide +kernel
theorem dX8_bag_28 : decode cX8_bag 28 = .ok (.iconst 0, 1) := by decide +kernel
theorem dX8_bag_29 : decode cX8_bag 29 = .ok (.invokevirtual 80, 3) := by decide +kernel
theorem dX8_bag_32 : decode cX8_bag 32 = .ok (.aload_n 0, 1) := by decide +kernel
theorem dX8_bag_33 : decode cX8_bag 33 = .ok (.bipush 82, 2) := by decide +kernel
theorem dX8_bag_35 : decode cX8_bag 35 = .ok (.iconst 0, 1) := by decide +kernel
theorem dX8_bag_36 : decode cX8_bag 36 = .ok (.invokevirtual 80, 3) := by decide +kernel
theorem dX8_bag_39 : decode cX8_bag 39 = .ok (.iload_n 3, 1) := by decide +kernel
theorem dX8_bag_40 : decode cX8_bag 40 = .ok (.ifCond .eq 7, 3) := by decide +kernel
theorem dX8_bag_43 : decode cX8_bag 43 = .ok (.iconst 1, 1) := by decide +kernel
theorem dX8_bag_44 : decode cX8_bag 44 = .ok (.goto 4, 3) := by decide +kernel
theorem dX8_bag_47 : decode cX8_bag 47 = .ok (.iconst 0, 1) := by decide +kernel
theorem dX8_bag_48 : decode cX8_bag 48 = .ok (.ireturn, 1) := by decide +kernel
set_option maxRecDepth 20000 in
theorem ggX8_isState_X8_in : GoodIn wsX8_isState wsX8_in := goodIn_r _ [5] (by decide +kernel) (by decide +kernel)
set_option maxRecDepth 20000 in
theorem gX8_isState_X8_in : GoodIn wsX8_isState (va_wsS RX8 73 yX8_in wsX8_in) := goodIn_app (goodIn_of _ (by decide +kernel)) ggX8_isState_X8_in
theorem dX8_isState_0 : decode cX8_isState 0 = .ok (.iload_n 1, 1) := by decide +kernel
theorem dX8_isState_1 : decode cX8_isState 1 = .ok (.iconst 0, 1) := by decide +kernel
theorem dX8_isState_2 : decode cX8_isState 2 = .ok (.aload_n 0, 1) := by decide +kernel
theorem dX8_isState_3 : decode cX8_isState 3 = .ok (.getfield 7, 3) := by decide +kernel
theorem dX8_isState_6 : decode cX8_isState 6 = .ok (.iconst 1, 1) := by decide +kernel
theorem dX8_isState_7 : decode cX8_isState 7 = .ok (.isub, 1) := by decide +kernel
theorem dX8_isState_8 : decode cX8_isState 8 = .ok (.invokestatic 73, 3) := by decide +kernel
theorem dX8_isState_11 : decode cX8_isState 11 = .ok (.ireturn, 1) := by decide +kernel
set_option maxRecDepth 20000 in
theorem ggX8_isGood_X8_isState : GoodIn wsX8_isGood wsX8_isState := goodIn_r _ [5, 6, 7, 8, 4, 9, 10, 11, 12, 13, 14, 15, 16, 17, 18, 19, 20, 21, 22, 23, 24, 25, 26, 27, 28, 29, 30, 31, 32, 33, 34] (by decide +kernel) (by decide +kernel)
set_option maxRecDepth 20000 in
theorem gX8_isGood_X8_isState : GoodIn wsX8_isGood (wsV RX8 84 RX8 yX8_isState wsX8_isState) := goodIn_app (goodIn_of _ (by decide +kernel)) ggX8_isGood_X8_isState
set_option maxRecDepth 20000 in
theorem ggX8_isGood_X8_in : GoodIn wsX8_isGood wsX8_in := goodIn_r _ [9] (by decide +kernel) (by decide +kernel)
set_option maxRecDepth 20000 in
theorem gX8_isGood_X8_in : GoodIn wsX8_isGood (va_wsS RX8 73 yX8_in wsX8_in) := goodIn_app (goodIn_of _ (by decide +kernel)) ggX8_isGood_X8_in
theorem dX8_isGood_0 : decode cX8_isGood 0 = .ok (.aload_n 0, 1) := by decide +kernel
theorem dX8_isGood_1 : decode cX8_isGood 1 = .ok (.iload_n 1, 1) := by decide +kernel
theorem dX8_isGood_2 : decode cX8_isGood 2 = .ok (.invokevirtual 84, 3) := by decide +kernel
theorem dX8_isGood_5 : decode cX8_isGood 5 = .ok (.ifCond .eq 25, 3) := by decide +kernel
theorem dX8_isGood_8 : decode cX8_isGood 8 = .ok (.aload_n 0, 1) := by decide +kernel
theorem dX8_isGood_9 : decode cX8_isGood 9 = .ok (.iload 5, 2) := by decide +kernel
theorem dX8_isGood_11 : decode cX8_isGood 11 = .ok (.invokevirtual 84, 3) := by decide +kernel
theorem dX8_isGood_14 : decode cX8_isGood 14 = .ok (.ifCond .eq 16, 3) := by decide +kernel
theorem dX8_isGood_17 : decode cX8_isGood 17 = .ok (.iload_n 2, 1) := by decide +kernel
theorem dX8_isGood_18 : decode cX8_isGood 18 = .ok (.iconst 0, 1) := by decide +kernel
theorem dX8_isGood_19 : decode cX8_isGood 19 = .ok (.iconst 2, 1) := by decide +kernel
theorem dX8_isGood_20 : decode cX8_isGood 20 = .ok (.invokestatic 73, 3) := by decide +kernel
theorem dX8_isGood_23 : decode cX8_isGood 23 = .ok (.ifCond .eq 7, 3) := by decide +kernel
theorem dX8_isGood_26 : decode cX8_isGood 26 = .ok (.iconst 1, 1) := by decide +kernel
theorem dX8_isGood_27 : decode cX8_isGood 27 = .ok (.goto 4, 3) := by decide +kernel
theorem dX8_isGood_30 : decode cX8_isGood 30 = .ok (.iconst 0, 1) := by decide +kernel
theorem dX8_isGood_31 : decode cX8_isGood 31 = .ok (.istore 6, 2) := by decide +kernel
theorem dX8_isGood_33 : decode cX8_isGood 33 = .ok (.iload 6, 2) := by decide +kernel
theorem dX8_isGood_35 : decode cX8_isGood 35 = .ok (.ifCond .eq 30, 3) := by decide +kernel
theorem dX8_isGood_38 : decode cX8_isGood 38 = .ok (.iload_n 2, 1) := by decide +kernel
theorem dX8_isGood_39 : decode cX8_isGood 39 = .ok (.ifCond .eq 22, 3) := by decide +kernel
theorem dX8_isGood_42 : decode cX8_isGood 42 = .ok (.iload_n 3, 1) := by decide +kernel
theorem dX8_isGood_43 : decode cX8_isGood 43 = .ok (.iconst 0, 1) := by decide +kernel
theorem dX8_isGood_44 : decode cX8_isGood 44 = .ok (.iconst 1, 1) := by decide +kernel
theorem dX8_isGood_45 : decode cX8_isGood 45 = .ok (.invokestatic 73, 3) := by decide +kernel
theorem dX8_isGood_48 : decode cX8_isGood 48 = .ok (.ifCond .eq 17, 3) := by decide +kernel
theorem dX8_isGood_51 : decode cX8_isGood 51 = .ok (.iload 4, 2) := by decide +kernel
theorem dX8_isGood_53 : decode cX8_isGood 53 = .ok (.iconst 0, 1) := by decide +kernel
theorem dX8_isGood_54 : decode cX8_isGood 54 = .ok (.iconst 2, 1) := by decide +kernel
theorem dX8_isGood_55 : decode cX8_isGood 55 = .ok (.invokestatic 73, 3) := by decide +kernel
theorem dX8_isGood_58 : decode cX8_isGood 58 = .ok (.ifCond .eq 7, 3) := by decide +kernel
theorem dX8_isGood_61 : decode cX8_isGood 61 = .ok (.iconst 1, 1) := by decide +kernel
theorem dX8_isGood_62 : decode cX8_isGood 62 = .ok (.goto 4, 3) := by decide +kernel
theorem dX8_isGood_65 : decode cX8_isGood 65 = .ok (.iconst 0, 1) := by decide +kernel
theorem dX8_isGood_66 : decode cX8_isGood 66 = .ok (.ireturn, 1) := by decide +kernel
set_option maxRecDepth 20000 in
theorem ggX8_put_X8_empty : GoodIn wsX8_put wsX8_empty := goodIn_r _ [11, 12, 13, 14, 15, 16, 17, 18, 19, 20, 21, 22, 23, 24, 25, 26, 27, 28, 29, 30, 31, 32, 33, 34, 35, 36, 37, 38] (by decide +kernel) (by decide +kernel)
set_option maxRecDepth 20000 in
theorem gX8_put_X8_empty : GoodIn wsX8_put (wsV RX8 80 RX8 yX8_empty wsX8_empty) := goodIn_app (goodIn_of _ (by decide +kernel)) ggX8_put_X8_empty
theorem dX8_put_0 : decode cX8_put 0 = .ok (.aload_n 0, 1) := by decide +kernel
theorem dX8_put_1 : decode cX8_put 1 = .ok (.getfield 17, 3) := by decide +kernel
theorem dX8_put_4 : decode cX8_put 4 = .ok (.aload_n 0, 1) := by decide +kernel
theorem dX8_put_5 : decode cX8_put 5 = .ok (.getfield 77, 3) := by decide +kernel
theorem dX8_put_8 : decode cX8_put 8 = .ok (.iload_n 1, 1) := by decide +kernel
theorem dX8_put_9 : decode cX8_put 9 = .ok (.iastore, 1) := by decide +kernel
theorem dX8_put_10 : decode cX8_put 10 = .ok (.aload_n 0, 1) := by decide +kernel
theorem dX8_put_11 : decode cX8_put 11 = .ok (.getfield 21, 3) := by decide +kernel
theorem dX8_put_14 : decode cX8_put 14 = .ok (.aload_n 0, 1) := by decide +kernel
theorem dX8_put_15 : decode cX8_put 15 = .ok (.getfield 77, 3) := by decide +kernel
theorem dX8_put_18 : decode cX8_put 18 = .ok (.iload_n 2, 1) := by decide +kernel
theorem dX8_put_19 : decode cX8_put 19 = .ok (.iastore, 1) := by decide +kernel
theorem dX8_put_20 : decode cX8_put 20 = .ok (.aload_n 0, 1) := by decide +kernel
theorem dX8_put_21 : decode cX8_put 21 = .ok (.getfield 24, 3) := by decide +kernel
theorem dX8_put_24 : decode cX8_put 24 = .ok (.aload_n 0, 1) := by decide +kernel
theorem dX8_put_25 : decode cX8_put 25 = .ok (.getfield 77, 3) := by decide +kernel
theorem dX8_put_28 : decode cX8_put 28 = .ok (.iload_n 2, 1) := by decide +kernel
theorem dX8_put_29 : decode cX8_put 29 = .ok (.ifCond .ne 7, 3) := by decide +kernel
theorem dX8_put_32 : decode cX8_put 32 = .ok (.iconst 0, 1) := by decide +kernel
theorem dX8_put_33 : decode cX8_put 33 = .ok (.goto 4, 3) := by decide +kernel
theorem dX8_put_36 : decode cX8_put 36 = .ok (.iload_n 3, 1) := by decide +kernel
theorem dX8_put_37 : decode cX8_put 37 = .ok (.iastore, 1) := by decide +kernel
theorem dX8_put_38 : decode cX8_put 38 = .ok (.aload_n 0, 1) := by decide +kernel
theorem dX8_put_39 : decode cX8_put 39 = .ok (.getfield 27, 3) := by decide +kernel
theorem dX8_put_42 : decode cX8_put 42 = .ok (.aload_n 0, 1) := by decide +kernel
theorem dX8_put_43 : decode cX8_put 43 = .ok (.getfield 77, 3) := by decide +kernel
theorem dX8_put_46 : decode cX8_put 46 = .ok (.iload_n 2, 1) := by decide +kernel
theorem dX8_put_47 : decode cX8_put 47 = .ok (.ifCond .ne 7, 3) := by decide +kernel
theorem dX8_put_50 : decode cX8_put 50 = .ok (.iconst 0, 1) := by decide +kernel
theorem dX8_put_51 : decode cX8_put 51 = .ok (.goto 5, 3) := by decide +kernel
theorem dX8_put_54 : decode cX8_put 54 = .ok (.iload 4, 2) := by decide +kernel
theorem dX8_put_56 : decode cX8_put 56 = .ok (.iastore, 1) := by decide +kernel
theorem dX8_put_57 : decode cX8_put 57 = .ok (.aload_n 0, 1) := by decide +kernel
theorem dX8_put_58 : decode cX8_put 58 = .ok (.getfield 30, 3) := by decide +kernel
theorem dX8_put_61 : decode cX8_put 61 = .ok (.aload_n 0, 1) := by decide +kernel
theorem dX8_put_62 : decode cX8_put 62 = .ok (.getfield 77, 3) := by decide +kernel
theorem dX8_put_65 : decode cX8_put 65 = .ok (.iload 5, 2) := by decide +kernel
theorem dX8_put_67 : decode cX8_put 67 = .ok (.iastore, 1) := by decide +kernel
theorem dX8_put_68 : decode cX8_put 68 = .ok (.aload_n 0, 1) := by decide +kernel
theorem dX8_put_69 : decode cX8_put 69 = .ok (.dup, 1) := by decide +kernel
theorem dX8_put_70 : decode cX8_put 70 = .ok (.getfield 77, 3) := by decide +kernel
theorem dX8_put_73 : decode cX8_put 73 = .ok (.iconst 1, 1) := by decide +kernel
theorem dX8_put_74 : decode cX8_put 74 = .ok (.iadd, 1) := by decide +kernel
theorem dX8_put_75 : decode cX8_put 75 = .ok (.putfield 77, 3) := by decide +kernel
theorem dX8_put_78 : decode cX8_put 78 = .ok (.aload_n 0, 1) := by decide +kernel
theorem dX8_put_79 : decode cX8_put 79 = .ok (.bipush 82, 2) := by decide +kernel
theorem dX8_put_81 : decode cX8_put 81 = .ok (.iconst 0, 1) := by decide +kernel
theorem dX8_put_82 : decode cX8_put 82 = .ok (.invokevirtual 80, 3) := by decide +kernel
theorem dX8_put_85 : decode cX8_put 85 = .ok (.return_, 1) := by decide +kernel
set_option maxRecDepth 20000 in
theorem ggX8_arc_X8_isGood : GoodIn wsX8_arc wsX8_isGood := goodIn_r _ [6, 7, 8, 9, 5, 10, 11, 12, 13, 14, 30, 31, 32, 33, 34, 35, 36, 37, 38, 39, 40, 41, 42, 43, 44, 45, 46, 47, 48, 49, 50, 51, 52, 53, 54] (by decide +kernel) (by decide +kernel)
set_option maxRecDepth 20000 in
theorem gX8_arc_X8_isGood : GoodIn wsX8_arc (wsV RX8 88 RX8 yX8_isGood wsX8_isGood) := goodIn_app (goodIn_of _ (by decide +kernel)) ggX8_arc_X8_isGood
set_option maxRecDepth 20000 in
theorem ggX8_arc_X8_put : GoodIn wsX8_arc wsX8_put := goodIn_r _ [18, 19, 1, 20, 21, 22, 23, 24, 25, 26, 5, 27, 28, 29, 30, 31, 32, 33, 34, 35, 36, 37, 38, 39, 40, 41, 42, 43, 44, 45, 46, 47, 48, 49, 50, 51, 52, 53, 54] (by decide +kernel) (by decide +kernel)
set_option maxRecDepth 20000 in
theorem gX8_arc_X8_put : GoodIn wsX8_arc (wsV RX8 92 RX8 yX8_put wsX8_put) := goodIn_app (goodIn_of _ (by decide +kernel)) ggX8_arc_X8_put
theorem dX8_arc_0 : decode cX8_arc 0 = .ok (.aload_n 0, 1) := by decide +kernel
theorem dX8_arc_1 : decode cX8_arc 1 = .ok (.iload_n 1, 1) := by decide +kernel
theorem dX8_arc_2 : decode cX8_arc 2 = .ok (.iload_n 2, 1) := by decide +kernel
theorem dX8_arc_3 : decode cX8_arc 3 = .ok (.iload_n 3, 1) := by decide +kernel
theorem dX8_arc_4 : decode cX8_arc 4 = .ok (.iload 4, 2) := by decide +kernel
theorem dX8_arc_6 : decode cX8_arc 6 = .ok (.iload 5, 2) := by decide +kernel
theorem dX8_arc_8 : decode cX8_arc 8 = .ok (.invokevirtual 88, 3) := by decide +kernel
theorem dX8_arc_11 : decode cX8_arc 11 = .ok (.ifCond .ne 5, 3) := by decide +kernel
theorem dX8_arc_14 : decode cX8_arc 14 = .ok (.iconst (-1), 1) := by decide +kernel
theorem dX8_arc_15 : decode cX8_arc 15 = .ok (.ireturn, 1) := by decide +kernel
theorem dX8_arc_16 : decode cX8_arc 16 = .ok (.aload_n 0, 1) := by decide +kernel
theorem dX8_arc_17 : decode cX8_arc 17 = .ok (.getfield 77, 3) := by decide +kernel
theorem dX8_arc_20 : decode cX8_arc 20 = .ok (.bipush 20, 2) := by decide +kernel
theorem dX8_arc_22 : decode cX8_arc 22 = .ok (.if_icmp .ne 6, 3) := by decide +kernel
theorem dX8_arc_25 : decode cX8_arc 25 = .ok (.bipush (-3), 2) := by decide +kernel
theorem dX8_arc_27 : decode cX8_arc 27 = .ok (.ireturn, 1) := by decide +kernel
theorem dX8_arc_28 : decode cX8_arc 28 = .ok (.aload_n 0, 1) := by decide +kernel
theorem dX8_arc_29 : decode cX8_arc 29 = .ok (.iload_n 1, 1) := by decide +kernel
theorem dX8_arc_30 : decode cX8_arc 30 = .ok (.iload_n 2, 1) := by decide +kernel
theorem dX8_arc_31 : decode cX8_arc 31 = .ok (.iload_n 3, 1) := by decide +kernel
theorem dX8_arc_32 : decode cX8_arc 32 = .ok (.iload 4, 2) := by decide +kernel
theorem dX8_arc_34 : decode cX8_arc 34 = .ok (.iload 5, 2) := by decide +kernel
theorem dX8_arc_36 : decode cX8_arc 36 = .ok (.invokevirtual 92, 3) := by decide +kernel
theorem dX8_arc_39 : decode cX8_arc 39 = .ok (.aload_n 0, 1) := by decide +kernel
theorem dX8_arc_40 : decode cX8_arc 40 = .ok (.getfield 77, 3) := by decide +kernel
theorem dX8_arc_43 : decode cX8_arc 43 = .ok (.iconst 1, 1) := by decide +kernel
theorem dX8_arc_44 : decode cX8_arc 44 = .ok (.isub, 1) := by decide +kernel
theorem dX8_arc_45 : decode cX8_arc 45 = .ok (.ireturn, 1) := by decide +kernel
set_option maxRecDepth 20000 in
theorem ggX8_unarc_X8_empty : GoodIn wsX8_unarc wsX8_empty := goodIn_r _ [6, 7, 8, 9, 10, 11, 12, 13, 14, 15, 16, 17, 18, 19, 20, 21, 22, 23, 24, 25, 26, 27, 28, 29, 30, 31, 32, 33] (by decide +kernel) (by decide +kernel)
set_option maxRecDepth 20000 in
theorem gX8_unarc_X8_empty : GoodIn wsX8_unarc (wsV RX8 80 RX8 yX8_empty wsX8_empty) := goodIn_app (goodIn_of _ (by decide +kernel)) ggX8_unarc_X8_empty
theorem dX8_unarc_0 : decode cX8_unarc 0 = .ok (.aload_n 0, 1) := by decide +kernel
theorem dX8_unarc_1 : decode cX8_unarc 1 = .ok (.getfield 77, 3) := by decide +kernel
theorem dX8_unarc_4 : decode cX8_unarc 4 = .ok (.ifCond .ne 6, 3) := by decide +kernel
theorem dX8_unarc_7 : decode cX8_unarc 7 = .ok (.bipush (-2), 2) := by decide +kernel
theorem dX8_unarc_9 : decode cX8_unarc 9 = .ok (.ireturn, 1) := by decide +kernel
theorem dX8_unarc_10 : decode cX8_unarc 10 = .ok (.aload_n 0, 1) := by decide +kernel
theorem dX8_unarc_11 : decode cX8_unarc 11 = .ok (.dup, 1) := by decide +kernel
theorem dX8_unarc_12 : decode cX8_unarc 12 = .ok (.getfield 77, 3) := by decide +kernel
theorem dX8_unarc_15 : decode cX8_unarc 15 = .ok (.iconst 1, 1) := by decide +kernel
theorem dX8_unarc_16 : decode cX8_unarc 16 = .ok (.isub, 1) := by decide +kernel
theorem dX8_unarc_17 : decode cX8_unarc 17 = .ok (.putfield 77, 3) := by decide +kernel
theorem dX8_unarc_20 : decode cX8_unarc 20 = .ok (.aload_n 0, 1) := by decide +kernel
theorem dX8_unarc_21 : decode cX8_unarc 21 = .ok (.bipush 82, 2) := by decide +kernel
theorem dX8_unarc_23 : decode cX8_unarc 23 = .ok (.iconst 0, 1) := by decide +kernel
theorem dX8_unarc_24 : decode cX8_unarc 24 = .ok (.invokevirtual 80, 3) := by decide +kernel
theorem dX8_unarc_27 : decode cX8_unarc 27 = .ok (.aload_n 0, 1) := by decide +kernel
theorem dX8_unarc_28 : decode cX8_unarc 28 = .ok (.getfield 77, 3) := by decide +kernel
theorem dX8_unarc_31 : decode cX8_unarc 31 = .ok (.ireturn, 1) := by decide +kernel
set_option maxRecDepth 20000 in
theorem ggX8_isArc_X8_in : GoodIn wsX8_isArc wsX8_in := goodIn_r _ [5] (by decide +kernel) (by decide +kernel)
set_option maxRecDepth 20000 in
theorem gX8_isArc_X8_in : GoodIn wsX8_isArc (va_wsS RX8 73 yX8_in wsX8_in) := goodIn_app (goodIn_of _ (by decide +kernel)) ggX8_isArc_X8_in
theorem dX8_isArc_0 : decode cX8_isArc 0 = .ok (.iload_n 1, 1) := by decide +kernel
theorem dX8_isArc_1 : decode cX8_isArc 1 = .ok (.iconst 0, 1) := by decide +kernel
theorem dX8_isArc_2 : decode cX8_isArc 2 = .ok (.aload_n 0, 1) := by decide +kernel
theorem dX8_isArc_3 : decode cX8_isArc 3 = .ok (.getfield 77, 3) := by decide +kernel
theorem dX8_isArc_6 : decode cX8_isArc 6 = .ok (.iconst 1, 1) := by decide +kernel
theorem dX8_isArc_7 : decode cX8_isArc 7 = .ok (.isub, 1) := by decide +kernel
theorem dX8_isArc_8 : decode cX8_isArc 8 = .ok (.invokestatic 73, 3) := by decide +kernel
theorem dX8_isArc_11 : decode cX8_isArc 11 = .ok (.ireturn, 1) := by decide +kernel
set_option maxRecDepth 20000 in
theorem ggX8_told_X8_isArc : GoodIn wsX8_told wsX8_isArc := goodIn_r _ [10, 11, 12, 13, 9, 14, 15, 16, 17, 18, 19, 20, 21, 22, 23, 24, 25, 26, 27, 28, 29, 30, 31, 32, 33, 34, 35, 36, 37, 38, 39] (by decide +kernel) (by decide +kernel)
set_option maxRecDepth 20000 in
theorem gX8_told_X8_isArc : GoodIn wsX8_told (wsV RX8 96 RX8 yX8_isArc wsX8_isArc) := goodIn_app (goodIn_of _ (by decide +kernel)) ggX8_told_X8_isArc
set_option maxRecDepth 20000 in
theorem ggX8_told_X8_in : GoodIn wsX8_told wsX8_in := goodIn_r _ [14] (by decide +kernel) (by decide +kernel)
set_option maxRecDepth 20000 in
theorem gX8_told_X8_in : GoodIn wsX8_told (va_wsS RX8 73 yX8_in wsX8_in) := goodIn_app (goodIn_of _ (by decide +kernel)) ggX8_told_X8_in
theorem dX8_told_0 : decode cX8_told 0 = .ok (.aload_n 0, 1) := by decide +kernel
theorem dX8_told_1 : decode cX8_told 1 = .ok (.iload_n 1, 1) := by decide +kernel
theorem dX8_told_2 : decode cX8_told 2 = .ok (.invokevirtual 96, 3) := by decide +kernel
theorem dX8_told_5 : decode cX8_told 5 = .ok (.ifCond .eq 12, 3) := by decide +kernel
theorem dX8_told_8 : decode cX8_told 8 = .ok (.iload_n 2, 1) := by decide +kernel
