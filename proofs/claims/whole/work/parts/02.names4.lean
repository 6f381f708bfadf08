theorem dX8_told_9 : decode cX8_told 9 = .ok (.iconst 0, 1) := by decide +kernel
theorem dX8_told_10 : decode cX8_told 10 = .ok (.iconst 4, 1) := by decide +kernel
theorem dX8_told_11 : decode cX8_told 11 = .ok (.invokestatic 73, 3) := by decide +kernel
theorem dX8_told_14 : decode cX8_told 14 = .ok (.ifCond .ne 5, 3) := by decide +kernel
theorem dX8_told_17 : decode cX8_told 17 = .ok (.iconst (-1), 1) := by decide +kernel
theorem dX8_told_18 : decode cX8_told 18 = .ok (.ireturn, 1) := by decide +kernel
theorem dX8_told_19 : decode cX8_told 19 = .ok (.iload_n 2, 1) := by decide +kernel
theorem dX8_told_20 : decode cX8_told 20 = .ok (.ifCond .ne 12, 3) := by decide +kernel
theorem dX8_told_23 : decode cX8_told 23 = .ok (.aload_n 0, 1) := by decide +kernel
theorem dX8_told_24 : decode cX8_told 24 = .ok (.getfield 17, 3) := by decide +kernel
theorem dX8_told_27 : decode cX8_told 27 = .ok (.iload_n 1, 1) := by decide +kernel
theorem dX8_told_28 : decode cX8_told 28 = .ok (.iaload, 1) := by decide +kernel
theorem dX8_told_29 : decode cX8_told 29 = .ok (.goto 51, 3) := by decide +kernel
theorem dX8_told_32 : decode cX8_told 32 = .ok (.iload_n 2, 1) := by decide +kernel
theorem dX8_told_33 : decode cX8_told 33 = .ok (.iconst 1, 1) := by decide +kernel
theorem dX8_told_34 : decode cX8_told 34 = .ok (.if_icmp .ne 12, 3) := by decide +kernel
theorem dX8_told_37 : decode cX8_told 37 = .ok (.aload_n 0, 1) := by decide +kernel
theorem dX8_told_38 : decode cX8_told 38 = .ok (.getfield 21, 3) := by decide +kernel
theorem dX8_told_41 : decode cX8_told 41 = .ok (.iload_n 1, 1) := by decide +kernel
theorem dX8_told_42 : decode cX8_told 42 = .ok (.iaload, 1) := by decide +kernel
theorem dX8_told_43 : decode cX8_told 43 = .ok (.goto 37, 3) := by decide +kernel
theorem dX8_told_46 : decode cX8_told 46 = .ok (.iload_n 2, 1) := by decide +kernel
theorem dX8_told_47 : decode cX8_told 47 = .ok (.iconst 2, 1) := by decide +kernel
theorem dX8_told_48 : decode cX8_told 48 = .ok (.if_icmp .ne 12, 3) := by decide +kernel
theorem dX8_told_51 : decode cX8_told 51 = .ok (.aload_n 0, 1) := by decide +kernel
theorem dX8_told_52 : decode cX8_told 52 = .ok (.getfield 24, 3) := by decide +kernel
theorem dX8_told_55 : decode cX8_told 55 = .ok (.iload_n 1, 1) := by decide +kernel
theorem dX8_told_56 : decode cX8_told 56 = .ok (.iaload, 1) := by decide +kernel
theorem dX8_told_57 : decode cX8_told 57 = .ok (.goto 23, 3) := by decide +kernel
theorem dX8_told_60 : decode cX8_told 60 = .ok (.iload_n 2, 1) := by decide +kernel
theorem dX8_told_61 : decode cX8_told 61 = .ok (.iconst 3, 1) := by decide +kernel
theorem dX8_told_62 : decode cX8_told 62 = .ok (.if_icmp .ne 12, 3) := by decide +kernel
theorem dX8_told_65 : decode cX8_told 65 = .ok (.aload_n 0, 1) := by decide +kernel
theorem dX8_told_66 : decode cX8_told 66 = .ok (.getfield 27, 3) := by decide +kernel
theorem dX8_told_69 : decode cX8_told 69 = .ok (.iload_n 1, 1) := by decide +kernel
theorem dX8_told_70 : decode cX8_told 70 = .ok (.iaload, 1) := by decide +kernel
theorem dX8_told_71 : decode cX8_told 71 = .ok (.goto 9, 3) := by decide +kernel
theorem dX8_told_74 : decode cX8_told 74 = .ok (.aload_n 0, 1) := by decide +kernel
theorem dX8_told_75 : decode cX8_told 75 = .ok (.getfield 30, 3) := by decide +kernel
theorem dX8_told_78 : decode cX8_told 78 = .ok (.iload_n 1, 1) := by decide +kernel
theorem dX8_told_79 : decode cX8_told 79 = .ok (.iaload, 1) := by decide +kernel
theorem dX8_told_80 : decode cX8_told 80 = .ok (.ireturn, 1) := by decide +kernel
set_option maxRecDepth 20000 in
theorem ggX8_type_X8_in : GoodIn wsX8_type wsX8_in := goodIn_r _ [7] (by decide +kernel) (by decide +kernel)
set_option maxRecDepth 20000 in
theorem gX8_type_X8_in : GoodIn wsX8_type (va_wsS RX8 73 yX8_in wsX8_in) := goodIn_app (goodIn_of _ (by decide +kernel)) ggX8_type_X8_in
theorem dX8_type_0 : decode cX8_type 0 = .ok (.iload_n 3, 1) := by decide +kernel
theorem dX8_type_1 : decode cX8_type 1 = .ok (.iconst 1, 1) := by decide +kernel
theorem dX8_type_2 : decode cX8_type 2 = .ok (.bipush 8, 2) := by decide +kernel
theorem dX8_type_4 : decode cX8_type 4 = .ok (.invokestatic 73, 3) := by decide +kernel
theorem dX8_type_7 : decode cX8_type 7 = .ok (.ifCond .ne 5, 3) := by decide +kernel
theorem dX8_type_10 : decode cX8_type 10 = .ok (.iconst (-1), 1) := by decide +kernel
theorem dX8_type_11 : decode cX8_type 11 = .ok (.ireturn, 1) := by decide +kernel
theorem dX8_type_12 : decode cX8_type 12 = .ok (.iconst 0, 1) := by decide +kernel
theorem dX8_type_13 : decode cX8_type 13 = .ok (.istore 4, 2) := by decide +kernel
theorem dX8_type_15 : decode cX8_type 15 = .ok (.iload 4, 2) := by decide +kernel
theorem dX8_type_17 : decode cX8_type 17 = .ok (.iload_n 3, 1) := by decide +kernel
theorem dX8_type_18 : decode cX8_type 18 = .ok (.if_icmp .ge 33, 3) := by decide +kernel
theorem dX8_type_21 : decode cX8_type 21 = .ok (.lload_n 1, 1) := by decide +kernel
theorem dX8_type_22 : decode cX8_type 22 = .ok (.bipush 8, 2) := by decide +kernel
theorem dX8_type_24 : decode cX8_type 24 = .ok (.iload 4, 2) := by decide +kernel
theorem dX8_type_26 : decode cX8_type 26 = .ok (.imul, 1) := by decide +kernel
theorem dX8_type_27 : decode cX8_type 27 = .ok (.lshr, 1) := by decide +kernel
theorem dX8_type_28 : decode cX8_type 28 = .ok (.ldc2_w 99, 3) := by decide +kernel
theorem dX8_type_31 : decode cX8_type 31 = .ok (.land, 1) := by decide +kernel
theorem dX8_type_32 : decode cX8_type 32 = .ok (.l2i, 1) := by decide +kernel
theorem dX8_type_33 : decode cX8_type 33 = .ok (.bipush 32, 2) := by decide +kernel
theorem dX8_type_35 : decode cX8_type 35 = .ok (.bipush 126, 2) := by decide +kernel
theorem dX8_type_37 : decode cX8_type 37 = .ok (.invokestatic 73, 3) := by decide +kernel
theorem dX8_type_40 : decode cX8_type 40 = .ok (.ifCond .ne 5, 3) := by decide +kernel
theorem dX8_type_43 : decode cX8_type 43 = .ok (.iconst (-1), 1) := by decide +kernel
theorem dX8_type_44 : decode cX8_type 44 = .ok (.ireturn, 1) := by decide +kernel
theorem dX8_type_45 : decode cX8_type 45 = .ok (.iinc 4 1, 3) := by decide +kernel
theorem dX8_type_48 : decode cX8_type 48 = .ok (.goto (-33), 3) := by decide +kernel
theorem dX8_type_51 : decode cX8_type 51 = .ok (.aload_n 0, 1) := by decide +kernel
theorem dX8_type_52 : decode cX8_type 52 = .ok (.getfield 101, 3) := by decide +kernel
theorem dX8_type_55 : decode cX8_type 55 = .ok (.iload_n 3, 1) := by decide +kernel
theorem dX8_type_56 : decode cX8_type 56 = .ok (.iadd, 1) := by decide +kernel
theorem dX8_type_57 : decode cX8_type 57 = .ok (.sipush 130, 3) := by decide +kernel
theorem dX8_type_60 : decode cX8_type 60 = .ok (.if_icmp .le 6, 3) := by decide +kernel
theorem dX8_type_63 : decode cX8_type 63 = .ok (.bipush (-3), 2) := by decide +kernel
theorem dX8_type_65 : decode cX8_type 65 = .ok (.ireturn, 1) := by decide +kernel
theorem dX8_type_66 : decode cX8_type 66 = .ok (.iload_n 3, 1) := by decide +kernel
theorem dX8_type_67 : decode cX8_type 67 = .ok (.iconst 1, 1) := by decide +kernel
theorem dX8_type_68 : decode cX8_type 68 = .ok (.isub, 1) := by decide +kernel
theorem dX8_type_69 : decode cX8_type 69 = .ok (.istore 4, 2) := by decide +kernel
theorem dX8_type_71 : decode cX8_type 71 = .ok (.iload 4, 2) := by decide +kernel
theorem dX8_type_73 : decode cX8_type 73 = .ok (.ifCond .lt 40, 3) := by decide +kernel
theorem dX8_type_76 : decode cX8_type 76 = .ok (.aload_n 0, 1) := by decide +kernel
theorem dX8_type_77 : decode cX8_type 77 = .ok (.getfield 33, 3) := by decide +kernel
theorem dX8_type_80 : decode cX8_type 80 = .ok (.aload_n 0, 1) := by decide +kernel
theorem dX8_type_81 : decode cX8_type 81 = .ok (.getfield 101, 3) := by decide +kernel
theorem dX8_type_84 : decode cX8_type 84 = .ok (.lload_n 1, 1) := by decide +kernel
theorem dX8_type_85 : decode cX8_type 85 = .ok (.bipush 8, 2) := by decide +kernel
theorem dX8_type_87 : decode cX8_type 87 = .ok (.iload 4, 2) := by decide +kernel
theorem dX8_type_89 : decode cX8_type 89 = .ok (.imul, 1) := by decide +kernel
theorem dX8_type_90 : decode cX8_type 90 = .ok (.lshr, 1) := by decide +kernel
theorem dX8_type_91 : decode cX8_type 91 = .ok (.ldc2_w 99, 3) := by decide +kernel
theorem dX8_type_94 : decode cX8_type 94 = .ok (.land, 1) := by decide +kernel
theorem dX8_type_95 : decode cX8_type 95 = .ok (.l2i, 1) := by decide +kernel
theorem dX8_type_96 : decode cX8_type 96 = .ok (.iastore, 1) := by decide +kernel
theorem dX8_type_97 : decode cX8_type 97 = .ok (.aload_n 0, 1) := by decide +kernel
theorem dX8_type_98 : decode cX8_type 98 = .ok (.dup, 1) := by decide +kernel
theorem dX8_type_99 : decode cX8_type 99 = .ok (.getfield 101, 3) := by decide +kernel
theorem dX8_type_102 : decode cX8_type 102 = .ok (.iconst 1, 1) := by decide +kernel
theorem dX8_type_103 : decode cX8_type 103 = .ok (.iadd, 1) := by decide +kernel
theorem dX8_type_104 : decode cX8_type 104 = .ok (.putfield 101, 3) := by decide +kernel
theorem dX8_type_107 : decode cX8_type 107 = .ok (.iinc 4 (-1), 3) := by decide +kernel
theorem dX8_type_110 : decode cX8_type 110 = .ok (.goto (-39), 3) := by decide +kernel
theorem dX8_type_113 : decode cX8_type 113 = .ok (.aload_n 0, 1) := by decide +kernel
theorem dX8_type_114 : decode cX8_type 114 = .ok (.getfield 101, 3) := by decide +kernel
theorem dX8_type_117 : decode cX8_type 117 = .ok (.ireturn, 1) := by decide +kernel
theorem dX8_next_0 : decode cX8_next 0 = .ok (.aload_n 0, 1) := by decide +kernel
theorem dX8_next_1 : decode cX8_next 1 = .ok (.getfield 104, 3) := by decide +kernel
theorem dX8_next_4 : decode cX8_next 4 = .ok (.aload_n 0, 1) := by decide +kernel
theorem dX8_next_5 : decode cX8_next 5 = .ok (.getfield 101, 3) := by decide +kernel
theorem dX8_next_8 : decode cX8_next 8 = .ok (.if_icmp .ge 30, 3) := by decide +kernel
theorem dX8_next_11 : decode cX8_next 11 = .ok (.aload_n 0, 1) := by decide +kernel
theorem dX8_next_12 : decode cX8_next 12 = .ok (.getfield 33, 3) := by decide +kernel
theorem dX8_next_15 : decode cX8_next 15 = .ok (.aload_n 0, 1) := by decide +kernel
theorem dX8_next_16 : decode cX8_next 16 = .ok (.getfield 104, 3) := by decide +kernel
theorem dX8_next_19 : decode cX8_next 19 = .ok (.iaload, 1) := by decide +kernel
theorem dX8_next_20 : decode cX8_next 20 = .ok (.bipush 32, 2) := by decide +kernel
theorem dX8_next_22 : decode cX8_next 22 = .ok (.if_icmp .ne 16, 3) := by decide +kernel
theorem dX8_next_25 : decode cX8_next 25 = .ok (.aload_n 0, 1) := by decide +kernel
theorem dX8_next_26 : decode cX8_next 26 = .ok (.dup, 1) := by decide +kernel
theorem dX8_next_27 : decode cX8_next 27 = .ok (.getfield 104, 3) := by decide +kernel
theorem dX8_next_30 : decode cX8_next 30 = .ok (.iconst 1, 1) := by decide +kernel
theorem dX8_next_31 : decode cX8_next 31 = .ok (.iadd, 1) := by decide +kernel
theorem dX8_next_32 : decode cX8_next 32 = .ok (.putfield 104, 3) := by decide +kernel
theorem dX8_next_35 : decode cX8_next 35 = .ok (.goto (-35), 3) := by decide +kernel
theorem dX8_next_38 : decode cX8_next 38 = .ok (.aload_n 0, 1) := by decide +kernel
theorem dX8_next_39 : decode cX8_next 39 = .ok (.getfield 104, 3) := by decide +kernel
theorem dX8_next_42 : decode cX8_next 42 = .ok (.aload_n 0, 1) := by decide +kernel
theorem dX8_next_43 : decode cX8_next 43 = .ok (.getfield 101, 3) := by decide +kernel
theorem dX8_next_46 : decode cX8_next 46 = .ok (.if_icmp .ge 15, 3) := by decide +kernel
theorem dX8_next_49 : decode cX8_next 49 = .ok (.aload_n 0, 1) := by decide +kernel
theorem dX8_next_50 : decode cX8_next 50 = .ok (.getfield 33, 3) := by decide +kernel
theorem dX8_next_53 : decode cX8_next 53 = .ok (.aload_n 0, 1) := by decide +kernel
theorem dX8_next_54 : decode cX8_next 54 = .ok (.getfield 104, 3) := by decide +kernel
theorem dX8_next_57 : decode cX8_next 57 = .ok (.iaload, 1) := by decide +kernel
theorem dX8_next_58 : decode cX8_next 58 = .ok (.goto 4, 3) := by decide +kernel
theorem dX8_next_61 : decode cX8_next 61 = .ok (.iconst 0, 1) := by decide +kernel
theorem dX8_next_62 : decode cX8_next 62 = .ok (.ireturn, 1) := by decide +kernel
set_option maxRecDepth 20000 in
theorem ggX8_passed_X8_next : GoodIn wsX8_passed wsX8_next := goodIn_r _ [7, 2, 8, 9, 13, 14, 15, 16, 17, 18, 19, 20, 21, 22, 23, 24, 25, 26, 27, 28, 29, 30, 31, 32, 33, 34, 35, 36, 37] (by decide +kernel) (by decide +kernel)
set_option maxRecDepth 20000 in
theorem gX8_passed_X8_next : GoodIn wsX8_passed (wsV RX8 107 RX8 yX8_next wsX8_next) := goodIn_app (goodIn_of _ (by decide +kernel)) ggX8_passed_X8_next
set_option maxRecDepth 20000 in
theorem ggX8_passed_X8_in : GoodIn wsX8_passed wsX8_in := goodIn_r _ [12] (by decide +kernel) (by decide +kernel)
set_option maxRecDepth 20000 in
theorem gX8_passed_X8_in : GoodIn wsX8_passed (va_wsS RX8 73 yX8_in wsX8_in) := goodIn_app (goodIn_of _ (by decide +kernel)) ggX8_passed_X8_in
theorem dX8_passed_0 : decode cX8_passed 0 = .ok (.aload_n 0, 1) := by decide +kernel
theorem dX8_passed_1 : decode cX8_passed 1 = .ok (.invokevirtual 107, 3) := by decide +kernel
theorem dX8_passed_4 : decode cX8_passed 4 = .ok (.iload_n 1, 1) := by decide +kernel
theorem dX8_passed_5 : decode cX8_passed 5 = .ok (.isub, 1) := by decide +kernel
theorem dX8_passed_6 : decode cX8_passed 6 = .ok (.istore_n 3, 1) := by decide +kernel
theorem dX8_passed_7 : decode cX8_passed 7 = .ok (.aload_n 0, 1) := by decide +kernel
theorem dX8_passed_8 : decode cX8_passed 8 = .ok (.getfield 111, 3) := by decide +kernel
theorem dX8_passed_11 : decode cX8_passed 11 = .ok (.ifCond .ne 14, 3) := by decide +kernel
theorem dX8_passed_14 : decode cX8_passed 14 = .ok (.iload_n 3, 1) := by decide +kernel
theorem dX8_passed_15 : decode cX8_passed 15 = .ok (.iconst 0, 1) := by decide +kernel
theorem dX8_passed_16 : decode cX8_passed 16 = .ok (.iload_n 2, 1) := by decide +kernel
theorem dX8_passed_17 : decode cX8_passed 17 = .ok (.iconst 1, 1) := by decide +kernel
theorem dX8_passed_18 : decode cX8_passed 18 = .ok (.isub, 1) := by decide +kernel
theorem dX8_passed_19 : decode cX8_passed 19 = .ok (.invokestatic 73, 3) := by decide +kernel
theorem dX8_passed_22 : decode cX8_passed 22 = .ok (.ifCond .ne 10, 3) := by decide +kernel
theorem dX8_passed_25 : decode cX8_passed 25 = .ok (.aload_n 0, 1) := by decide +kernel
theorem dX8_passed_26 : decode cX8_passed 26 = .ok (.iconst 1, 1) := by decide +kernel
theorem dX8_passed_27 : decode cX8_passed 27 = .ok (.putfield 111, 3) := by decide +kernel
theorem dX8_passed_30 : decode cX8_passed 30 = .ok (.iconst 0, 1) := by decide +kernel
theorem dX8_passed_31 : decode cX8_passed 31 = .ok (.ireturn, 1) := by decide +kernel
theorem dX8_passed_32 : decode cX8_passed 32 = .ok (.aload_n 0, 1) := by decide +kernel
theorem dX8_passed_33 : decode cX8_passed 33 = .ok (.dup, 1) := by decide +kernel
theorem dX8_passed_34 : decode cX8_passed 34 = .ok (.getfield 104, 3) := by decide +kernel
theorem dX8_passed_37 : decode cX8_passed 37 = .ok (.iconst 1, 1) := by decide +kernel
theorem dX8_passed_38 : decode cX8_passed 38 = .ok (.iadd, 1) := by decide +kernel
theorem dX8_passed_39 : decode cX8_passed 39 = .ok (.putfield 104, 3) := by decide +kernel
theorem dX8_passed_42 : decode cX8_passed 42 = .ok (.iload_n 3, 1) := by decide +kernel
theorem dX8_passed_43 : decode cX8_passed 43 = .ok (.ireturn, 1) := by decide +kernel
set_option maxRecDepth 20000 in
theorem ggX8_act_X8_next : GoodIn wsX8_act wsX8_next := goodIn_r _ [7, 2, 8, 9, 10, 11, 12, 13, 14, 15, 16, 17, 18, 19, 20, 21, 22, 23, 24, 25, 26, 27, 28, 29, 30, 31, 32, 33, 34] (by decide +kernel) (by decide +kernel)
set_option maxRecDepth 20000 in
theorem gX8_act_X8_next : GoodIn wsX8_act (wsV RX8 107 RX8 yX8_next wsX8_next) := goodIn_app (goodIn_of _ (by decide +kernel)) ggX8_act_X8_next
theorem dX8_act_0 : decode cX8_act 0 = .ok (.aload_n 0, 1) := by decide +kernel
theorem dX8_act_1 : decode cX8_act 1 = .ok (.invokevirtual 107, 3) := by decide +kernel
theorem dX8_act_4 : decode cX8_act 4 = .ok (.istore_n 1, 1) := by decide +kernel
theorem dX8_act_5 : decode cX8_act 5 = .ok (.iload_n 1, 1) := by decide +kernel
theorem dX8_act_6 : decode cX8_act 6 = .ok (.bipush 45, 2) := by decide +kernel
theorem dX8_act_8 : decode cX8_act 8 = .ok (.if_icmp .ne 7, 3) := by decide +kernel
theorem dX8_act_11 : decode cX8_act 11 = .ok (.iconst 0, 1) := by decide +kernel
theorem dX8_act_12 : decode cX8_act 12 = .ok (.goto 24, 3) := by decide +kernel
theorem dX8_act_15 : decode cX8_act 15 = .ok (.iload_n 1, 1) := by decide +kernel
theorem dX8_act_16 : decode cX8_act 16 = .ok (.bipush 33, 2) := by decide +kernel
theorem dX8_act_18 : decode cX8_act 18 = .ok (.if_icmp .ne 7, 3) := by decide +kernel
theorem dX8_act_21 : decode cX8_act 21 = .ok (.iconst 1, 1) := by decide +kernel
theorem dX8_act_22 : decode cX8_act 22 = .ok (.goto 14, 3) := by decide +kernel
theorem dX8_act_25 : decode cX8_act 25 = .ok (.iload_n 1, 1) := by decide +kernel
theorem dX8_act_26 : decode cX8_act 26 = .ok (.bipush 63, 2) := by decide +kernel
theorem dX8_act_28 : decode cX8_act 28 = .ok (.if_icmp .ne 7, 3) := by decide +kernel
theorem dX8_act_31 : decode cX8_act 31 = .ok (.iconst 2, 1) := by decide +kernel
theorem dX8_act_32 : decode cX8_act 32 = .ok (.goto 4, 3) := by decide +kernel
theorem dX8_act_35 : decode cX8_act 35 = .ok (.iconst (-1), 1) := by decide +kernel
theorem dX8_act_36 : decode cX8_act 36 = .ok (.istore_n 2, 1) := by decide +kernel
theorem dX8_act_37 : decode cX8_act 37 = .ok (.aload_n 0, 1) := by decide +kernel
theorem dX8_act_38 : decode cX8_act 38 = .ok (.getfield 111, 3) := by decide +kernel
theorem dX8_act_41 : decode cX8_act 41 = .ok (.ifCond .ne 7, 3) := by decide +kernel
theorem dX8_act_44 : decode cX8_act 44 = .ok (.iload_n 2, 1) := by decide +kernel
theorem dX8_act_45 : decode cX8_act 45 = .ok (.ifCond .ge 10, 3) := by decide +kernel
theorem dX8_act_48 : decode cX8_act 48 = .ok (.aload_n 0, 1) := by decide +kernel
theorem dX8_act_49 : decode cX8_act 49 = .ok (.iconst 1, 1) := by decide +kernel
theorem dX8_act_50 : decode cX8_act 50 = .ok (.putfield 111, 3) := by decide +kernel
theorem dX8_act_53 : decode cX8_act 53 = .ok (.iconst 0, 1) := by decide +kernel
theorem dX8_act_54 : decode cX8_act 54 = .ok (.ireturn, 1) := by decide +kernel
theorem dX8_act_55 : decode cX8_act 55 = .ok (.aload_n 0, 1) := by decide +kernel
theorem dX8_act_56 : decode cX8_act 56 = .ok (.dup, 1) := by decide +kernel
theorem dX8_act_57 : decode cX8_act 57 = .ok (.getfield 104, 3) := by decide +kernel
theorem dX8_act_60 : decode cX8_act 60 = .ok (.iconst 1, 1) := by decide +kernel
theorem dX8_act_61 : decode cX8_act 61 = .ok (.iadd, 1) := by decide +kernel
theorem dX8_act_62 : decode cX8_act 62 = .ok (.putfield 104, 3) := by decide +kernel
theorem dX8_act_65 : decode cX8_act 65 = .ok (.iload_n 2, 1) := by decide +kernel
theorem dX8_act_66 : decode cX8_act 66 = .ok (.ireturn, 1) := by decide +kernel
set_option maxRecDepth 20000 in
theorem ggX8_read_X8_passed : GoodIn wsX8_read wsX8_passed := goodIn_r _ [11, 2, 1, 12, 13, 14, 10, 15, 5, 16, 17, 18, 19, 39, 40, 41, 42, 43, 44, 45, 46, 47, 48, 49, 50, 51, 52, 53, 54, 55, 56, 57, 58, 59, 60, 61, 62, 63] (by decide +kernel) (by decide +kernel)
set_option maxRecDepth 20000 in
theorem gX8_read_X8_passed : GoodIn wsX8_read (wsV RX8 115 RX8 yX8_passed wsX8_passed) := goodIn_app (goodIn_of _ (by decide +kernel)) ggX8_read_X8_passed
set_option maxRecDepth 20000 in
theorem ggX8_read_X8_act : GoodIn wsX8_read wsX8_act := goodIn_r _ [23, 2, 1, 12, 13, 14, 10, 15, 5, 16, 39, 40, 41, 42, 43, 44, 45, 46, 47, 48, 49, 50, 51, 52, 53, 54, 55, 56, 57, 58, 59, 60, 61, 62, 63] (by decide +kernel) (by decide +kernel)
set_option maxRecDepth 20000 in
theorem gX8_read_X8_act : GoodIn wsX8_read (wsV RX8 119 RX8 yX8_act wsX8_act) := goodIn_app (goodIn_of _ (by decide +kernel)) ggX8_read_X8_act
set_option maxRecDepth 20000 in
theorem ggX8_read_X8_next : GoodIn wsX8_read wsX8_next := goodIn_r _ [15, 1, 5, 16, 39, 40, 41, 42, 43, 44, 45, 46, 47, 48, 49, 50, 51, 52, 53, 54, 55, 56, 57, 58, 59, 60, 61, 62, 63] (by decide +kernel) (by decide +kernel)
set_option maxRecDepth 20000 in
theorem gX8_read_X8_next : GoodIn wsX8_read (wsV RX8 107 RX8 yX8_next wsX8_next) := goodIn_app (goodIn_of _ (by decide +kernel)) ggX8_read_X8_next
set_option maxRecDepth 20000 in
theorem ggX8_read_X8_put : GoodIn wsX8_read wsX8_put := goodIn_r _ [27, 28, 6, 29, 30, 31, 32, 33, 34, 35, 10, 36, 37, 38, 39, 40, 41, 42, 43, 44, 45, 46, 47, 48, 49, 50, 51, 52, 53, 54, 55, 56, 57, 58, 59, 60, 61, 62, 63] (by decide +kernel) (by decide +kernel)
set_option maxRecDepth 20000 in
theorem gX8_read_X8_put : GoodIn wsX8_read (wsV RX8 92 RX8 yX8_put wsX8_put) := goodIn_app (goodIn_of _ (by decide +kernel)) ggX8_read_X8_put
theorem dX8_read_0 : decode cX8_read 0 = .ok (.aload_n 0, 1) := by decide +kernel
theorem dX8_read_1 : decode cX8_read 1 = .ok (.iconst 0, 1) := by decide +kernel
theorem dX8_read_2 : decode cX8_read 2 = .ok (.putfield 104, 3) := by decide +kernel
theorem dX8_read_5 : decode cX8_read 5 = .ok (.aload_n 0, 1) := by decide +kernel
theorem dX8_read_6 : decode cX8_read 6 = .ok (.iconst 0, 1) := by decide +kernel
theorem dX8_read_7 : decode cX8_read 7 = .ok (.putfield 111, 3) := by decide +kernel
theorem dX8_read_10 : decode cX8_read 10 = .ok (.iconst 0, 1) := by decide +kernel
theorem dX8_read_11 : decode cX8_read 11 = .ok (.istore_n 1, 1) := by decide +kernel
theorem dX8_read_12 : decode cX8_read 12 = .ok (.iconst 1, 1) := by decide +kernel
theorem dX8_read_13 : decode cX8_read 13 = .ok (.istore_n 2, 1) := by decide +kernel
theorem dX8_read_14 : decode cX8_read 14 = .ok (.iload_n 2, 1) := by decide +kernel
theorem dX8_read_15 : decode cX8_read 15 = .ok (.ifCond .eq 159, 3) := by decide +kernel
theorem dX8_read_18 : decode cX8_read 18 = .ok (.aload_n 0, 1) := by decide +kernel
theorem dX8_read_19 : decode cX8_read 19 = .ok (.getfield 36, 3) := by decide +kernel
theorem dX8_read_22 : decode cX8_read 22 = .ok (.iconst 5, 1) := by decide +kernel
theorem dX8_read_23 : decode cX8_read 23 = .ok (.iload_n 1, 1) := by decide +kernel
theorem dX8_read_24 : decode cX8_read 24 = .ok (.imul, 1) := by decide +kernel
theorem dX8_read_25 : decode cX8_read 25 = .ok (.aload_n 0, 1) := by decide +kernel
theorem dX8_read_26 : decode cX8_read 26 = .ok (.bipush 48, 2) := by decide +kernel
theorem dX8_read_28 : decode cX8_read 28 = .ok (.aload_n 0, 1) := by decide +kernel
theorem dX8_read_29 : decode cX8_read 29 = .ok (.getfield 7, 3) := by decide +kernel
theorem dX8_read_32 : decode cX8_read 32 = .ok (.invokevirtual 115, 3) := by decide +kernel
theorem dX8_read_35 : decode cX8_read 35 = .ok (.iastore, 1) := by decide +kernel
theorem dX8_read_36 : decode cX8_read 36 = .ok (.aload_n 0, 1) := by decide +kernel
theorem dX8_read_37 : decode cX8_read 37 = .ok (.invokevirtual 119, 3) := by decide +kernel
theorem dX8_read_40 : decode cX8_read 40 = .ok (.istore_n 3, 1) := by decide +kernel
theorem dX8_read_41 : decode cX8_read 41 = .ok (.aload_n 0, 1) := by decide +kernel
theorem dX8_read_42 : decode cX8_read 42 = .ok (.getfield 36, 3) := by decide +kernel
theorem dX8_read_45 : decode cX8_read 45 = .ok (.iconst 5, 1) := by decide +kernel
theorem dX8_read_46 : decode cX8_read 46 = .ok (.iload_n 1, 1) := by decide +kernel
theorem dX8_read_47 : decode cX8_read 47 = .ok (.imul, 1) := by decide +kernel
theorem dX8_read_48 : decode cX8_read 48 = .ok (.iconst 1, 1) := by decide +kernel
theorem dX8_read_49 : decode cX8_read 49 = .ok (.iadd, 1) := by decide +kernel
theorem dX8_read_50 : decode cX8_read 50 = .ok (.iload_n 3, 1) := by decide +kernel
theorem dX8_read_51 : decode cX8_read 51 = .ok (.iastore, 1) := by decide +kernel
theorem dX8_read_52 : decode cX8_read 52 = .ok (.aload_n 0, 1) := by decide +kernel
theorem dX8_read_53 : decode cX8_read 53 = .ok (.getfield 36, 3) := by decide +kernel
theorem dX8_read_56 : decode cX8_read 56 = .ok (.iconst 5, 1) := by decide +kernel
theorem dX8_read_57 : decode cX8_read 57 = .ok (.iload_n 1, 1) := by decide +kernel
theorem dX8_read_58 : decode cX8_read 58 = .ok (.imul, 1) := by decide +kernel
theorem dX8_read_59 : decode cX8_read 59 = .ok (.iconst 3, 1) := by decide +kernel
theorem dX8_read_60 : decode cX8_read 60 = .ok (.iadd, 1) := by decide +kernel
theorem dX8_read_61 : decode cX8_read 61 = .ok (.iload_n 3, 1) := by decide +kernel
theorem dX8_read_62 : decode cX8_read 62 = .ok (.ifCond .ne 7, 3) := by decide +kernel
theorem dX8_read_65 : decode cX8_read 65 = .ok (.iconst 0, 1) := by decide +kernel
theorem dX8_read_66 : decode cX8_read 66 = .ok (.goto 10, 3) := by decide +kernel
theorem dX8_read_69 : decode cX8_read 69 = .ok (.aload_n 0, 1) := by decide +kernel
theorem dX8_read_70 : decode cX8_read 70 = .ok (.bipush 97, 2) := by decide +kernel
theorem dX8_read_72 : decode cX8_read 72 = .ok (.iconst 3, 1) := by decide +kernel
theorem dX8_read_73 : decode cX8_read 73 = .ok (.invokevirtual 115, 3) := by decide +kernel
theorem dX8_read_76 : decode cX8_read 76 = .ok (.iastore, 1) := by decide +kernel
theorem dX8_read_77 : decode cX8_read 77 = .ok (.aload_n 0, 1) := by decide +kernel
theorem dX8_read_78 : decode cX8_read 78 = .ok (.getfield 36, 3) := by decide +kernel
theorem dX8_read_81 : decode cX8_read 81 = .ok (.iconst 5, 1) := by decide +kernel
theorem dX8_read_82 : decode cX8_read 82 = .ok (.iload_n 1, 1) := by decide +kernel
theorem dX8_read_83 : decode cX8_read 83 = .ok (.imul, 1) := by decide +kernel
theorem dX8_read_84 : decode cX8_read 84 = .ok (.iconst 2, 1) := by decide +kernel
theorem dX8_read_85 : decode cX8_read 85 = .ok (.iadd, 1) := by decide +kernel
theorem dX8_read_86 : decode cX8_read 86 = .ok (.iload_n 3, 1) := by decide +kernel
theorem dX8_read_87 : decode cX8_read 87 = .ok (.ifCond .ne 7, 3) := by decide +kernel
theorem dX8_read_90 : decode cX8_read 90 = .ok (.iconst 0, 1) := by decide +kernel
theorem dX8_read_91 : decode cX8_read 91 = .ok (.goto 10, 3) := by decide +kernel
theorem dX8_read_94 : decode cX8_read 94 = .ok (.aload_n 0, 1) := by decide +kernel
theorem dX8_read_95 : decode cX8_read 95 = .ok (.bipush 48, 2) := by decide +kernel
theorem dX8_read_97 : decode cX8_read 97 = .ok (.iconst 2, 1) := by decide +kernel
theorem dX8_read_98 : decode cX8_read 98 = .ok (.invokevirtual 115, 3) := by decide +kernel
theorem dX8_read_101 : decode cX8_read 101 = .ok (.iastore, 1) := by decide +kernel
theorem dX8_read_102 : decode cX8_read 102 = .ok (.aload_n 0, 1) := by decide +kernel
theorem dX8_read_103 : decode cX8_read 103 = .ok (.getfield 36, 3) := by decide +kernel
theorem dX8_read_106 : decode cX8_read 106 = .ok (.iconst 5, 1) := by decide +kernel
theorem dX8_read_107 : decode cX8_read 107 = .ok (.iload_n 1, 1) := by decide +kernel
theorem dX8_read_108 : decode cX8_read 108 = .ok (.imul, 1) := by decide +kernel
theorem dX8_read_109 : decode cX8_read 109 = .ok (.iconst 4, 1) := by decide +kernel
theorem dX8_read_110 : decode cX8_read 110 = .ok (.iadd, 1) := by decide +kernel
theorem dX8_read_111 : decode cX8_read 111 = .ok (.aload_n 0, 1) := by decide +kernel
theorem dX8_read_112 : decode cX8_read 112 = .ok (.bipush 48, 2) := by decide +kernel
theorem dX8_read_114 : decode cX8_read 114 = .ok (.aload_n 0, 1) := by decide +kernel
theorem dX8_read_115 : decode cX8_read 115 = .ok (.getfield 7, 3) := by decide +kernel
theorem dX8_read_118 : decode cX8_read 118 = .ok (.invokevirtual 115, 3) := by decide +kernel
theorem dX8_read_121 : decode cX8_read 121 = .ok (.iastore, 1) := by decide +kernel
theorem dX8_read_122 : decode cX8_read 122 = .ok (.iinc 1 1, 3) := by decide +kernel
theorem dX8_read_125 : decode cX8_read 125 = .ok (.aload_n 0, 1) := by decide +kernel
theorem dX8_read_126 : decode cX8_read 126 = .ok (.getfield 111, 3) := by decide +kernel
theorem dX8_read_129 : decode cX8_read 129 = .ok (.ifCond .ne 22, 3) := by decide +kernel
theorem dX8_read_132 : decode cX8_read 132 = .ok (.aload_n 0, 1) := by decide +kernel
theorem dX8_read_133 : decode cX8_read 133 = .ok (.invokevirtual 107, 3) := by decide +kernel
theorem dX8_read_136 : decode cX8_read 136 = .ok (.bipush 59, 2) := by decide +kernel
theorem dX8_read_138 : decode cX8_read 138 = .ok (.if_icmp .ne 13, 3) := by decide +kernel
theorem dX8_read_141 : decode cX8_read 141 = .ok (.iload_n 1, 1) := by decide +kernel
theorem dX8_read_142 : decode cX8_read 142 = .ok (.bipush 20, 2) := by decide +kernel
theorem dX8_read_144 : decode cX8_read 144 = .ok (.if_icmp .ge 7, 3) := by decide +kernel
theorem dX8_read_147 : decode cX8_read 147 = .ok (.iconst 1, 1) := by decide +kernel
theorem dX8_read_148 : decode cX8_read 148 = .ok (.goto 4, 3) := by decide +kernel
theorem dX8_read_151 : decode cX8_read 151 = .ok (.iconst 0, 1) := by decide +kernel
theorem dX8_read_152 : decode cX8_read 152 = .ok (.istore_n 2, 1) := by decide +kernel
theorem dX8_read_153 : decode cX8_read 153 = .ok (.aload_n 0, 1) := by decide +kernel
theorem dX8_read_154 : decode cX8_read 154 = .ok (.dup, 1) := by decide +kernel
theorem dX8_read_155 : decode cX8_read 155 = .ok (.getfield 104, 3) := by decide +kernel
theorem dX8_read_158 : decode cX8_read 158 = .ok (.iload_n 2, 1) := by decide +kernel
theorem dX8_read_159 : decode cX8_read 159 = .ok (.ifCond .eq 7, 3) := by decide +kernel
theorem dX8_read_162 : decode cX8_read 162 = .ok (.iconst 1, 1) := by decide +kernel
theorem dX8_read_163 : decode cX8_read 163 = .ok (.goto 4, 3) := by decide +kernel
theorem dX8_read_166 : decode cX8_read 166 = .ok (.iconst 0, 1) := by decide +kernel
theorem dX8_read_167 : decode cX8_read 167 = .ok (.iadd, 1) := by decide +kernel
theorem dX8_read_168 : decode cX8_read 168 = .ok (.putfield 104, 3) := by decide +kernel
theorem dX8_read_171 : decode cX8_read 171 = .ok (.goto (-157), 3) := by decide +kernel
theorem dX8_read_174 : decode cX8_read 174 = .ok (.aload_n 0, 1) := by decide +kernel
theorem dX8_read_175 : decode cX8_read 175 = .ok (.getfield 111, 3) := by decide +kernel
theorem dX8_read_178 : decode cX8_read 178 = .ok (.ifCond .eq 7, 3) := by decide +kernel
theorem dX8_read_181 : decode cX8_read 181 = .ok (.iconst 1, 1) := by decide +kernel
theorem dX8_read_182 : decode cX8_read 182 = .ok (.goto 7, 3) := by decide +kernel
theorem dX8_read_185 : decode cX8_read 185 = .ok (.aload_n 0, 1) := by decide +kernel
theorem dX8_read_186 : decode cX8_read 186 = .ok (.invokevirtual 107, 3) := by decide +kernel
theorem dX8_read_189 : decode cX8_read 189 = .ok (.istore_n 3, 1) := by decide +kernel
theorem dX8_read_190 : decode cX8_read 190 = .ok (.aload_n 0, 1) := by decide +kernel
theorem dX8_read_191 : decode cX8_read 191 = .ok (.getfield 104, 3) := by decide +kernel
theorem dX8_read_194 : decode cX8_read 194 = .ok (.istore 4, 2) := by decide +kernel
theorem dX8_read_196 : decode cX8_read 196 = .ok (.aload_n 0, 1) := by decide +kernel
theorem dX8_read_197 : decode cX8_read 197 = .ok (.iconst 0, 1) := by decide +kernel
theorem dX8_read_198 : decode cX8_read 198 = .ok (.putfield 101, 3) := by decide +kernel
theorem dX8_read_201 : decode cX8_read 201 = .ok (.iload_n 3, 1) := by decide +kernel
theorem dX8_read_202 : decode cX8_read 202 = .ok (.ifCond .eq 9, 3) := by decide +kernel
theorem dX8_read_205 : decode cX8_read 205 = .ok (.bipush (-20), 2) := by decide +kernel
theorem dX8_read_207 : decode cX8_read 207 = .ok (.iload 4, 2) := by decide +kernel
theorem dX8_read_209 : decode cX8_read 209 = .ok (.isub, 1) := by decide +kernel
theorem dX8_read_210 : decode cX8_read 210 = .ok (.ireturn, 1) := by decide +kernel
theorem dX8_read_211 : decode cX8_read 211 = .ok (.aload_n 0, 1) := by decide +kernel
theorem dX8_read_212 : decode cX8_read 212 = .ok (.iconst 0, 1) := by decide +kernel
theorem dX8_read_213 : decode cX8_read 213 = .ok (.putfield 77, 3) := by decide +kernel
theorem dX8_read_216 : decode cX8_read 216 = .ok (.iconst 0, 1) := by decide +kernel
theorem dX8_read_217 : decode cX8_read 217 = .ok (.istore 5, 2) := by decide +kernel
theorem dX8_read_219 : decode cX8_read 219 = .ok (.iload 5, 2) := by decide +kernel
theorem dX8_read_221 : decode cX8_read 221 = .ok (.iload_n 1, 1) := by decide +kernel
theorem dX8_read_222 : decode cX8_read 222 = .ok (.if_icmp .ge 66, 3) := by decide +kernel
theorem dX8_read_225 : decode cX8_read 225 = .ok (.aload_n 0, 1) := by decide +kernel
theorem dX8_read_226 : decode cX8_read 226 = .ok (.aload_n 0, 1) := by decide +kernel
theorem dX8_read_227 : decode cX8_read 227 = .ok (.getfield 36, 3) := by decide +kernel
theorem dX8_read_230 : decode cX8_read 230 = .ok (.iconst 5, 1) := by decide +kernel
theorem dX8_read_231 : decode cX8_read 231 = .ok (.iload 5, 2) := by decide +kernel
theorem dX8_read_233 : decode cX8_read 233 = .ok (.imul, 1) := by decide +kernel
theorem dX8_read_234 : decode cX8_read 234 = .ok (.iaload, 1) := by decide +kernel
theorem dX8_read_235 : decode cX8_read 235 = .ok (.aload_n 0, 1) := by decide +kernel
theorem dX8_read_236 : decode cX8_read 236 = .ok (.getfield 36, 3) := by decide +kernel
theorem dX8_read_239 : decode cX8_read 239 = .ok (.iconst 5, 1) := by decide +kernel
theorem dX8_read_240 : decode cX8_read 240 = .ok (.iload 5, 2) := by decide +kernel
theorem dX8_read_242 : decode cX8_read 242 = .ok (.imul, 1) := by decide +kernel
theorem dX8_read_243 : decode cX8_read 243 = .ok (.iconst 1, 1) := by decide +kernel
theorem dX8_read_244 : decode cX8_read 244 = .ok (.iadd, 1) := by decide +kernel
theorem dX8_read_245 : decode cX8_read 245 = .ok (.iaload, 1) := by decide +kernel
theorem dX8_read_246 : decode cX8_read 246 = .ok (.aload_n 0, 1) := by decide +kernel
theorem dX8_read_247 : decode cX8_read 247 = .ok (.getfield 36, 3) := by decide +kernel
theorem dX8_read_250 : decode cX8_read 250 = .ok (.iconst 5, 1) := by decide +kernel
theorem dX8_read_251 : decode cX8_read 251 = .ok (.iload 5, 2) := by decide +kernel
theorem dX8_read_253 : decode cX8_read 253 = .ok (.imul, 1) := by decide +kernel
theorem dX8_read_254 : decode cX8_read 254 = .ok (.iconst 2, 1) := by decide +kernel
theorem dX8_read_255 : decode cX8_read 255 = .ok (.iadd, 1) := by decide +kernel
theorem dX8_read_256 : decode cX8_read 256 = .ok (.iaload, 1) := by decide +kernel
theorem dX8_read_257 : decode cX8_read 257 = .ok (.aload_n 0, 1) := by decide +kernel
theorem dX8_read_258 : decode cX8_read 258 = .ok (.getfield 36, 3) := by decide +kernel
theorem dX8_read_261 : decode cX8_read 261 = .ok (.iconst 5, 1) := by decide +kernel
theorem dX8_read_262 : decode cX8_read 262 = .ok (.iload 5, 2) := by decide +kernel
theorem dX8_read_264 : decode cX8_read 264 = .ok (.imul, 1) := by decide +kernel
theorem dX8_read_265 : decode cX8_read 265 = .ok (.iconst 3, 1) := by decide +kernel
theorem dX8_read_266 : decode cX8_read 266 = .ok (.iadd, 1) := by decide +kernel
theorem dX8_read_267 : decode cX8_read 267 = .ok (.iaload, 1) := by decide +kernel
theorem dX8_read_268 : decode cX8_read 268 = .ok (.aload_n 0, 1) := by decide +kernel
theorem dX8_read_269 : decode cX8_read 269 = .ok (.getfield 36, 3) := by decide +kernel
theorem dX8_read_272 : decode cX8_read 272 = .ok (.iconst 5, 1) := by decide +kernel
theorem dX8_read_273 : decode cX8_read 273 = .ok (.iload 5, 2) := by decide +kernel
theorem dX8_read_275 : decode cX8_read 275 = .ok (.imul, 1) := by decide +kernel
theorem dX8_read_276 : decode cX8_read 276 = .ok (.iconst 4, 1) := by decide +kernel
theorem dX8_read_277 : decode cX8_read 277 = .ok (.iadd, 1) := by decide +kernel
theorem dX8_read_278 : decode cX8_read 278 = .ok (.iaload, 1) := by decide +kernel
theorem dX8_read_279 : decode cX8_read 279 = .ok (.invokevirtual 92, 3) := by decide +kernel
theorem dX8_read_282 : decode cX8_read 282 = .ok (.iinc 5 1, 3) := by decide +kernel
theorem dX8_read_285 : decode cX8_read 285 = .ok (.goto (-66), 3) := by decide +kernel
theorem dX8_read_288 : decode cX8_read 288 = .ok (.iload_n 1, 1) := by decide +kernel
theorem dX8_read_289 : decode cX8_read 289 = .ok (.ireturn, 1) := by decide +kernel
theorem dX8_spot_0 : decode cX8_spot 0 = .ok (.bipush 22, 2) := by decide +kernel
theorem dX8_spot_2 : decode cX8_spot 2 = .ok (.iload_n 0, 1) := by decide +kernel
theorem dX8_spot_3 : decode cX8_spot 3 = .ok (.imul, 1) := by decide +kernel
theorem dX8_spot_4 : decode cX8_spot 4 = .ok (.bipush 11, 2) := by decide +kernel
theorem dX8_spot_6 : decode cX8_spot 6 = .ok (.iload_n 1, 1) := by decide +kernel
theorem dX8_spot_7 : decode cX8_spot 7 = .ok (.imul, 1) := by decide +kernel
theorem dX8_spot_8 : decode cX8_spot 8 = .ok (.iadd, 1) := by decide +kernel
theorem dX8_spot_9 : decode cX8_spot 9 = .ok (.iload_n 2, 1) := by decide +kernel
theorem dX8_spot_10 : decode cX8_spot 10 = .ok (.iadd, 1) := by decide +kernel
theorem dX8_spot_11 : decode cX8_spot 11 = .ok (.ireturn, 1) := by decide +kernel
set_option maxRecDepth 20000 in
theorem ggX8_copy_X8_spot : GoodIn wsX8_copy wsX8_spot := goodIn_r _ [7] (by decide +kernel) (by decide +kernel)
set_option maxRecDepth 20000 in
theorem gX8_copy_X8_spot : GoodIn wsX8_copy (va_wsS RX8 122 yX8_spot wsX8_spot) := goodIn_app (goodIn_of _ (by decide +kernel)) ggX8_copy_X8_spot
theorem dX8_copy_0 : decode cX8_copy 0 = .ok (.aload_n 0, 1) := by decide +kernel
theorem dX8_copy_1 : decode cX8_copy 1 = .ok (.getfield 39, 3) := by decide +kernel
theorem dX8_copy_4 : decode cX8_copy 4 = .ok (.iload_n 2, 1) := by decide +kernel
theorem dX8_copy_5 : decode cX8_copy 5 = .ok (.aload_n 0, 1) := by decide +kernel
theorem dX8_copy_6 : decode cX8_copy 6 = .ok (.getfield 39, 3) := by decide +kernel
theorem dX8_copy_9 : decode cX8_copy 9 = .ok (.iload_n 1, 1) := by decide +kernel
theorem dX8_copy_10 : decode cX8_copy 10 = .ok (.iaload, 1) := by decide +kernel
theorem dX8_copy_11 : decode cX8_copy 11 = .ok (.iastore, 1) := by decide +kernel
theorem dX8_copy_12 : decode cX8_copy 12 = .ok (.iconst 0, 1) := by decide +kernel
theorem dX8_copy_13 : decode cX8_copy 13 = .ok (.istore_n 3, 1) := by decide +kernel
theorem dX8_copy_14 : decode cX8_copy 14 = .ok (.iload_n 3, 1) := by decide +kernel
theorem dX8_copy_15 : decode cX8_copy 15 = .ok (.iconst 2, 1) := by decide +kernel
theorem dX8_copy_16 : decode cX8_copy 16 = .ok (.if_icmp .ge 77, 3) := by decide +kernel
theorem dX8_copy_19 : decode cX8_copy 19 = .ok (.aload_n 0, 1) := by decide +kernel
theorem dX8_copy_20 : decode cX8_copy 20 = .ok (.getfield 42, 3) := by decide +kernel
theorem dX8_copy_23 : decode cX8_copy 23 = .ok (.iconst 2, 1) := by decide +kernel
theorem dX8_copy_24 : decode cX8_copy 24 = .ok (.iload_n 2, 1) := by decide +kernel
theorem dX8_copy_25 : decode cX8_copy 25 = .ok (.imul, 1) := by decide +kernel
theorem dX8_copy_26 : decode cX8_copy 26 = .ok (.iload_n 3, 1) := by decide +kernel
theorem dX8_copy_27 : decode cX8_copy 27 = .ok (.iadd, 1) := by decide +kernel
theorem dX8_copy_28 : decode cX8_copy 28 = .ok (.aload_n 0, 1) := by decide +kernel
theorem dX8_copy_29 : decode cX8_copy 29 = .ok (.getfield 42, 3) := by decide +kernel
theorem dX8_copy_32 : decode cX8_copy 32 = .ok (.iconst 2, 1) := by decide +kernel
theorem dX8_copy_33 : decode cX8_copy 33 = .ok (.iload_n 1, 1) := by decide +kernel
theorem dX8_copy_34 : decode cX8_copy 34 = .ok (.imul, 1) := by decide +kernel
theorem dX8_copy_35 : decode cX8_copy 35 = .ok (.iload_n 3, 1) := by decide +kernel
theorem dX8_copy_36 : decode cX8_copy 36 = .ok (.iadd, 1) := by decide +kernel
theorem dX8_copy_37 : decode cX8_copy 37 = .ok (.iaload, 1) := by decide +kernel
theorem dX8_copy_38 : decode cX8_copy 38 = .ok (.iastore, 1) := by decide +kernel
theorem dX8_copy_39 : decode cX8_copy 39 = .ok (.iconst 0, 1) := by decide +kernel
theorem dX8_copy_40 : decode cX8_copy 40 = .ok (.istore 4, 2) := by decide +kernel
theorem dX8_copy_42 : decode cX8_copy 42 = .ok (.iload 4, 2) := by decide +kernel
theorem dX8_copy_44 : decode cX8_copy 44 = .ok (.aload_n 0, 1) := by decide +kernel
theorem dX8_copy_45 : decode cX8_copy 45 = .ok (.getfield 42, 3) := by decide +kernel
theorem dX8_copy_48 : decode cX8_copy 48 = .ok (.iconst 2, 1) := by decide +kernel
theorem dX8_copy_49 : decode cX8_copy 49 = .ok (.iload_n 1, 1) := by decide +kernel
theorem dX8_copy_50 : decode cX8_copy 50 = .ok (.imul, 1) := by decide +kernel
theorem dX8_copy_51 : decode cX8_copy 51 = .ok (.iload_n 3, 1) := by decide +kernel
theorem dX8_copy_52 : decode cX8_copy 52 = .ok (.iadd, 1) := by decide +kernel
theorem dX8_copy_53 : decode cX8_copy 53 = .ok (.iaload, 1) := by decide +kernel
theorem dX8_copy_54 : decode cX8_copy 54 = .ok (.if_icmp .ge 33, 3) := by decide +kernel
theorem dX8_copy_57 : decode cX8_copy 57 = .ok (.aload_n 0, 1) := by decide +kernel
theorem dX8_copy_58 : decode cX8_copy 58 = .ok (.getfield 45, 3) := by decide +kernel
theorem dX8_copy_61 : decode cX8_copy 61 = .ok (.iload_n 2, 1) := by decide +kernel
theorem dX8_copy_62 : decode cX8_copy 62 = .ok (.iload_n 3, 1) := by decide +kernel
theorem dX8_copy_63 : decode cX8_copy 63 = .ok (.iload 4, 2) := by decide +kernel
theorem dX8_copy_65 : decode cX8_copy 65 = .ok (.invokestatic 122, 3) := by decide +kernel
theorem dX8_copy_68 : decode cX8_copy 68 = .ok (.aload_n 0, 1) := by decide +kernel
theorem dX8_copy_69 : decode cX8_copy 69 = .ok (.getfield 45, 3) := by decide +kernel
theorem dX8_copy_72 : decode cX8_copy 72 = .ok (.iload_n 1, 1) := by decide +kernel
theorem dX8_copy_73 : decode cX8_copy 73 = .ok (.iload_n 3, 1) := by decide +kernel
theorem dX8_copy_74 : decode cX8_copy 74 = .ok (.iload 4, 2) := by decide +kernel
theorem dX8_copy_76 : decode cX8_copy 76 = .ok (.invokestatic 122, 3) := by decide +kernel
theorem dX8_copy_79 : decode cX8_copy 79 = .ok (.iaload, 1) := by decide +kernel
theorem dX8_copy_80 : decode cX8_copy 80 = .ok (.iastore, 1) := by decide +kernel
theorem dX8_copy_81 : decode cX8_copy 81 = .ok (.iinc 4 1, 3) := by decide +kernel
theorem dX8_copy_84 : decode cX8_copy 84 = .ok (.goto (-42), 3) := by decide +kernel
theorem dX8_copy_87 : decode cX8_copy 87 = .ok (.iinc 3 1, 3) := by decide +kernel
theorem dX8_copy_90 : decode cX8_copy 90 = .ok (.goto (-76), 3) := by decide +kernel
theorem dX8_copy_93 : decode cX8_copy 93 = .ok (.return_, 1) := by decide +kernel
set_option maxRecDepth 20000 in
theorem ggX8_takeOut_X8_spot : GoodIn wsX8_takeOut wsX8_spot := goodIn_r _ [6] (by decide +kernel) (by decide +kernel)
set_option maxRecDepth 20000 in
theorem gX8_takeOut_X8_spot : GoodIn wsX8_takeOut (va_wsS RX8 122 yX8_spot wsX8_spot) := goodIn_app (goodIn_of _ (by decide +kernel)) ggX8_takeOut_X8_spot
theorem dX8_takeOut_0 : decode cX8_takeOut 0 = .ok (.aload_n 0, 1) := by decide +kernel
theorem dX8_takeOut_1 : decode cX8_takeOut 1 = .ok (.getfield 42, 3) := by decide +kernel
theorem dX8_takeOut_4 : decode cX8_takeOut 4 = .ok (.iconst 2, 1) := by decide +kernel
theorem dX8_takeOut_5 : decode cX8_takeOut 5 = .ok (.iload_n 1, 1) := by decide +kernel
theorem dX8_takeOut_6 : decode cX8_takeOut 6 = .ok (.imul, 1) := by decide +kernel
theorem dX8_takeOut_7 : decode cX8_takeOut 7 = .ok (.iload_n 2, 1) := by decide +kernel
theorem dX8_takeOut_8 : decode cX8_takeOut 8 = .ok (.iadd, 1) := by decide +kernel
theorem dX8_takeOut_9 : decode cX8_takeOut 9 = .ok (.dup2, 1) := by decide +kernel
theorem dX8_takeOut_10 : decode cX8_takeOut 10 = .ok (.iaload, 1) := by decide +kernel
theorem dX8_takeOut_11 : decode cX8_takeOut 11 = .ok (.iconst 1, 1) := by decide +kernel
theorem dX8_takeOut_12 : decode cX8_takeOut 12 = .ok (.isub, 1) := by decide +kernel
theorem dX8_takeOut_13 : decode cX8_takeOut 13 = .ok (.iastore, 1) := by decide +kernel
theorem dX8_takeOut_14 : decode cX8_takeOut 14 = .ok (.iload_n 3, 1) := by decide +kernel
theorem dX8_takeOut_15 : decode cX8_takeOut 15 = .ok (.istore 4, 2) := by decide +kernel
theorem dX8_takeOut_17 : decode cX8_takeOut 17 = .ok (.iload 4, 2) := by decide +kernel
theorem dX8_takeOut_19 : decode cX8_takeOut 19 = .ok (.aload_n 0, 1) := by decide +kernel
theorem dX8_takeOut_20 : decode cX8_takeOut 20 = .ok (.getfield 42, 3) := by decide +kernel
theorem dX8_takeOut_23 : decode cX8_takeOut 23 = .ok (.iconst 2, 1) := by decide +kernel
theorem dX8_takeOut_24 : decode cX8_takeOut 24 = .ok (.iload_n 1, 1) := by decide +kernel
theorem dX8_takeOut_25 : decode cX8_takeOut 25 = .ok (.imul, 1) := by decide +kernel
theorem dX8_takeOut_26 : decode cX8_takeOut 26 = .ok (.iload_n 2, 1) := by decide +kernel
theorem dX8_takeOut_27 : decode cX8_takeOut 27 = .ok (.iadd, 1) := by decide +kernel
theorem dX8_takeOut_28 : decode cX8_takeOut 28 = .ok (.iaload, 1) := by decide +kernel
theorem dX8_takeOut_29 : decode cX8_takeOut 29 = .ok (.if_icmp .ge 35, 3) := by decide +kernel
theorem dX8_takeOut_32 : decode cX8_takeOut 32 = .ok (.aload_n 0, 1) := by decide +kernel
theorem dX8_takeOut_33 : decode cX8_takeOut 33 = .ok (.getfield 45, 3) := by decide +kernel
theorem dX8_takeOut_36 : decode cX8_takeOut 36 = .ok (.iload_n 1, 1) := by decide +kernel
theorem dX8_takeOut_37 : decode cX8_takeOut 37 = .ok (.iload_n 2, 1) := by decide +kernel
theorem dX8_takeOut_38 : decode cX8_takeOut 38 = .ok (.iload 4, 2) := by decide +kernel
theorem dX8_takeOut_40 : decode cX8_takeOut 40 = .ok (.invokestatic 122, 3) := by decide +kernel
theorem dX8_takeOut_43 : decode cX8_takeOut 43 = .ok (.aload_n 0, 1) := by decide +kernel
theorem dX8_takeOut_44 : decode cX8_takeOut 44 = .ok (.getfield 45, 3) := by decide +kernel
theorem dX8_takeOut_47 : decode cX8_takeOut 47 = .ok (.iload_n 1, 1) := by decide +kernel
theorem dX8_takeOut_48 : decode cX8_takeOut 48 = .ok (.iload_n 2, 1) := by decide +kernel
theorem dX8_takeOut_49 : decode cX8_takeOut 49 = .ok (.iload 4, 2) := by decide +kernel
theorem dX8_takeOut_51 : decode cX8_takeOut 51 = .ok (.iconst 1, 1) := by decide +kernel
theorem dX8_takeOut_52 : decode cX8_takeOut 52 = .ok (.iadd, 1) := by decide +kernel
theorem dX8_takeOut_53 : decode cX8_takeOut 53 = .ok (.invokestatic 122, 3) := by decide +kernel
theorem dX8_takeOut_56 : decode cX8_takeOut 56 = .ok (.iaload, 1) := by decide +kernel
theorem dX8_takeOut_57 : decode cX8_takeOut 57 = .ok (.iastore, 1) := by decide +kernel
theorem dX8_takeOut_58 : decode cX8_takeOut 58 = .ok (.iinc 4 1, 3) := by decide +kernel
theorem dX8_takeOut_61 : decode cX8_takeOut 61 = .ok (.goto (-44), 3) := by decide +kernel
theorem dX8_takeOut_64 : decode cX8_takeOut 64 = .ok (.return_, 1) := by decide +kernel
set_option maxRecDepth 20000 in
theorem ggX8_putIn_X8_spot : GoodIn wsX8_putIn wsX8_spot := goodIn_r _ [6] (by decide +kernel) (by decide +kernel)
set_option maxRecDepth 20000 in
theorem gX8_putIn_X8_spot : GoodIn wsX8_putIn (va_wsS RX8 122 yX8_spot wsX8_spot) := goodIn_app (goodIn_of _ (by decide +kernel)) ggX8_putIn_X8_spot
theorem dX8_putIn_0 : decode cX8_putIn 0 = .ok (.aload_n 0, 1) := by decide +kernel
theorem dX8_putIn_1 : decode cX8_putIn 1 = .ok (.getfield 42, 3) := by decide +kernel
theorem dX8_putIn_4 : decode cX8_putIn 4 = .ok (.iconst 2, 1) := by decide +kernel
theorem dX8_putIn_5 : decode cX8_putIn 5 = .ok (.iload_n 1, 1) := by decide +kernel
theorem dX8_putIn_6 : decode cX8_putIn 6 = .ok (.imul, 1) := by decide +kernel
theorem dX8_putIn_7 : decode cX8_putIn 7 = .ok (.iload_n 2, 1) := by decide +kernel
theorem dX8_putIn_8 : decode cX8_putIn 8 = .ok (.iadd, 1) := by decide +kernel
theorem dX8_putIn_9 : decode cX8_putIn 9 = .ok (.iaload, 1) := by decide +kernel
theorem dX8_putIn_10 : decode cX8_putIn 10 = .ok (.istore 5, 2) := by decide +kernel
theorem dX8_putIn_12 : decode cX8_putIn 12 = .ok (.iload 5, 2) := by decide +kernel
theorem dX8_putIn_14 : decode cX8_putIn 14 = .ok (.iload_n 3, 1) := by decide +kernel
theorem dX8_putIn_15 : decode cX8_putIn 15 = .ok (.if_icmp .le 35, 3) := by decide +kernel
theorem dX8_putIn_18 : decode cX8_putIn 18 = .ok (.aload_n 0, 1) := by decide +kernel
theorem dX8_putIn_19 : decode cX8_putIn 19 = .ok (.getfield 45, 3) := by decide +kernel
theorem dX8_putIn_22 : decode cX8_putIn 22 = .ok (.iload_n 1, 1) := by decide +kernel
theorem dX8_putIn_23 : decode cX8_putIn 23 = .ok (.iload_n 2, 1) := by decide +kernel
theorem dX8_putIn_24 : decode cX8_putIn 24 = .ok (.iload 5, 2) := by decide +kernel
theorem dX8_putIn_26 : decode cX8_putIn 26 = .ok (.invokestatic 122, 3) := by decide +kernel
theorem dX8_putIn_29 : decode cX8_putIn 29 = .ok (.aload_n 0, 1) := by decide +kernel
theorem dX8_putIn_30 : decode cX8_putIn 30 = .ok (.getfield 45, 3) := by decide +kernel
theorem dX8_putIn_33 : decode cX8_putIn 33 = .ok (.iload_n 1, 1) := by decide +kernel
theorem dX8_putIn_34 : decode cX8_putIn 34 = .ok (.iload_n 2, 1) := by decide +kernel
theorem dX8_putIn_35 : decode cX8_putIn 35 = .ok (.iload 5, 2) := by decide +kernel
theorem dX8_putIn_37 : decode cX8_putIn 37 = .ok (.iconst 1, 1) := by decide +kernel
theorem dX8_putIn_38 : decode cX8_putIn 38 = .ok (.isub, 1) := by decide +kernel
theorem dX8_putIn_39 : decode cX8_putIn 39 = .ok (.invokestatic 122, 3) := by decide +kernel
theorem dX8_putIn_42 : decode cX8_putIn 42 = .ok (.iaload, 1) := by decide +kernel
theorem dX8_putIn_43 : decode cX8_putIn 43 = .ok (.iastore, 1) := by decide +kernel
theorem dX8_putIn_44 : decode cX8_putIn 44 = .ok (.iinc 5 (-1), 3) := by decide +kernel
theorem dX8_putIn_47 : decode cX8_putIn 47 = .ok (.goto (-35), 3) := by decide +kernel
theorem dX8_putIn_50 : decode cX8_putIn 50 = .ok (.aload_n 0, 1) := by decide +kernel
theorem dX8_putIn_51 : decode cX8_putIn 51 = .ok (.getfield 45, 3) := by decide +kernel
theorem dX8_putIn_54 : decode cX8_putIn 54 = .ok (.iload_n 1, 1) := by decide +kernel
theorem dX8_putIn_55 : decode cX8_putIn 55 = .ok (.iload_n 2, 1) := by decide +kernel
theorem dX8_putIn_56 : decode cX8_putIn 56 = .ok (.iload_n 3, 1) := by decide +kernel
theorem dX8_putIn_57 : decode cX8_putIn 57 = .ok (.invokestatic 122, 3) := by decide +kernel
theorem dX8_putIn_60 : decode cX8_putIn 60 = .ok (.iload 4, 2) := by decide +kernel
theorem dX8_putIn_62 : decode cX8_putIn 62 = .ok (.iastore, 1) := by decide +kernel
theorem dX8_putIn_63 : decode cX8_putIn 63 = .ok (.aload_n 0, 1) := by decide +kernel
theorem dX8_putIn_64 : decode cX8_putIn 64 = .ok (.getfield 42, 3) := by decide +kernel
theorem dX8_putIn_67 : decode cX8_putIn 67 = .ok (.iconst 2, 1) := by decide +kernel
theorem dX8_putIn_68 : decode cX8_putIn 68 = .ok (.iload_n 1, 1) := by decide +kernel
theorem dX8_putIn_69 : decode cX8_putIn 69 = .ok (.imul, 1) := by decide +kernel
theorem dX8_putIn_70 : decode cX8_putIn 70 = .ok (.iload_n 2, 1) := by decide +kernel
theorem dX8_putIn_71 : decode cX8_putIn 71 = .ok (.iadd, 1) := by decide +kernel
theorem dX8_putIn_72 : decode cX8_putIn 72 = .ok (.dup2, 1) := by decide +kernel
theorem dX8_putIn_73 : decode cX8_putIn 73 = .ok (.iaload, 1) := by decide +kernel
theorem dX8_putIn_74 : decode cX8_putIn 74 = .ok (.iconst 1, 1) := by decide +kernel
theorem dX8_putIn_75 : decode cX8_putIn 75 = .ok (.iadd, 1) := by decide +kernel
theorem dX8_putIn_76 : decode cX8_putIn 76 = .ok (.iastore, 1) := by decide +kernel
theorem dX8_putIn_77 : decode cX8_putIn 77 = .ok (.return_, 1) := by decide +kernel
set_option maxRecDepth 20000 in
theorem ggX8_inOrder_X8_spot : GoodIn wsX8_inOrder wsX8_spot := goodIn_r _ [6] (by decide +kernel) (by decide +kernel)
set_option maxRecDepth 20000 in
theorem gX8_inOrder_X8_spot : GoodIn wsX8_inOrder (va_wsS RX8 122 yX8_spot wsX8_spot) := goodIn_app (goodIn_of _ (by decide +kernel)) ggX8_inOrder_X8_spot
theorem dX8_inOrder_0 : decode cX8_inOrder 0 = .ok (.iconst 0, 1) := by decide +kernel
theorem dX8_inOrder_1 : decode cX8_inOrder 1 = .ok (.istore 4, 2) := by decide +kernel
theorem dX8_inOrder_3 : decode cX8_inOrder 3 = .ok (.iload 4, 2) := by decide +kernel
theorem dX8_inOrder_5 : decode cX8_inOrder 5 = .ok (.aload_n 0, 1) := by decide +kernel
theorem dX8_inOrder_6 : decode cX8_inOrder 6 = .ok (.getfield 42, 3) := by decide +kernel
theorem dX8_inOrder_9 : decode cX8_inOrder 9 = .ok (.iconst 2, 1) := by decide +kernel
theorem dX8_inOrder_10 : decode cX8_inOrder 10 = .ok (.iload_n 1, 1) := by decide +kernel
theorem dX8_inOrder_11 : decode cX8_inOrder 11 = .ok (.imul, 1) := by decide +kernel
theorem dX8_inOrder_12 : decode cX8_inOrder 12 = .ok (.iload_n 2, 1) := by decide +kernel
theorem dX8_inOrder_13 : decode cX8_inOrder 13 = .ok (.iadd, 1) := by decide +kernel
theorem dX8_inOrder_14 : decode cX8_inOrder 14 = .ok (.iaload, 1) := by decide +kernel
theorem dX8_inOrder_15 : decode cX8_inOrder 15 = .ok (.if_icmp .ge 25, 3) := by decide +kernel
theorem dX8_inOrder_18 : decode cX8_inOrder 18 = .ok (.aload_n 0, 1) := by decide +kernel
theorem dX8_inOrder_19 : decode cX8_inOrder 19 = .ok (.getfield 45, 3) := by decide +kernel
theorem dX8_inOrder_22 : decode cX8_inOrder 22 = .ok (.iload_n 1, 1) := by decide +kernel
theorem dX8_inOrder_23 : decode cX8_inOrder 23 = .ok (.iload_n 2, 1) := by decide +kernel
theorem dX8_inOrder_24 : decode cX8_inOrder 24 = .ok (.iload 4, 2) := by decide +kernel
theorem dX8_inOrder_26 : decode cX8_inOrder 26 = .ok (.invokestatic 122, 3) := by decide +kernel
theorem dX8_inOrder_29 : decode cX8_inOrder 29 = .ok (.iaload, 1) := by decide +kernel
theorem dX8_inOrder_30 : decode cX8_inOrder 30 = .ok (.iload_n 3, 1) := by decide +kernel
theorem dX8_inOrder_31 : decode cX8_inOrder 31 = .ok (.if_icmp .gt 9, 3) := by decide +kernel
theorem dX8_inOrder_34 : decode cX8_inOrder 34 = .ok (.iinc 4 1, 3) := by decide +kernel
theorem dX8_inOrder_37 : decode cX8_inOrder 37 = .ok (.goto (-34), 3) := by decide +kernel
theorem dX8_inOrder_40 : decode cX8_inOrder 40 = .ok (.iload 4, 2) := by decide +kernel
theorem dX8_inOrder_42 : decode cX8_inOrder 42 = .ok (.ireturn, 1) := by decide +kernel
set_option maxRecDepth 20000 in
theorem ggX8_firstOf_X8_spot : GoodIn wsX8_firstOf wsX8_spot := goodIn_r _ [6] (by decide +kernel) (by decide +kernel)
set_option maxRecDepth 20000 in
theorem gX8_firstOf_X8_spot : GoodIn wsX8_firstOf (va_wsS RX8 122 yX8_spot wsX8_spot) := goodIn_app (goodIn_of _ (by decide +kernel)) ggX8_firstOf_X8_spot
theorem dX8_firstOf_0 : decode cX8_firstOf 0 = .ok (.iconst 0, 1) := by decide +kernel
theorem dX8_firstOf_1 : decode cX8_firstOf 1 = .ok (.istore 4, 2) := by decide +kernel
theorem dX8_firstOf_3 : decode cX8_firstOf 3 = .ok (.iload 4, 2) := by decide +kernel
theorem dX8_firstOf_5 : decode cX8_firstOf 5 = .ok (.aload_n 0, 1) := by decide +kernel
theorem dX8_firstOf_6 : decode cX8_firstOf 6 = .ok (.getfield 42, 3) := by decide +kernel
theorem dX8_firstOf_9 : decode cX8_firstOf 9 = .ok (.iconst 2, 1) := by decide +kernel
theorem dX8_firstOf_10 : decode cX8_firstOf 10 = .ok (.iload_n 1, 1) := by decide +kernel
theorem dX8_firstOf_11 : decode cX8_firstOf 11 = .ok (.imul, 1) := by decide +kernel
theorem dX8_firstOf_12 : decode cX8_firstOf 12 = .ok (.iload_n 2, 1) := by decide +kernel
theorem dX8_firstOf_13 : decode cX8_firstOf 13 = .ok (.iadd, 1) := by decide +kernel
theorem dX8_firstOf_14 : decode cX8_firstOf 14 = .ok (.iaload, 1) := by decide +kernel
theorem dX8_firstOf_15 : decode cX8_firstOf 15 = .ok (.if_icmp .ge 28, 3) := by decide +kernel
theorem dX8_firstOf_18 : decode cX8_firstOf 18 = .ok (.aload_n 0, 1) := by decide +kernel
theorem dX8_firstOf_19 : decode cX8_firstOf 19 = .ok (.getfield 45, 3) := by decide +kernel
theorem dX8_firstOf_22 : decode cX8_firstOf 22 = .ok (.iload_n 1, 1) := by decide +kernel
theorem dX8_firstOf_23 : decode cX8_firstOf 23 = .ok (.iload_n 2, 1) := by decide +kernel
theorem dX8_firstOf_24 : decode cX8_firstOf 24 = .ok (.iload 4, 2) := by decide +kernel
theorem dX8_firstOf_26 : decode cX8_firstOf 26 = .ok (.invokestatic 122, 3) := by decide +kernel
theorem dX8_firstOf_29 : decode cX8_firstOf 29 = .ok (.iaload, 1) := by decide +kernel
theorem dX8_firstOf_30 : decode cX8_firstOf 30 = .ok (.iload_n 3, 1) := by decide +kernel
theorem dX8_firstOf_31 : decode cX8_firstOf 31 = .ok (.if_icmp .ne 6, 3) := by decide +kernel
theorem dX8_firstOf_34 : decode cX8_firstOf 34 = .ok (.iload 4, 2) := by decide +kernel
theorem dX8_firstOf_36 : decode cX8_firstOf 36 = .ok (.ireturn, 1) := by decide +kernel
theorem dX8_firstOf_37 : decode cX8_firstOf 37 = .ok (.iinc 4 1, 3) := by decide +kernel
theorem dX8_firstOf_40 : decode cX8_firstOf 40 = .ok (.goto (-37), 3) := by decide +kernel
theorem dX8_firstOf_43 : decode cX8_firstOf 43 = .ok (.iconst (-1), 1) := by decide +kernel
theorem dX8_firstOf_44 : decode cX8_firstOf 44 = .ok (.ireturn, 1) := by decide +kernel
set_option maxRecDepth 20000 in
theorem ggX8_isBelow_X8_spot : GoodIn wsX8_isBelow wsX8_spot := goodIn_r _ [7] (by decide +kernel) (by decide +kernel)
set_option maxRecDepth 20000 in
theorem gX8_isBelow_X8_spot : GoodIn wsX8_isBelow (va_wsS RX8 122 yX8_spot wsX8_spot) := goodIn_app (goodIn_of _ (by decide +kernel)) ggX8_isBelow_X8_spot
theorem dX8_isBelow_0 : decode cX8_isBelow 0 = .ok (.aload_n 0, 1) := by decide +kernel
theorem dX8_isBelow_1 : decode cX8_isBelow 1 = .ok (.getfield 39, 3) := by decide +kernel
theorem dX8_isBelow_4 : decode cX8_isBelow 4 = .ok (.iload_n 1, 1) := by decide +kernel
theorem dX8_isBelow_5 : decode cX8_isBelow 5 = .ok (.iaload, 1) := by decide +kernel
theorem dX8_isBelow_6 : decode cX8_isBelow 6 = .ok (.aload_n 0, 1) := by decide +kernel
theorem dX8_isBelow_7 : decode cX8_isBelow 7 = .ok (.getfield 39, 3) := by decide +kernel
theorem dX8_isBelow_10 : decode cX8_isBelow 10 = .ok (.iload_n 2, 1) := by decide +kernel
theorem dX8_isBelow_11 : decode cX8_isBelow 11 = .ok (.iaload, 1) := by decide +kernel
theorem dX8_isBelow_12 : decode cX8_isBelow 12 = .ok (.if_icmp .ne 7, 3) := by decide +kernel
theorem dX8_isBelow_15 : decode cX8_isBelow 15 = .ok (.iconst 1, 1) := by decide +kernel
theorem dX8_isBelow_16 : decode cX8_isBelow 16 = .ok (.goto 4, 3) := by decide +kernel
theorem dX8_isBelow_19 : decode cX8_isBelow 19 = .ok (.iconst 0, 1) := by decide +kernel
theorem dX8_isBelow_20 : decode cX8_isBelow 20 = .ok (.istore_n 3, 1) := by decide +kernel
theorem dX8_isBelow_21 : decode cX8_isBelow 21 = .ok (.iconst 0, 1) := by decide +kernel
theorem dX8_isBelow_22 : decode cX8_isBelow 22 = .ok (.istore 4, 2) := by decide +kernel
theorem dX8_isBelow_24 : decode cX8_isBelow 24 = .ok (.iload 4, 2) := by decide +kernel
theorem dX8_isBelow_26 : decode cX8_isBelow 26 = .ok (.iconst 2, 1) := by decide +kernel
theorem dX8_isBelow_27 : decode cX8_isBelow 27 = .ok (.if_icmp .ge 118, 3) := by decide +kernel
theorem dX8_isBelow_30 : decode cX8_isBelow 30 = .ok (.iload_n 3, 1) := by decide +kernel
theorem dX8_isBelow_31 : decode cX8_isBelow 31 = .ok (.ifCond .eq 114, 3) := by decide +kernel
theorem dX8_isBelow_34 : decode cX8_isBelow 34 = .ok (.iconst 0, 1) := by decide +kernel
theorem dX8_isBelow_35 : decode cX8_isBelow 35 = .ok (.istore 5, 2) := by decide +kernel
theorem dX8_isBelow_37 : decode cX8_isBelow 37 = .ok (.iconst 0, 1) := by decide +kernel
theorem dX8_isBelow_38 : decode cX8_isBelow 38 = .ok (.istore 6, 2) := by decide +kernel
theorem dX8_isBelow_40 : decode cX8_isBelow 40 = .ok (.iload 6, 2) := by decide +kernel
theorem dX8_isBelow_42 : decode cX8_isBelow 42 = .ok (.aload_n 0, 1) := by decide +kernel
theorem dX8_isBelow_43 : decode cX8_isBelow 43 = .ok (.getfield 42, 3) := by decide +kernel
theorem dX8_isBelow_46 : decode cX8_isBelow 46 = .ok (.iconst 2, 1) := by decide +kernel
theorem dX8_isBelow_47 : decode cX8_isBelow 47 = .ok (.iload_n 2, 1) := by decide +kernel
theorem dX8_isBelow_48 : decode cX8_isBelow 48 = .ok (.imul, 1) := by decide +kernel
theorem dX8_isBelow_49 : decode cX8_isBelow 49 = .ok (.iload 4, 2) := by decide +kernel
theorem dX8_isBelow_51 : decode cX8_isBelow 51 = .ok (.iadd, 1) := by decide +kernel
theorem dX8_isBelow_52 : decode cX8_isBelow 52 = .ok (.iaload, 1) := by decide +kernel
theorem dX8_isBelow_53 : decode cX8_isBelow 53 = .ok (.if_icmp .ge 64, 3) := by decide +kernel
theorem dX8_isBelow_56 : decode cX8_isBelow 56 = .ok (.iload 5, 2) := by decide +kernel
theorem dX8_isBelow_58 : decode cX8_isBelow 58 = .ok (.aload_n 0, 1) := by decide +kernel
theorem dX8_isBelow_59 : decode cX8_isBelow 59 = .ok (.getfield 42, 3) := by decide +kernel
theorem dX8_isBelow_62 : decode cX8_isBelow 62 = .ok (.iconst 2, 1) := by decide +kernel
theorem dX8_isBelow_63 : decode cX8_isBelow 63 = .ok (.iload_n 1, 1) := by decide +kernel
theorem dX8_isBelow_64 : decode cX8_isBelow 64 = .ok (.imul, 1) := by decide +kernel
theorem dX8_isBelow_65 : decode cX8_isBelow 65 = .ok (.iload 4, 2) := by decide +kernel
theorem dX8_isBelow_67 : decode cX8_isBelow 67 = .ok (.iadd, 1) := by decide +kernel
theorem dX8_isBelow_68 : decode cX8_isBelow 68 = .ok (.iaload, 1) := by decide +kernel
theorem dX8_isBelow_69 : decode cX8_isBelow 69 = .ok (.if_icmp .ge 48, 3) := by decide +kernel
theorem dX8_isBelow_72 : decode cX8_isBelow 72 = .ok (.iload 5, 2) := by decide +kernel
theorem dX8_isBelow_74 : decode cX8_isBelow 74 = .ok (.aload_n 0, 1) := by decide +kernel
theorem dX8_isBelow_75 : decode cX8_isBelow 75 = .ok (.getfield 45, 3) := by decide +kernel
theorem dX8_isBelow_78 : decode cX8_isBelow 78 = .ok (.iload_n 2, 1) := by decide +kernel
theorem dX8_isBelow_79 : decode cX8_isBelow 79 = .ok (.iload 4, 2) := by decide +kernel
theorem dX8_isBelow_81 : decode cX8_isBelow 81 = .ok (.iload 6, 2) := by decide +kernel
theorem dX8_isBelow_83 : decode cX8_isBelow 83 = .ok (.invokestatic 122, 3) := by decide +kernel
theorem dX8_isBelow_86 : decode cX8_isBelow 86 = .ok (.iaload, 1) := by decide +kernel
theorem dX8_isBelow_87 : decode cX8_isBelow 87 = .ok (.aload_n 0, 1) := by decide +kernel
theorem dX8_isBelow_88 : decode cX8_isBelow 88 = .ok (.getfield 45, 3) := by decide +kernel
theorem dX8_isBelow_91 : decode cX8_isBelow 91 = .ok (.iload_n 1, 1) := by decide +kernel
theorem dX8_isBelow_92 : decode cX8_isBelow 92 = .ok (.iload 4, 2) := by decide +kernel
theorem dX8_isBelow_94 : decode cX8_isBelow 94 = .ok (.iload 5, 2) := by decide +kernel
theorem dX8_isBelow_96 : decode cX8_isBelow 96 = .ok (.invokestatic 122, 3) := by decide +kernel
theorem dX8_isBelow_99 : decode cX8_isBelow 99 = .ok (.iaload, 1) := by decide +kernel
theorem dX8_isBelow_100 : decode cX8_isBelow 100 = .ok (.if_icmp .ne 7, 3) := by decide +kernel
theorem dX8_isBelow_103 : decode cX8_isBelow 103 = .ok (.iconst 1, 1) := by decide +kernel
theorem dX8_isBelow_104 : decode cX8_isBelow 104 = .ok (.goto 4, 3) := by decide +kernel
theorem dX8_isBelow_107 : decode cX8_isBelow 107 = .ok (.iconst 0, 1) := by decide +kernel
theorem dX8_isBelow_108 : decode cX8_isBelow 108 = .ok (.iadd, 1) := by decide +kernel
theorem dX8_isBelow_109 : decode cX8_isBelow 109 = .ok (.istore 5, 2) := by decide +kernel
theorem dX8_isBelow_111 : decode cX8_isBelow 111 = .ok (.iinc 6 1, 3) := by decide +kernel
theorem dX8_isBelow_114 : decode cX8_isBelow 114 = .ok (.goto (-74), 3) := by decide +kernel
theorem dX8_isBelow_117 : decode cX8_isBelow 117 = .ok (.iload 5, 2) := by decide +kernel
theorem dX8_isBelow_119 : decode cX8_isBelow 119 = .ok (.aload_n 0, 1) := by decide +kernel
theorem dX8_isBelow_120 : decode cX8_isBelow 120 = .ok (.getfield 42, 3) := by decide +kernel
theorem dX8_isBelow_123 : decode cX8_isBelow 123 = .ok (.iconst 2, 1) := by decide +kernel
theorem dX8_isBelow_124 : decode cX8_isBelow 124 = .ok (.iload_n 1, 1) := by decide +kernel
theorem dX8_isBelow_125 : decode cX8_isBelow 125 = .ok (.imul, 1) := by decide +kernel
theorem dX8_isBelow_126 : decode cX8_isBelow 126 = .ok (.iload 4, 2) := by decide +kernel
theorem dX8_isBelow_128 : decode cX8_isBelow 128 = .ok (.iadd, 1) := by decide +kernel
theorem dX8_isBelow_129 : decode cX8_isBelow 129 = .ok (.iaload, 1) := by decide +kernel
theorem dX8_isBelow_130 : decode cX8_isBelow 130 = .ok (.if_icmp .ne 7, 3) := by decide +kernel
theorem dX8_isBelow_133 : decode cX8_isBelow 133 = .ok (.iconst 1, 1) := by decide +kernel
theorem dX8_isBelow_134 : decode cX8_isBelow 134 = .ok (.goto 4, 3) := by decide +kernel
theorem dX8_isBelow_137 : decode cX8_isBelow 137 = .ok (.iconst 0, 1) := by decide +kernel
theorem dX8_isBelow_138 : decode cX8_isBelow 138 = .ok (.istore_n 3, 1) := by decide +kernel
theorem dX8_isBelow_139 : decode cX8_isBelow 139 = .ok (.iinc 4 1, 3) := by decide +kernel
theorem dX8_isBelow_142 : decode cX8_isBelow 142 = .ok (.goto (-118), 3) := by decide +kernel
theorem dX8_isBelow_145 : decode cX8_isBelow 145 = .ok (.iload_n 3, 1) := by decide +kernel
theorem dX8_isBelow_146 : decode cX8_isBelow 146 = .ok (.ireturn, 1) := by decide +kernel
set_option maxRecDepth 20000 in
theorem ggX8_go_X8_isArc : GoodIn wsX8_go wsX8_isArc := goodIn_r _ [13, 14, 15, 16, 12, 17, 38, 39, 40, 41, 42, 43, 44, 45, 46, 47, 48, 49, 50, 51, 52, 53, 54, 55, 56, 57, 58, 59, 60, 61, 62] (by decide +kernel) (by decide +kernel)
set_option maxRecDepth 20000 in
theorem gX8_go_X8_isArc : GoodIn wsX8_go (wsV RX8 96 RX8 yX8_isArc wsX8_isArc) := goodIn_app (goodIn_of _ (by decide +kernel)) ggX8_go_X8_isArc
set_option maxRecDepth 20000 in
theorem ggX8_go_X8_firstOf : GoodIn wsX8_go wsX8_firstOf := goodIn_r _ [21, 7, 22, 23, 24, 12, 25, 38, 39, 40, 41, 42, 43, 44, 45, 46, 47, 48, 49, 50, 51, 52, 53, 54, 55, 56, 57, 58, 59, 60, 61, 62] (by decide +kernel) (by decide +kernel)
set_option maxRecDepth 20000 in
theorem gX8_go_X8_firstOf : GoodIn wsX8_go (wsV RX8 126 RX8 yX8_firstOf wsX8_firstOf) := goodIn_app (goodIn_of _ (by decide +kernel)) ggX8_go_X8_firstOf
set_option maxRecDepth 20000 in
theorem ggX8_go_X8_takeOut : GoodIn wsX8_go wsX8_takeOut := goodIn_r _ [29, 7, 22, 23, 24, 12, 25, 38, 39, 40, 41, 42, 43, 44, 45, 46, 47, 48, 49, 50, 51, 52, 53, 54, 55, 56, 57, 58, 59, 60, 61, 62] (by decide +kernel) (by decide +kernel)
set_option maxRecDepth 20000 in
theorem gX8_go_X8_takeOut : GoodIn wsX8_go (wsV RX8 129 RX8 yX8_takeOut wsX8_takeOut) := goodIn_app (goodIn_of _ (by decide +kernel)) ggX8_go_X8_takeOut
set_option maxRecDepth 20000 in
theorem ggX8_go_X8_inOrder : GoodIn wsX8_go wsX8_inOrder := goodIn_r _ [33, 7, 22, 23, 24, 12, 25, 38, 39, 40, 41, 42, 43, 44, 45, 46, 47, 48, 49, 50, 51, 52, 53, 54, 55, 56, 57, 58, 59, 60, 61, 62] (by decide +kernel) (by decide +kernel)
set_option maxRecDepth 20000 in
theorem gX8_go_X8_inOrder : GoodIn wsX8_go (wsV RX8 133 RX8 yX8_inOrder wsX8_inOrder) := goodIn_app (goodIn_of _ (by decide +kernel)) ggX8_go_X8_inOrder
set_option maxRecDepth 20000 in
theorem ggX8_go_X8_putIn : GoodIn wsX8_go wsX8_putIn := goodIn_r _ [37, 7, 22, 23, 24, 12, 25, 38, 39, 40, 41, 42, 43, 44, 45, 46, 47, 48, 49, 50, 51, 52, 53, 54, 55, 56, 57, 58, 59, 60, 61, 62] (by decide +kernel) (by decide +kernel)
set_option maxRecDepth 20000 in
theorem gX8_go_X8_putIn : GoodIn wsX8_go (wsV RX8 136 RX8 yX8_putIn wsX8_putIn) := goodIn_app (goodIn_of _ (by decide +kernel)) ggX8_go_X8_putIn
theorem dX8_go_0 : decode cX8_go 0 = .ok (.aload_n 0, 1) := by decide +kernel
theorem dX8_go_1 : decode cX8_go 1 = .ok (.iload_n 1, 1) := by decide +kernel
theorem dX8_go_2 : decode cX8_go 2 = .ok (.invokevirtual 96, 3) := by decide +kernel
theorem dX8_go_5 : decode cX8_go 5 = .ok (.ifCond .ne 5, 3) := by decide +kernel
theorem dX8_go_8 : decode cX8_go 8 = .ok (.iconst (-1), 1) := by decide +kernel
theorem dX8_go_9 : decode cX8_go 9 = .ok (.ireturn, 1) := by decide +kernel
theorem dX8_go_10 : decode cX8_go 10 = .ok (.aload_n 0, 1) := by decide +kernel
theorem dX8_go_11 : decode cX8_go 11 = .ok (.getfield 24, 3) := by decide +kernel
theorem dX8_go_14 : decode cX8_go 14 = .ok (.iload_n 1, 1) := by decide +kernel
theorem dX8_go_15 : decode cX8_go 15 = .ok (.iaload, 1) := by decide +kernel
theorem dX8_go_16 : decode cX8_go 16 = .ok (.istore_n 2, 1) := by decide +kernel
theorem dX8_go_17 : decode cX8_go 17 = .ok (.aload_n 0, 1) := by decide +kernel
theorem dX8_go_18 : decode cX8_go 18 = .ok (.getfield 27, 3) := by decide +kernel
theorem dX8_go_21 : decode cX8_go 21 = .ok (.iload_n 1, 1) := by decide +kernel
theorem dX8_go_22 : decode cX8_go 22 = .ok (.iaload, 1) := by decide +kernel
theorem dX8_go_23 : decode cX8_go 23 = .ok (.istore_n 3, 1) := by decide +kernel
theorem dX8_go_24 : decode cX8_go 24 = .ok (.aload_n 0, 1) := by decide +kernel
theorem dX8_go_25 : decode cX8_go 25 = .ok (.getfield 17, 3) := by decide +kernel
theorem dX8_go_28 : decode cX8_go 28 = .ok (.iload_n 1, 1) := by decide +kernel
theorem dX8_go_29 : decode cX8_go 29 = .ok (.iaload, 1) := by decide +kernel
theorem dX8_go_30 : decode cX8_go 30 = .ok (.aload_n 0, 1) := by decide +kernel
theorem dX8_go_31 : decode cX8_go 31 = .ok (.getfield 39, 3) := by decide +kernel
theorem dX8_go_34 : decode cX8_go 34 = .ok (.bipush 82, 2) := by decide +kernel
theorem dX8_go_36 : decode cX8_go 36 = .ok (.iaload, 1) := by decide +kernel
theorem dX8_go_37 : decode cX8_go 37 = .ok (.if_icmp .eq 6, 3) := by decide +kernel
theorem dX8_go_40 : decode cX8_go 40 = .ok (.bipush (-2), 2) := by decide +kernel
theorem dX8_go_42 : decode cX8_go 42 = .ok (.ireturn, 1) := by decide +kernel
theorem dX8_go_43 : decode cX8_go 43 = .ok (.aload_n 0, 1) := by decide +kernel
theorem dX8_go_44 : decode cX8_go 44 = .ok (.getfield 21, 3) := by decide +kernel
theorem dX8_go_47 : decode cX8_go 47 = .ok (.iload_n 1, 1) := by decide +kernel
theorem dX8_go_48 : decode cX8_go 48 = .ok (.iaload, 1) := by decide +kernel
theorem dX8_go_49 : decode cX8_go 49 = .ok (.iconst 2, 1) := by decide +kernel
theorem dX8_go_50 : decode cX8_go 50 = .ok (.if_icmp .ne 47, 3) := by decide +kernel
theorem dX8_go_53 : decode cX8_go 53 = .ok (.aload_n 0, 1) := by decide +kernel
theorem dX8_go_54 : decode cX8_go 54 = .ok (.bipush 82, 2) := by decide +kernel
theorem dX8_go_56 : decode cX8_go 56 = .ok (.iload_n 2, 1) := by decide +kernel
theorem dX8_go_57 : decode cX8_go 57 = .ok (.iload_n 3, 1) := by decide +kernel
theorem dX8_go_58 : decode cX8_go 58 = .ok (.invokevirtual 126, 3) := by decide +kernel
theorem dX8_go_61 : decode cX8_go 61 = .ok (.istore 4, 2) := by decide +kernel
theorem dX8_go_63 : decode cX8_go 63 = .ok (.iload 4, 2) := by decide +kernel
theorem dX8_go_65 : decode cX8_go 65 = .ok (.ifCond .lt 17, 3) := by decide +kernel
theorem dX8_go_68 : decode cX8_go 68 = .ok (.iload 4, 2) := by decide +kernel
theorem dX8_go_70 : decode cX8_go 70 = .ok (.ifCond .le 15, 3) := by decide +kernel
theorem dX8_go_73 : decode cX8_go 73 = .ok (.aload_n 0, 1) := by decide +kernel
theorem dX8_go_74 : decode cX8_go 74 = .ok (.getfield 13, 3) := by decide +kernel
theorem dX8_go_77 : decode cX8_go 77 = .ok (.iload_n 2, 1) := by decide +kernel
theorem dX8_go_78 : decode cX8_go 78 = .ok (.baload, 1) := by decide +kernel
theorem dX8_go_79 : decode cX8_go 79 = .ok (.ifCond .ne 6, 3) := by decide +kernel
theorem dX8_go_82 : decode cX8_go 82 = .ok (.bipush (-2), 2) := by decide +kernel
theorem dX8_go_84 : decode cX8_go 84 = .ok (.ireturn, 1) := by decide +kernel
theorem dX8_go_85 : decode cX8_go 85 = .ok (.aload_n 0, 1) := by decide +kernel
theorem dX8_go_86 : decode cX8_go 86 = .ok (.bipush 82, 2) := by decide +kernel
theorem dX8_go_88 : decode cX8_go 88 = .ok (.iload_n 2, 1) := by decide +kernel
theorem dX8_go_89 : decode cX8_go 89 = .ok (.iload 4, 2) := by decide +kernel
theorem dX8_go_91 : decode cX8_go 91 = .ok (.invokevirtual 129, 3) := by decide +kernel
theorem dX8_go_94 : decode cX8_go 94 = .ok (.goto 69, 3) := by decide +kernel
theorem dX8_go_97 : decode cX8_go 97 = .ok (.aload_n 0, 1) := by decide +kernel
theorem dX8_go_98 : decode cX8_go 98 = .ok (.getfield 21, 3) := by decide +kernel
theorem dX8_go_101 : decode cX8_go 101 = .ok (.iload_n 1, 1) := by decide +kernel
theorem dX8_go_102 : decode cX8_go 102 = .ok (.iaload, 1) := by decide +kernel
theorem dX8_go_103 : decode cX8_go 103 = .ok (.iconst 1, 1) := by decide +kernel
theorem dX8_go_104 : decode cX8_go 104 = .ok (.if_icmp .ne 59, 3) := by decide +kernel
theorem dX8_go_107 : decode cX8_go 107 = .ok (.aload_n 0, 1) := by decide +kernel
theorem dX8_go_108 : decode cX8_go 108 = .ok (.getfield 42, 3) := by decide +kernel
theorem dX8_go_111 : decode cX8_go 111 = .ok (.sipush 164, 3) := by decide +kernel
theorem dX8_go_114 : decode cX8_go 114 = .ok (.iload_n 2, 1) := by decide +kernel
theorem dX8_go_115 : decode cX8_go 115 = .ok (.iadd, 1) := by decide +kernel
theorem dX8_go_116 : decode cX8_go 116 = .ok (.iaload, 1) := by decide +kernel
theorem dX8_go_117 : decode cX8_go 117 = .ok (.bipush 10, 2) := by decide +kernel
theorem dX8_go_119 : decode cX8_go 119 = .ok (.if_icmp .ne 6, 3) := by decide +kernel
theorem dX8_go_122 : decode cX8_go 122 = .ok (.bipush (-3), 2) := by decide +kernel
theorem dX8_go_124 : decode cX8_go 124 = .ok (.ireturn, 1) := by decide +kernel
theorem dX8_go_125 : decode cX8_go 125 = .ok (.aload_n 0, 1) := by decide +kernel
theorem dX8_go_126 : decode cX8_go 126 = .ok (.bipush 82, 2) := by decide +kernel
theorem dX8_go_128 : decode cX8_go 128 = .ok (.iload_n 2, 1) := by decide +kernel
theorem dX8_go_129 : decode cX8_go 129 = .ok (.aload_n 0, 1) := by decide +kernel
theorem dX8_go_130 : decode cX8_go 130 = .ok (.getfield 13, 3) := by decide +kernel
theorem dX8_go_133 : decode cX8_go 133 = .ok (.iload_n 2, 1) := by decide +kernel
theorem dX8_go_134 : decode cX8_go 134 = .ok (.baload, 1) := by decide +kernel
theorem dX8_go_135 : decode cX8_go 135 = .ok (.ifCond .eq 14, 3) := by decide +kernel
theorem dX8_go_138 : decode cX8_go 138 = .ok (.aload_n 0, 1) := by decide +kernel
theorem dX8_go_139 : decode cX8_go 139 = .ok (.bipush 82, 2) := by decide +kernel
theorem dX8_go_141 : decode cX8_go 141 = .ok (.iload_n 2, 1) := by decide +kernel
theorem dX8_go_142 : decode cX8_go 142 = .ok (.iload_n 3, 1) := by decide +kernel
theorem dX8_go_143 : decode cX8_go 143 = .ok (.invokevirtual 133, 3) := by decide +kernel
theorem dX8_go_146 : decode cX8_go 146 = .ok (.goto 13, 3) := by decide +kernel
theorem dX8_go_149 : decode cX8_go 149 = .ok (.aload_n 0, 1) := by decide +kernel
theorem dX8_go_150 : decode cX8_go 150 = .ok (.getfield 42, 3) := by decide +kernel
theorem dX8_go_153 : decode cX8_go 153 = .ok (.sipush 164, 3) := by decide +kernel
theorem dX8_go_156 : decode cX8_go 156 = .ok (.iload_n 2, 1) := by decide +kernel
theorem dX8_go_157 : decode cX8_go 157 = .ok (.iadd, 1) := by decide +kernel
theorem dX8_go_158 : decode cX8_go 158 = .ok (.iaload, 1) := by decide +kernel
theorem dX8_go_159 : decode cX8_go 159 = .ok (.iload_n 3, 1) := by decide +kernel
theorem dX8_go_160 : decode cX8_go 160 = .ok (.invokevirtual 136, 3) := by decide +kernel
theorem dX8_go_163 : decode cX8_go 163 = .ok (.aload_n 0, 1) := by decide +kernel
theorem dX8_go_164 : decode cX8_go 164 = .ok (.getfield 39, 3) := by decide +kernel
theorem dX8_go_167 : decode cX8_go 167 = .ok (.bipush 82, 2) := by decide +kernel
theorem dX8_go_169 : decode cX8_go 169 = .ok (.aload_n 0, 1) := by decide +kernel
theorem dX8_go_170 : decode cX8_go 170 = .ok (.getfield 30, 3) := by decide +kernel
theorem dX8_go_173 : decode cX8_go 173 = .ok (.iload_n 1, 1) := by decide +kernel
theorem dX8_go_174 : decode cX8_go 174 = .ok (.iaload, 1) := by decide +kernel
theorem dX8_go_175 : decode cX8_go 175 = .ok (.iastore, 1) := by decide +kernel
theorem dX8_go_176 : decode cX8_go 176 = .ok (.aload_n 0, 1) := by decide +kernel
theorem dX8_go_177 : decode cX8_go 177 = .ok (.getfield 39, 3) := by decide +kernel
theorem dX8_go_180 : decode cX8_go 180 = .ok (.bipush 82, 2) := by decide +kernel
theorem dX8_go_182 : decode cX8_go 182 = .ok (.iaload, 1) := by decide +kernel
theorem dX8_go_183 : decode cX8_go 183 = .ok (.ireturn, 1) := by decide +kernel
set_option maxRecDepth 20000 in
theorem ggX8_lose_X8_in : GoodIn wsX8_lose wsX8_in := goodIn_r _ [6] (by decide +kernel) (by decide +kernel)
set_option maxRecDepth 20000 in
theorem gX8_lose_X8_in : GoodIn wsX8_lose (va_wsS RX8 73 yX8_in wsX8_in) := goodIn_app (goodIn_of _ (by decide +kernel)) ggX8_lose_X8_in
set_option maxRecDepth 20000 in
theorem ggX8_lose_X8_spot : GoodIn wsX8_lose wsX8_spot := goodIn_r _ [9] (by decide +kernel) (by decide +kernel)
set_option maxRecDepth 20000 in
theorem gX8_lose_X8_spot : GoodIn wsX8_lose (va_wsS RX8 122 yX8_spot wsX8_spot) := goodIn_app (goodIn_of _ (by decide +kernel)) ggX8_lose_X8_spot
set_option maxRecDepth 20000 in
theorem ggX8_lose_X8_takeOut : GoodIn wsX8_lose wsX8_takeOut := goodIn_r _ [13, 1, 2, 7, 8, 5, 9, 14, 15, 16, 17, 18, 19, 20, 21, 22, 23, 24, 25, 26, 27, 28, 29, 30, 31, 32, 33, 34, 35, 36, 37, 38] (by decide +kernel) (by decide +kernel)
set_option maxRecDepth 20000 in
theorem gX8_lose_X8_takeOut : GoodIn wsX8_lose (wsV RX8 129 RX8 yX8_takeOut wsX8_takeOut) := goodIn_app (goodIn_of _ (by decide +kernel)) ggX8_lose_X8_takeOut
theorem dX8_lose_0 : decode cX8_lose 0 = .ok (.iload_n 1, 1) := by decide +kernel
theorem dX8_lose_1 : decode cX8_lose 1 = .ok (.iconst 0, 1) := by decide +kernel
theorem dX8_lose_2 : decode cX8_lose 2 = .ok (.iconst 1, 1) := by decide +kernel
theorem dX8_lose_3 : decode cX8_lose 3 = .ok (.invokestatic 73, 3) := by decide +kernel
theorem dX8_lose_6 : decode cX8_lose 6 = .ok (.ifCond .eq 23, 3) := by decide +kernel
theorem dX8_lose_9 : decode cX8_lose 9 = .ok (.iload_n 2, 1) := by decide +kernel
theorem dX8_lose_10 : decode cX8_lose 10 = .ok (.iconst 0, 1) := by decide +kernel
theorem dX8_lose_11 : decode cX8_lose 11 = .ok (.aload_n 0, 1) := by decide +kernel
theorem dX8_lose_12 : decode cX8_lose 12 = .ok (.getfield 42, 3) := by decide +kernel
theorem dX8_lose_15 : decode cX8_lose 15 = .ok (.sipush 164, 3) := by decide +kernel
theorem dX8_lose_18 : decode cX8_lose 18 = .ok (.iload_n 1, 1) := by decide +kernel
theorem dX8_lose_19 : decode cX8_lose 19 = .ok (.iadd, 1) := by decide +kernel
theorem dX8_lose_20 : decode cX8_lose 20 = .ok (.iaload, 1) := by decide +kernel
theorem dX8_lose_21 : decode cX8_lose 21 = .ok (.iconst 1, 1) := by decide +kernel
theorem dX8_lose_22 : decode cX8_lose 22 = .ok (.isub, 1) := by decide +kernel
theorem dX8_lose_23 : decode cX8_lose 23 = .ok (.invokestatic 73, 3) := by decide +kernel
theorem dX8_lose_26 : decode cX8_lose 26 = .ok (.ifCond .ne 5, 3) := by decide +kernel
theorem dX8_lose_29 : decode cX8_lose 29 = .ok (.iconst (-1), 1) := by decide +kernel
theorem dX8_lose_30 : decode cX8_lose 30 = .ok (.ireturn, 1) := by decide +kernel
theorem dX8_lose_31 : decode cX8_lose 31 = .ok (.aload_n 0, 1) := by decide +kernel
theorem dX8_lose_32 : decode cX8_lose 32 = .ok (.getfield 45, 3) := by decide +kernel
theorem dX8_lose_35 : decode cX8_lose 35 = .ok (.bipush 82, 2) := by decide +kernel
theorem dX8_lose_37 : decode cX8_lose 37 = .ok (.iload_n 1, 1) := by decide +kernel
theorem dX8_lose_38 : decode cX8_lose 38 = .ok (.iload_n 2, 1) := by decide +kernel
theorem dX8_lose_39 : decode cX8_lose 39 = .ok (.invokestatic 122, 3) := by decide +kernel
theorem dX8_lose_42 : decode cX8_lose 42 = .ok (.iaload, 1) := by decide +kernel
theorem dX8_lose_43 : decode cX8_lose 43 = .ok (.istore_n 3, 1) := by decide +kernel
theorem dX8_lose_44 : decode cX8_lose 44 = .ok (.aload_n 0, 1) := by decide +kernel
theorem dX8_lose_45 : decode cX8_lose 45 = .ok (.bipush 82, 2) := by decide +kernel
theorem dX8_lose_47 : decode cX8_lose 47 = .ok (.iload_n 1, 1) := by decide +kernel
theorem dX8_lose_48 : decode cX8_lose 48 = .ok (.iload_n 2, 1) := by decide +kernel
theorem dX8_lose_49 : decode cX8_lose 49 = .ok (.invokevirtual 129, 3) := by decide +kernel
theorem dX8_lose_52 : decode cX8_lose 52 = .ok (.iload_n 3, 1) := by decide +kernel
theorem dX8_lose_53 : decode cX8_lose 53 = .ok (.ireturn, 1) := by decide +kernel
set_option maxRecDepth 20000 in
theorem ggX8_now_X8_in : GoodIn wsX8_now wsX8_in := goodIn_r _ [7] (by decide +kernel) (by decide +kernel)
set_option maxRecDepth 20000 in
theorem gX8_now_X8_in : GoodIn wsX8_now (va_wsS RX8 73 yX8_in wsX8_in) := goodIn_app (goodIn_of _ (by decide +kernel)) ggX8_now_X8_in
set_option maxRecDepth 20000 in
theorem ggX8_now_X8_spot : GoodIn wsX8_now wsX8_spot := goodIn_r _ [10] (by decide +kernel) (by decide +kernel)
set_option maxRecDepth 20000 in
theorem gX8_now_X8_spot : GoodIn wsX8_now (va_wsS RX8 122 yX8_spot wsX8_spot) := goodIn_app (goodIn_of _ (by decide +kernel)) ggX8_now_X8_spot
theorem dX8_now_0 : decode cX8_now 0 = .ok (.iload_n 2, 1) := by decide +kernel
theorem dX8_now_1 : decode cX8_now 1 = .ok (.bipush (-2), 2) := by decide +kernel
theorem dX8_now_3 : decode cX8_now 3 = .ok (.if_icmp .ne 11, 3) := by decide +kernel
theorem dX8_now_6 : decode cX8_now 6 = .ok (.aload_n 0, 1) := by decide +kernel
theorem dX8_now_7 : decode cX8_now 7 = .ok (.getfield 39, 3) := by decide +kernel
theorem dX8_now_10 : decode cX8_now 10 = .ok (.bipush 82, 2) := by decide +kernel
theorem dX8_now_12 : decode cX8_now 12 = .ok (.iaload, 1) := by decide +kernel
theorem dX8_now_13 : decode cX8_now 13 = .ok (.ireturn, 1) := by decide +kernel
theorem dX8_now_14 : decode cX8_now 14 = .ok (.iload_n 1, 1) := by decide +kernel
theorem dX8_now_15 : decode cX8_now 15 = .ok (.iconst 0, 1) := by decide +kernel
theorem dX8_now_16 : decode cX8_now 16 = .ok (.iconst 1, 1) := by decide +kernel
theorem dX8_now_17 : decode cX8_now 17 = .ok (.invokestatic 73, 3) := by decide +kernel
theorem dX8_now_20 : decode cX8_now 20 = .ok (.ifCond .eq 23, 3) := by decide +kernel
theorem dX8_now_23 : decode cX8_now 23 = .ok (.iload_n 2, 1) := by decide +kernel
theorem dX8_now_24 : decode cX8_now 24 = .ok (.iconst (-1), 1) := by decide +kernel
theorem dX8_now_25 : decode cX8_now 25 = .ok (.aload_n 0, 1) := by decide +kernel
theorem dX8_now_26 : decode cX8_now 26 = .ok (.getfield 42, 3) := by decide +kernel
theorem dX8_now_29 : decode cX8_now 29 = .ok (.sipush 164, 3) := by decide +kernel
theorem dX8_now_32 : decode cX8_now 32 = .ok (.iload_n 1, 1) := by decide +kernel
theorem dX8_now_33 : decode cX8_now 33 = .ok (.iadd, 1) := by decide +kernel
theorem dX8_now_34 : decode cX8_now 34 = .ok (.iaload, 1) := by decide +kernel
theorem dX8_now_35 : decode cX8_now 35 = .ok (.iconst 1, 1) := by decide +kernel
theorem dX8_now_36 : decode cX8_now 36 = .ok (.isub, 1) := by decide +kernel
theorem dX8_now_37 : decode cX8_now 37 = .ok (.invokestatic 73, 3) := by decide +kernel
theorem dX8_now_40 : decode cX8_now 40 = .ok (.ifCond .ne 5, 3) := by decide +kernel
theorem dX8_now_43 : decode cX8_now 43 = .ok (.iconst (-1), 1) := by decide +kernel
theorem dX8_now_44 : decode cX8_now 44 = .ok (.ireturn, 1) := by decide +kernel
theorem dX8_now_45 : decode cX8_now 45 = .ok (.iload_n 2, 1) := by decide +kernel
theorem dX8_now_46 : decode cX8_now 46 = .ok (.iconst (-1), 1) := by decide +kernel
theorem dX8_now_47 : decode cX8_now 47 = .ok (.if_icmp .ne 16, 3) := by decide +kernel
theorem dX8_now_50 : decode cX8_now 50 = .ok (.aload_n 0, 1) := by decide +kernel
theorem dX8_now_51 : decode cX8_now 51 = .ok (.getfield 42, 3) := by decide +kernel
theorem dX8_now_54 : decode cX8_now 54 = .ok (.sipush 164, 3) := by decide +kernel
theorem dX8_now_57 : decode cX8_now 57 = .ok (.iload_n 1, 1) := by decide +kernel
theorem dX8_now_58 : decode cX8_now 58 = .ok (.iadd, 1) := by decide +kernel
theorem dX8_now_59 : decode cX8_now 59 = .ok (.iaload, 1) := by decide +kernel
theorem dX8_now_60 : decode cX8_now 60 = .ok (.goto 15, 3) := by decide +kernel
theorem dX8_now_63 : decode cX8_now 63 = .ok (.aload_n 0, 1) := by decide +kernel
theorem dX8_now_64 : decode cX8_now 64 = .ok (.getfield 45, 3) := by decide +kernel
theorem dX8_now_67 : decode cX8_now 67 = .ok (.bipush 82, 2) := by decide +kernel
theorem dX8_now_69 : decode cX8_now 69 = .ok (.iload_n 1, 1) := by decide +kernel
theorem dX8_now_70 : decode cX8_now 70 = .ok (.iload_n 2, 1) := by decide +kernel
theorem dX8_now_71 : decode cX8_now 71 = .ok (.invokestatic 122, 3) := by decide +kernel
theorem dX8_now_74 : decode cX8_now 74 = .ok (.iaload, 1) := by decide +kernel
theorem dX8_now_75 : decode cX8_now 75 = .ok (.ireturn, 1) := by decide +kernel
set_option maxRecDepth 20000 in
theorem ggX8_reset_X8_empty : GoodIn wsX8_reset wsX8_empty := goodIn_r _ [5, 6, 7, 8, 9, 10, 11, 12, 13, 14, 15, 16, 17, 18, 19, 20, 21, 22, 23, 24, 25, 26, 27, 28, 29, 30, 31, 32] (by decide +kernel) (by decide +kernel)
set_option maxRecDepth 20000 in
theorem gX8_reset_X8_empty : GoodIn wsX8_reset (wsV RX8 80 RX8 yX8_empty wsX8_empty) := goodIn_app (goodIn_of _ (by decide +kernel)) ggX8_reset_X8_empty
theorem dX8_reset_0 : decode cX8_reset 0 = .ok (.aload_n 0, 1) := by decide +kernel
theorem dX8_reset_1 : decode cX8_reset 1 = .ok (.bipush 82, 2) := by decide +kernel
theorem dX8_reset_3 : decode cX8_reset 3 = .ok (.iconst 0, 1) := by decide +kernel
theorem dX8_reset_4 : decode cX8_reset 4 = .ok (.invokevirtual 80, 3) := by decide +kernel
theorem dX8_reset_7 : decode cX8_reset 7 = .ok (.iconst 1, 1) := by decide +kernel
theorem dX8_reset_8 : decode cX8_reset 8 = .ok (.ireturn, 1) := by decide +kernel
set_option maxRecDepth 20000 in
theorem ggX8_aim_X8_isState : GoodIn wsX8_aim wsX8_isState := goodIn_r _ [5, 6, 7, 8, 4, 9, 16, 17, 18, 19, 20, 21, 22, 23, 24, 25, 26, 27, 28, 29, 30, 31, 32, 33, 34, 35, 36, 37, 38, 39, 40] (by decide +kernel) (by decide +kernel)
set_option maxRecDepth 20000 in
theorem gX8_aim_X8_isState : GoodIn wsX8_aim (wsV RX8 84 RX8 yX8_isState wsX8_isState) := goodIn_app (goodIn_of _ (by decide +kernel)) ggX8_aim_X8_isState
set_option maxRecDepth 20000 in
theorem ggX8_aim_X8_empty : GoodIn wsX8_aim wsX8_empty := goodIn_r _ [13, 14, 15, 16, 17, 18, 19, 20, 21, 22, 23, 24, 25, 26, 27, 28, 29, 30, 31, 32, 33, 34, 35, 36, 37, 38, 39, 40] (by decide +kernel) (by decide +kernel)
set_option maxRecDepth 20000 in
theorem gX8_aim_X8_empty : GoodIn wsX8_aim (wsV RX8 80 RX8 yX8_empty wsX8_empty) := goodIn_app (goodIn_of _ (by decide +kernel)) ggX8_aim_X8_empty
theorem dX8_aim_0 : decode cX8_aim 0 = .ok (.aload_n 0, 1) := by decide +kernel
theorem dX8_aim_1 : decode cX8_aim 1 = .ok (.iload_n 1, 1) := by decide +kernel
theorem dX8_aim_2 : decode cX8_aim 2 = .ok (.invokevirtual 84, 3) := by decide +kernel
theorem dX8_aim_5 : decode cX8_aim 5 = .ok (.ifCond .ne 5, 3) := by decide +kernel
theorem dX8_aim_8 : decode cX8_aim 8 = .ok (.iconst (-1), 1) := by decide +kernel
theorem dX8_aim_9 : decode cX8_aim 9 = .ok (.ireturn, 1) := by decide +kernel
theorem dX8_aim_10 : decode cX8_aim 10 = .ok (.aload_n 0, 1) := by decide +kernel
theorem dX8_aim_11 : decode cX8_aim 11 = .ok (.bipush 81, 2) := by decide +kernel
theorem dX8_aim_13 : decode cX8_aim 13 = .ok (.iload_n 1, 1) := by decide +kernel
theorem dX8_aim_14 : decode cX8_aim 14 = .ok (.invokevirtual 80, 3) := by decide +kernel
theorem dX8_aim_17 : decode cX8_aim 17 = .ok (.iconst 1, 1) := by decide +kernel
theorem dX8_aim_18 : decode cX8_aim 18 = .ok (.ireturn, 1) := by decide +kernel
set_option maxRecDepth 20000 in
theorem ggX8_want_X8_in : GoodIn wsX8_want wsX8_in := goodIn_r _ [6] (by decide +kernel) (by decide +kernel)
set_option maxRecDepth 20000 in
theorem gX8_want_X8_in : GoodIn wsX8_want (va_wsS RX8 73 yX8_in wsX8_in) := goodIn_app (goodIn_of _ (by decide +kernel)) ggX8_want_X8_in
