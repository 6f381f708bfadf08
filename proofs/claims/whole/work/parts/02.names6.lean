theorem dX8_strict_170 : decode cX8_strict 170 = .ok (.aload_n 0, 1) := by decide +kernel
theorem dX8_strict_171 : decode cX8_strict 171 = .ok (.getfield 61, 3) := by decide +kernel
theorem dX8_strict_174 : decode cX8_strict 174 = .ok (.iload 5, 2) := by decide +kernel
theorem dX8_strict_176 : decode cX8_strict 176 = .ok (.iaload, 1) := by decide +kernel
theorem dX8_strict_177 : decode cX8_strict 177 = .ok (.ifCond .ge 34, 3) := by decide +kernel
theorem dX8_strict_180 : decode cX8_strict 180 = .ok (.aload_n 0, 1) := by decide +kernel
theorem dX8_strict_181 : decode cX8_strict 181 = .ok (.getfield 61, 3) := by decide +kernel
theorem dX8_strict_184 : decode cX8_strict 184 = .ok (.iload 5, 2) := by decide +kernel
theorem dX8_strict_186 : decode cX8_strict 186 = .ok (.aload_n 0, 1) := by decide +kernel
theorem dX8_strict_187 : decode cX8_strict 187 = .ok (.getfield 61, 3) := by decide +kernel
theorem dX8_strict_190 : decode cX8_strict 190 = .ok (.aload_n 0, 1) := by decide +kernel
theorem dX8_strict_191 : decode cX8_strict 191 = .ok (.getfield 58, 3) := by decide +kernel
theorem dX8_strict_194 : decode cX8_strict 194 = .ok (.iload_n 3, 1) := by decide +kernel
theorem dX8_strict_195 : decode cX8_strict 195 = .ok (.iaload, 1) := by decide +kernel
theorem dX8_strict_196 : decode cX8_strict 196 = .ok (.iaload, 1) := by decide +kernel
theorem dX8_strict_197 : decode cX8_strict 197 = .ok (.iconst 1, 1) := by decide +kernel
theorem dX8_strict_198 : decode cX8_strict 198 = .ok (.iadd, 1) := by decide +kernel
theorem dX8_strict_199 : decode cX8_strict 199 = .ok (.iastore, 1) := by decide +kernel
theorem dX8_strict_200 : decode cX8_strict 200 = .ok (.aload_n 0, 1) := by decide +kernel
theorem dX8_strict_201 : decode cX8_strict 201 = .ok (.getfield 58, 3) := by decide +kernel
theorem dX8_strict_204 : decode cX8_strict 204 = .ok (.iload_n 2, 1) := by decide +kernel
theorem dX8_strict_205 : decode cX8_strict 205 = .ok (.iload 5, 2) := by decide +kernel
theorem dX8_strict_207 : decode cX8_strict 207 = .ok (.iastore, 1) := by decide +kernel
theorem dX8_strict_208 : decode cX8_strict 208 = .ok (.iinc 2 1, 3) := by decide +kernel
theorem dX8_strict_211 : decode cX8_strict 211 = .ok (.iinc 4 1, 3) := by decide +kernel
theorem dX8_strict_214 : decode cX8_strict 214 = .ok (.goto (-90), 3) := by decide +kernel
theorem dX8_strict_217 : decode cX8_strict 217 = .ok (.iinc 3 1, 3) := by decide +kernel
theorem dX8_strict_220 : decode cX8_strict 220 = .ok (.goto (-137), 3) := by decide +kernel
theorem dX8_strict_223 : decode cX8_strict 223 = .ok (.bipush (-4), 2) := by decide +kernel
theorem dX8_strict_225 : decode cX8_strict 225 = .ok (.ireturn, 1) := by decide +kernel
set_option maxRecDepth 20000 in
theorem ggX8_lay_X8_decode : GoodIn wsX8_lay wsX8_decode := goodIn_r _ [6, 7, 8, 9, 10, 5, 11, 12, 13, 14, 15, 16, 17, 18, 19, 20, 21, 22, 23, 24, 25, 26, 27, 28, 29, 30, 31, 32, 33, 34, 35, 36] (by decide +kernel) (by decide +kernel)
set_option maxRecDepth 20000 in
theorem gX8_lay_X8_decode : GoodIn wsX8_lay (wsV RX8 186 RX8 yX8_decode wsX8_decode) := goodIn_app (goodIn_of _ (by decide +kernel)) ggX8_lay_X8_decode
theorem dX8_lay_0 : decode cX8_lay 0 = .ok (.aload_n 0, 1) := by decide +kernel
theorem dX8_lay_1 : decode cX8_lay 1 = .ok (.getfield 39, 3) := by decide +kernel
theorem dX8_lay_4 : decode cX8_lay 4 = .ok (.bipush 80, 2) := by decide +kernel
theorem dX8_lay_6 : decode cX8_lay 6 = .ok (.iload_n 1, 1) := by decide +kernel
theorem dX8_lay_7 : decode cX8_lay 7 = .ok (.sipush 4096, 3) := by decide +kernel
theorem dX8_lay_10 : decode cX8_lay 10 = .ok (.idiv, 1) := by decide +kernel
theorem dX8_lay_11 : decode cX8_lay 11 = .ok (.iastore, 1) := by decide +kernel
theorem dX8_lay_12 : decode cX8_lay 12 = .ok (.aload_n 0, 1) := by decide +kernel
theorem dX8_lay_13 : decode cX8_lay 13 = .ok (.iload_n 1, 1) := by decide +kernel
theorem dX8_lay_14 : decode cX8_lay 14 = .ok (.bipush 64, 2) := by decide +kernel
theorem dX8_lay_16 : decode cX8_lay 16 = .ok (.idiv, 1) := by decide +kernel
theorem dX8_lay_17 : decode cX8_lay 17 = .ok (.bipush 64, 2) := by decide +kernel
theorem dX8_lay_19 : decode cX8_lay 19 = .ok (.irem, 1) := by decide +kernel
theorem dX8_lay_20 : decode cX8_lay 20 = .ok (.bipush 80, 2) := by decide +kernel
theorem dX8_lay_22 : decode cX8_lay 22 = .ok (.iconst 0, 1) := by decide +kernel
theorem dX8_lay_23 : decode cX8_lay 23 = .ok (.invokevirtual 186, 3) := by decide +kernel
theorem dX8_lay_26 : decode cX8_lay 26 = .ok (.aload_n 0, 1) := by decide +kernel
theorem dX8_lay_27 : decode cX8_lay 27 = .ok (.iload_n 1, 1) := by decide +kernel
theorem dX8_lay_28 : decode cX8_lay 28 = .ok (.bipush 64, 2) := by decide +kernel
theorem dX8_lay_30 : decode cX8_lay 30 = .ok (.irem, 1) := by decide +kernel
theorem dX8_lay_31 : decode cX8_lay 31 = .ok (.bipush 80, 2) := by decide +kernel
theorem dX8_lay_33 : decode cX8_lay 33 = .ok (.iconst 1, 1) := by decide +kernel
theorem dX8_lay_34 : decode cX8_lay 34 = .ok (.invokevirtual 186, 3) := by decide +kernel
theorem dX8_lay_37 : decode cX8_lay 37 = .ok (.return_, 1) := by decide +kernel
set_option maxRecDepth 20000 in
theorem ggX8_isSheet_X8_in : GoodIn wsX8_isSheet wsX8_in := goodIn_r _ [4] (by decide +kernel) (by decide +kernel)
set_option maxRecDepth 20000 in
theorem gX8_isSheet_X8_in : GoodIn wsX8_isSheet (va_wsS RX8 73 yX8_in wsX8_in) := goodIn_app (goodIn_of _ (by decide +kernel)) ggX8_isSheet_X8_in
theorem dX8_isSheet_0 : decode cX8_isSheet 0 = .ok (.iload_n 0, 1) := by decide +kernel
theorem dX8_isSheet_1 : decode cX8_isSheet 1 = .ok (.iconst 0, 1) := by decide +kernel
theorem dX8_isSheet_2 : decode cX8_isSheet 2 = .ok (.iconst 1, 1) := by decide +kernel
theorem dX8_isSheet_3 : decode cX8_isSheet 3 = .ok (.invokestatic 73, 3) := by decide +kernel
theorem dX8_isSheet_6 : decode cX8_isSheet 6 = .ok (.ireturn, 1) := by decide +kernel
set_option maxRecDepth 20000 in
theorem ggX8_sheet_X8_isSheet : GoodIn wsX8_sheet wsX8_isSheet := goodIn_r _ [7, 8, 9, 6, 10] (by decide +kernel) (by decide +kernel)
set_option maxRecDepth 20000 in
theorem gX8_sheet_X8_isSheet : GoodIn wsX8_sheet (va_wsS RX8 189 yX8_isSheet wsX8_isSheet) := goodIn_app (goodIn_of _ (by decide +kernel)) ggX8_sheet_X8_isSheet
set_option maxRecDepth 20000 in
theorem ggX8_sheet_X8_in : GoodIn wsX8_sheet wsX8_in := goodIn_r _ [10] (by decide +kernel) (by decide +kernel)
set_option maxRecDepth 20000 in
theorem gX8_sheet_X8_in : GoodIn wsX8_sheet (va_wsS RX8 73 yX8_in wsX8_in) := goodIn_app (goodIn_of _ (by decide +kernel)) ggX8_sheet_X8_in
theorem dX8_sheet_0 : decode cX8_sheet 0 = .ok (.iload_n 1, 1) := by decide +kernel
theorem dX8_sheet_1 : decode cX8_sheet 1 = .ok (.invokestatic 189, 3) := by decide +kernel
theorem dX8_sheet_4 : decode cX8_sheet 4 = .ok (.ifCond .eq 18, 3) := by decide +kernel
theorem dX8_sheet_7 : decode cX8_sheet 7 = .ok (.iload_n 2, 1) := by decide +kernel
theorem dX8_sheet_8 : decode cX8_sheet 8 = .ok (.iconst 0, 1) := by decide +kernel
theorem dX8_sheet_9 : decode cX8_sheet 9 = .ok (.iconst 1, 1) := by decide +kernel
theorem dX8_sheet_10 : decode cX8_sheet 10 = .ok (.invokestatic 73, 3) := by decide +kernel
theorem dX8_sheet_13 : decode cX8_sheet 13 = .ok (.ifCond .eq 9, 3) := by decide +kernel
theorem dX8_sheet_16 : decode cX8_sheet 16 = .ok (.iload_n 3, 1) := by decide +kernel
theorem dX8_sheet_17 : decode cX8_sheet 17 = .ok (.bipush 60, 2) := by decide +kernel
theorem dX8_sheet_19 : decode cX8_sheet 19 = .ok (.if_icmp .le 5, 3) := by decide +kernel
theorem dX8_sheet_22 : decode cX8_sheet 22 = .ok (.iconst (-1), 1) := by decide +kernel
theorem dX8_sheet_23 : decode cX8_sheet 23 = .ok (.ireturn, 1) := by decide +kernel
theorem dX8_sheet_24 : decode cX8_sheet 24 = .ok (.iload_n 3, 1) := by decide +kernel
theorem dX8_sheet_25 : decode cX8_sheet 25 = .ok (.ifCond .ge 6, 3) := by decide +kernel
theorem dX8_sheet_28 : decode cX8_sheet 28 = .ok (.bipush (-14), 2) := by decide +kernel
theorem dX8_sheet_30 : decode cX8_sheet 30 = .ok (.ireturn, 1) := by decide +kernel
theorem dX8_sheet_31 : decode cX8_sheet 31 = .ok (.aload_n 0, 1) := by decide +kernel
theorem dX8_sheet_32 : decode cX8_sheet 32 = .ok (.getfield 64, 3) := by decide +kernel
theorem dX8_sheet_35 : decode cX8_sheet 35 = .ok (.iload_n 1, 1) := by decide +kernel
theorem dX8_sheet_36 : decode cX8_sheet 36 = .ok (.iload_n 2, 1) := by decide +kernel
theorem dX8_sheet_37 : decode cX8_sheet 37 = .ok (.iastore, 1) := by decide +kernel
theorem dX8_sheet_38 : decode cX8_sheet 38 = .ok (.aload_n 0, 1) := by decide +kernel
theorem dX8_sheet_39 : decode cX8_sheet 39 = .ok (.getfield 67, 3) := by decide +kernel
theorem dX8_sheet_42 : decode cX8_sheet 42 = .ok (.iload_n 1, 1) := by decide +kernel
theorem dX8_sheet_43 : decode cX8_sheet 43 = .ok (.iload_n 3, 1) := by decide +kernel
theorem dX8_sheet_44 : decode cX8_sheet 44 = .ok (.iastore, 1) := by decide +kernel
theorem dX8_sheet_45 : decode cX8_sheet 45 = .ok (.iconst 0, 1) := by decide +kernel
theorem dX8_sheet_46 : decode cX8_sheet 46 = .ok (.istore 4, 2) := by decide +kernel
theorem dX8_sheet_48 : decode cX8_sheet 48 = .ok (.iload 4, 2) := by decide +kernel
theorem dX8_sheet_50 : decode cX8_sheet 50 = .ok (.bipush 60, 2) := by decide +kernel
theorem dX8_sheet_52 : decode cX8_sheet 52 = .ok (.if_icmp .ge 22, 3) := by decide +kernel
theorem dX8_sheet_55 : decode cX8_sheet 55 = .ok (.aload_n 0, 1) := by decide +kernel
theorem dX8_sheet_56 : decode cX8_sheet 56 = .ok (.getfield 70, 3) := by decide +kernel
theorem dX8_sheet_59 : decode cX8_sheet 59 = .ok (.bipush 60, 2) := by decide +kernel
theorem dX8_sheet_61 : decode cX8_sheet 61 = .ok (.iload_n 1, 1) := by decide +kernel
theorem dX8_sheet_62 : decode cX8_sheet 62 = .ok (.imul, 1) := by decide +kernel
theorem dX8_sheet_63 : decode cX8_sheet 63 = .ok (.iload 4, 2) := by decide +kernel
theorem dX8_sheet_65 : decode cX8_sheet 65 = .ok (.iadd, 1) := by decide +kernel
theorem dX8_sheet_66 : decode cX8_sheet 66 = .ok (.iconst 0, 1) := by decide +kernel
theorem dX8_sheet_67 : decode cX8_sheet 67 = .ok (.iastore, 1) := by decide +kernel
theorem dX8_sheet_68 : decode cX8_sheet 68 = .ok (.iinc 4 1, 3) := by decide +kernel
theorem dX8_sheet_71 : decode cX8_sheet 71 = .ok (.goto (-23), 3) := by decide +kernel
theorem dX8_sheet_74 : decode cX8_sheet 74 = .ok (.iload_n 3, 1) := by decide +kernel
theorem dX8_sheet_75 : decode cX8_sheet 75 = .ok (.ireturn, 1) := by decide +kernel
set_option maxRecDepth 20000 in
theorem ggX8_drop_X8_isSheet : GoodIn wsX8_drop wsX8_isSheet := goodIn_r _ [6, 7, 8, 5, 9] (by decide +kernel) (by decide +kernel)
set_option maxRecDepth 20000 in
theorem gX8_drop_X8_isSheet : GoodIn wsX8_drop (va_wsS RX8 189 yX8_isSheet wsX8_isSheet) := goodIn_app (goodIn_of _ (by decide +kernel)) ggX8_drop_X8_isSheet
theorem dX8_drop_0 : decode cX8_drop 0 = .ok (.iload_n 1, 1) := by decide +kernel
theorem dX8_drop_1 : decode cX8_drop 1 = .ok (.invokestatic 189, 3) := by decide +kernel
theorem dX8_drop_4 : decode cX8_drop 4 = .ok (.ifCond .ne 5, 3) := by decide +kernel
theorem dX8_drop_7 : decode cX8_drop 7 = .ok (.iconst (-1), 1) := by decide +kernel
theorem dX8_drop_8 : decode cX8_drop 8 = .ok (.ireturn, 1) := by decide +kernel
theorem dX8_drop_9 : decode cX8_drop 9 = .ok (.aload_n 0, 1) := by decide +kernel
theorem dX8_drop_10 : decode cX8_drop 10 = .ok (.getfield 64, 3) := by decide +kernel
theorem dX8_drop_13 : decode cX8_drop 13 = .ok (.iload_n 1, 1) := by decide +kernel
theorem dX8_drop_14 : decode cX8_drop 14 = .ok (.iaload, 1) := by decide +kernel
theorem dX8_drop_15 : decode cX8_drop 15 = .ok (.ifCond .ge 6, 3) := by decide +kernel
theorem dX8_drop_18 : decode cX8_drop 18 = .ok (.bipush (-11), 2) := by decide +kernel
theorem dX8_drop_20 : decode cX8_drop 20 = .ok (.ireturn, 1) := by decide +kernel
theorem dX8_drop_21 : decode cX8_drop 21 = .ok (.aload_n 0, 1) := by decide +kernel
theorem dX8_drop_22 : decode cX8_drop 22 = .ok (.getfield 64, 3) := by decide +kernel
theorem dX8_drop_25 : decode cX8_drop 25 = .ok (.iload_n 1, 1) := by decide +kernel
theorem dX8_drop_26 : decode cX8_drop 26 = .ok (.iconst (-1), 1) := by decide +kernel
theorem dX8_drop_27 : decode cX8_drop 27 = .ok (.iastore, 1) := by decide +kernel
theorem dX8_drop_28 : decode cX8_drop 28 = .ok (.aload_n 0, 1) := by decide +kernel
theorem dX8_drop_29 : decode cX8_drop 29 = .ok (.getfield 67, 3) := by decide +kernel
theorem dX8_drop_32 : decode cX8_drop 32 = .ok (.iload_n 1, 1) := by decide +kernel
theorem dX8_drop_33 : decode cX8_drop 33 = .ok (.iaload, 1) := by decide +kernel
theorem dX8_drop_34 : decode cX8_drop 34 = .ok (.ireturn, 1) := by decide +kernel
set_option maxRecDepth 20000 in
theorem ggX8_item_X8_isSheet : GoodIn wsX8_item wsX8_isSheet := goodIn_r _ [7, 8, 9, 6, 10] (by decide +kernel) (by decide +kernel)
set_option maxRecDepth 20000 in
theorem gX8_item_X8_isSheet : GoodIn wsX8_item (va_wsS RX8 189 yX8_isSheet wsX8_isSheet) := goodIn_app (goodIn_of _ (by decide +kernel)) ggX8_item_X8_isSheet
set_option maxRecDepth 20000 in
theorem ggX8_item_X8_in : GoodIn wsX8_item wsX8_in := goodIn_r _ [10] (by decide +kernel) (by decide +kernel)
set_option maxRecDepth 20000 in
theorem gX8_item_X8_in : GoodIn wsX8_item (va_wsS RX8 73 yX8_in wsX8_in) := goodIn_app (goodIn_of _ (by decide +kernel)) ggX8_item_X8_in
theorem dX8_item_0 : decode cX8_item 0 = .ok (.iload_n 1, 1) := by decide +kernel
theorem dX8_item_1 : decode cX8_item 1 = .ok (.invokestatic 189, 3) := by decide +kernel
theorem dX8_item_4 : decode cX8_item 4 = .ok (.ifCond .eq 12, 3) := by decide +kernel
theorem dX8_item_7 : decode cX8_item 7 = .ok (.iload_n 2, 1) := by decide +kernel
theorem dX8_item_8 : decode cX8_item 8 = .ok (.iconst 0, 1) := by decide +kernel
theorem dX8_item_9 : decode cX8_item 9 = .ok (.iconst 1, 1) := by decide +kernel
theorem dX8_item_10 : decode cX8_item 10 = .ok (.invokestatic 73, 3) := by decide +kernel
theorem dX8_item_13 : decode cX8_item 13 = .ok (.ifCond .ne 5, 3) := by decide +kernel
theorem dX8_item_16 : decode cX8_item 16 = .ok (.iconst (-1), 1) := by decide +kernel
theorem dX8_item_17 : decode cX8_item 17 = .ok (.ireturn, 1) := by decide +kernel
theorem dX8_item_18 : decode cX8_item 18 = .ok (.aload_n 0, 1) := by decide +kernel
theorem dX8_item_19 : decode cX8_item 19 = .ok (.getfield 64, 3) := by decide +kernel
theorem dX8_item_22 : decode cX8_item 22 = .ok (.iload_n 1, 1) := by decide +kernel
theorem dX8_item_23 : decode cX8_item 23 = .ok (.iaload, 1) := by decide +kernel
theorem dX8_item_24 : decode cX8_item 24 = .ok (.ifCond .ge 6, 3) := by decide +kernel
theorem dX8_item_27 : decode cX8_item 27 = .ok (.bipush (-11), 2) := by decide +kernel
theorem dX8_item_29 : decode cX8_item 29 = .ok (.ireturn, 1) := by decide +kernel
theorem dX8_item_30 : decode cX8_item 30 = .ok (.aload_n 0, 1) := by decide +kernel
theorem dX8_item_31 : decode cX8_item 31 = .ok (.getfield 64, 3) := by decide +kernel
theorem dX8_item_34 : decode cX8_item 34 = .ok (.iload_n 1, 1) := by decide +kernel
theorem dX8_item_35 : decode cX8_item 35 = .ok (.iaload, 1) := by decide +kernel
theorem dX8_item_36 : decode cX8_item 36 = .ok (.iload_n 2, 1) := by decide +kernel
theorem dX8_item_37 : decode cX8_item 37 = .ok (.if_icmp .eq 6, 3) := by decide +kernel
theorem dX8_item_40 : decode cX8_item 40 = .ok (.bipush (-12), 2) := by decide +kernel
theorem dX8_item_42 : decode cX8_item 42 = .ok (.ireturn, 1) := by decide +kernel
theorem dX8_item_43 : decode cX8_item 43 = .ok (.iload_n 3, 1) := by decide +kernel
theorem dX8_item_44 : decode cX8_item 44 = .ok (.iconst 0, 1) := by decide +kernel
theorem dX8_item_45 : decode cX8_item 45 = .ok (.aload_n 0, 1) := by decide +kernel
theorem dX8_item_46 : decode cX8_item 46 = .ok (.getfield 67, 3) := by decide +kernel
theorem dX8_item_49 : decode cX8_item 49 = .ok (.iload_n 1, 1) := by decide +kernel
theorem dX8_item_50 : decode cX8_item 50 = .ok (.iaload, 1) := by decide +kernel
theorem dX8_item_51 : decode cX8_item 51 = .ok (.iconst 1, 1) := by decide +kernel
theorem dX8_item_52 : decode cX8_item 52 = .ok (.isub, 1) := by decide +kernel
theorem dX8_item_53 : decode cX8_item 53 = .ok (.invokestatic 73, 3) := by decide +kernel
theorem dX8_item_56 : decode cX8_item 56 = .ok (.ifCond .ne 6, 3) := by decide +kernel
theorem dX8_item_59 : decode cX8_item 59 = .ok (.bipush (-13), 2) := by decide +kernel
theorem dX8_item_61 : decode cX8_item 61 = .ok (.ireturn, 1) := by decide +kernel
theorem dX8_item_62 : decode cX8_item 62 = .ok (.aload_n 0, 1) := by decide +kernel
theorem dX8_item_63 : decode cX8_item 63 = .ok (.getfield 70, 3) := by decide +kernel
theorem dX8_item_66 : decode cX8_item 66 = .ok (.bipush 60, 2) := by decide +kernel
theorem dX8_item_68 : decode cX8_item 68 = .ok (.iload_n 1, 1) := by decide +kernel
theorem dX8_item_69 : decode cX8_item 69 = .ok (.imul, 1) := by decide +kernel
theorem dX8_item_70 : decode cX8_item 70 = .ok (.iload_n 3, 1) := by decide +kernel
theorem dX8_item_71 : decode cX8_item 71 = .ok (.iadd, 1) := by decide +kernel
theorem dX8_item_72 : decode cX8_item 72 = .ok (.iload_n 2, 1) := by decide +kernel
theorem dX8_item_73 : decode cX8_item 73 = .ok (.ifCond .ne 9, 3) := by decide +kernel
theorem dX8_item_76 : decode cX8_item 76 = .ok (.iload 4, 2) := by decide +kernel
theorem dX8_item_78 : decode cX8_item 78 = .ok (.i2b, 1) := by decide +kernel
theorem dX8_item_79 : decode cX8_item 79 = .ok (.goto 5, 3) := by decide +kernel
theorem dX8_item_82 : decode cX8_item 82 = .ok (.iload 4, 2) := by decide +kernel
theorem dX8_item_84 : decode cX8_item 84 = .ok (.iastore, 1) := by decide +kernel
theorem dX8_item_85 : decode cX8_item 85 = .ok (.iconst 1, 1) := by decide +kernel
theorem dX8_item_86 : decode cX8_item 86 = .ok (.ireturn, 1) := by decide +kernel
set_option maxRecDepth 20000 in
theorem ggX8_arcs_X8_isSheet : GoodIn wsX8_arcs wsX8_isSheet := goodIn_r _ [8, 9, 10, 7, 11] (by decide +kernel) (by decide +kernel)
set_option maxRecDepth 20000 in
theorem gX8_arcs_X8_isSheet : GoodIn wsX8_arcs (va_wsS RX8 189 yX8_isSheet wsX8_isSheet) := goodIn_app (goodIn_of _ (by decide +kernel)) ggX8_arcs_X8_isSheet
set_option maxRecDepth 20000 in
theorem ggX8_arcs_X8_in : GoodIn wsX8_arcs wsX8_in := goodIn_r _ [11] (by decide +kernel) (by decide +kernel)
set_option maxRecDepth 20000 in
theorem gX8_arcs_X8_in : GoodIn wsX8_arcs (va_wsS RX8 73 yX8_in wsX8_in) := goodIn_app (goodIn_of _ (by decide +kernel)) ggX8_arcs_X8_in
set_option maxRecDepth 20000 in
theorem ggX8_arcs_X8_isGood : GoodIn wsX8_arcs wsX8_isGood := goodIn_r _ [15, 16, 17, 18, 7, 19, 20, 9, 10, 11, 36, 37, 38, 39, 40, 41, 42, 43, 44, 45, 46, 47, 48, 49, 50, 51, 52, 53, 54, 55, 56, 57, 58, 59, 60] (by decide +kernel) (by decide +kernel)
set_option maxRecDepth 20000 in
theorem gX8_arcs_X8_isGood : GoodIn wsX8_arcs (wsV RX8 88 RX8 yX8_isGood wsX8_isGood) := goodIn_app (goodIn_of _ (by decide +kernel)) ggX8_arcs_X8_isGood
set_option maxRecDepth 20000 in
theorem ggX8_arcs_X8_put : GoodIn wsX8_arcs wsX8_put := goodIn_r _ [24, 25, 4, 26, 27, 28, 29, 30, 31, 32, 7, 33, 34, 35, 36, 37, 38, 39, 40, 41, 42, 43, 44, 45, 46, 47, 48, 49, 50, 51, 52, 53, 54, 55, 56, 57, 58, 59, 60] (by decide +kernel) (by decide +kernel)
set_option maxRecDepth 20000 in
theorem gX8_arcs_X8_put : GoodIn wsX8_arcs (wsV RX8 92 RX8 yX8_put wsX8_put) := goodIn_app (goodIn_of _ (by decide +kernel)) ggX8_arcs_X8_put
set_option maxRecDepth 20000 in
theorem ggX8_arcs_X8_empty : GoodIn wsX8_arcs wsX8_empty := goodIn_r _ [33, 34, 35, 36, 37, 38, 39, 40, 41, 42, 43, 44, 45, 46, 47, 48, 49, 50, 51, 52, 53, 54, 55, 56, 57, 58, 59, 60] (by decide +kernel) (by decide +kernel)
set_option maxRecDepth 20000 in
theorem gX8_arcs_X8_empty : GoodIn wsX8_arcs (wsV RX8 80 RX8 yX8_empty wsX8_empty) := goodIn_app (goodIn_of _ (by decide +kernel)) ggX8_arcs_X8_empty
theorem dX8_arcs_0 : decode cX8_arcs 0 = .ok (.iload_n 1, 1) := by decide +kernel
theorem dX8_arcs_1 : decode cX8_arcs 1 = .ok (.invokestatic 189, 3) := by decide +kernel
theorem dX8_arcs_4 : decode cX8_arcs 4 = .ok (.ifCond .eq 23, 3) := by decide +kernel
theorem dX8_arcs_7 : decode cX8_arcs 7 = .ok (.iload_n 2, 1) := by decide +kernel
theorem dX8_arcs_8 : decode cX8_arcs 8 = .ok (.iconst 0, 1) := by decide +kernel
theorem dX8_arcs_9 : decode cX8_arcs 9 = .ok (.iconst 1, 1) := by decide +kernel
theorem dX8_arcs_10 : decode cX8_arcs 10 = .ok (.invokestatic 73, 3) := by decide +kernel
theorem dX8_arcs_13 : decode cX8_arcs 13 = .ok (.ifCond .eq 14, 3) := by decide +kernel
theorem dX8_arcs_16 : decode cX8_arcs 16 = .ok (.iload 4, 2) := by decide +kernel
theorem dX8_arcs_18 : decode cX8_arcs 18 = .ok (.iconst 0, 1) := by decide +kernel
theorem dX8_arcs_19 : decode cX8_arcs 19 = .ok (.bipush 12, 2) := by decide +kernel
theorem dX8_arcs_21 : decode cX8_arcs 21 = .ok (.invokestatic 73, 3) := by decide +kernel
theorem dX8_arcs_24 : decode cX8_arcs 24 = .ok (.ifCond .ne 5, 3) := by decide +kernel
theorem dX8_arcs_27 : decode cX8_arcs 27 = .ok (.iconst (-1), 1) := by decide +kernel
theorem dX8_arcs_28 : decode cX8_arcs 28 = .ok (.ireturn, 1) := by decide +kernel
theorem dX8_arcs_29 : decode cX8_arcs 29 = .ok (.aload_n 0, 1) := by decide +kernel
theorem dX8_arcs_30 : decode cX8_arcs 30 = .ok (.getfield 64, 3) := by decide +kernel
theorem dX8_arcs_33 : decode cX8_arcs 33 = .ok (.iload_n 1, 1) := by decide +kernel
theorem dX8_arcs_34 : decode cX8_arcs 34 = .ok (.iaload, 1) := by decide +kernel
theorem dX8_arcs_35 : decode cX8_arcs 35 = .ok (.ifCond .ge 6, 3) := by decide +kernel
theorem dX8_arcs_38 : decode cX8_arcs 38 = .ok (.bipush (-11), 2) := by decide +kernel
theorem dX8_arcs_40 : decode cX8_arcs 40 = .ok (.ireturn, 1) := by decide +kernel
theorem dX8_arcs_41 : decode cX8_arcs 41 = .ok (.aload_n 0, 1) := by decide +kernel
theorem dX8_arcs_42 : decode cX8_arcs 42 = .ok (.getfield 64, 3) := by decide +kernel
theorem dX8_arcs_45 : decode cX8_arcs 45 = .ok (.iload_n 1, 1) := by decide +kernel
theorem dX8_arcs_46 : decode cX8_arcs 46 = .ok (.iaload, 1) := by decide +kernel
theorem dX8_arcs_47 : decode cX8_arcs 47 = .ok (.iload_n 2, 1) := by decide +kernel
theorem dX8_arcs_48 : decode cX8_arcs 48 = .ok (.if_icmp .eq 6, 3) := by decide +kernel
theorem dX8_arcs_51 : decode cX8_arcs 51 = .ok (.bipush (-12), 2) := by decide +kernel
theorem dX8_arcs_53 : decode cX8_arcs 53 = .ok (.ireturn, 1) := by decide +kernel
theorem dX8_arcs_54 : decode cX8_arcs 54 = .ok (.iload_n 3, 1) := by decide +kernel
theorem dX8_arcs_55 : decode cX8_arcs 55 = .ok (.ifCond .lt 22, 3) := by decide +kernel
theorem dX8_arcs_58 : decode cX8_arcs 58 = .ok (.iload_n 3, 1) := by decide +kernel
theorem dX8_arcs_59 : decode cX8_arcs 59 = .ok (.i2l, 1) := by decide +kernel
theorem dX8_arcs_60 : decode cX8_arcs 60 = .ok (.iconst 5, 1) := by decide +kernel
theorem dX8_arcs_61 : decode cX8_arcs 61 = .ok (.iload 4, 2) := by decide +kernel
theorem dX8_arcs_63 : decode cX8_arcs 63 = .ok (.imul, 1) := by decide +kernel
theorem dX8_arcs_64 : decode cX8_arcs 64 = .ok (.i2l, 1) := by decide +kernel
theorem dX8_arcs_65 : decode cX8_arcs 65 = .ok (.ladd, 1) := by decide +kernel
theorem dX8_arcs_66 : decode cX8_arcs 66 = .ok (.aload_n 0, 1) := by decide +kernel
theorem dX8_arcs_67 : decode cX8_arcs 67 = .ok (.getfield 67, 3) := by decide +kernel
theorem dX8_arcs_70 : decode cX8_arcs 70 = .ok (.iload_n 1, 1) := by decide +kernel
theorem dX8_arcs_71 : decode cX8_arcs 71 = .ok (.iaload, 1) := by decide +kernel
theorem dX8_arcs_72 : decode cX8_arcs 72 = .ok (.i2l, 1) := by decide +kernel
theorem dX8_arcs_73 : decode cX8_arcs 73 = .ok (.lcmp, 1) := by decide +kernel
theorem dX8_arcs_74 : decode cX8_arcs 74 = .ok (.ifCond .le 6, 3) := by decide +kernel
theorem dX8_arcs_77 : decode cX8_arcs 77 = .ok (.bipush (-13), 2) := by decide +kernel
theorem dX8_arcs_79 : decode cX8_arcs 79 = .ok (.ireturn, 1) := by decide +kernel
theorem dX8_arcs_80 : decode cX8_arcs 80 = .ok (.bipush 60, 2) := by decide +kernel
theorem dX8_arcs_82 : decode cX8_arcs 82 = .ok (.iload_n 1, 1) := by decide +kernel
theorem dX8_arcs_83 : decode cX8_arcs 83 = .ok (.imul, 1) := by decide +kernel
theorem dX8_arcs_84 : decode cX8_arcs 84 = .ok (.iload_n 3, 1) := by decide +kernel
theorem dX8_arcs_85 : decode cX8_arcs 85 = .ok (.iadd, 1) := by decide +kernel
theorem dX8_arcs_86 : decode cX8_arcs 86 = .ok (.istore 5, 2) := by decide +kernel
theorem dX8_arcs_88 : decode cX8_arcs 88 = .ok (.iconst 0, 1) := by decide +kernel
theorem dX8_arcs_89 : decode cX8_arcs 89 = .ok (.istore 6, 2) := by decide +kernel
theorem dX8_arcs_91 : decode cX8_arcs 91 = .ok (.iload 6, 2) := by decide +kernel
theorem dX8_arcs_93 : decode cX8_arcs 93 = .ok (.iload 4, 2) := by decide +kernel
theorem dX8_arcs_95 : decode cX8_arcs 95 = .ok (.if_icmp .ge 87, 3) := by decide +kernel
theorem dX8_arcs_98 : decode cX8_arcs 98 = .ok (.aload_n 0, 1) := by decide +kernel
theorem dX8_arcs_99 : decode cX8_arcs 99 = .ok (.aload_n 0, 1) := by decide +kernel
theorem dX8_arcs_100 : decode cX8_arcs 100 = .ok (.getfield 70, 3) := by decide +kernel
theorem dX8_arcs_103 : decode cX8_arcs 103 = .ok (.iload 5, 2) := by decide +kernel
theorem dX8_arcs_105 : decode cX8_arcs 105 = .ok (.iconst 5, 1) := by decide +kernel
theorem dX8_arcs_106 : decode cX8_arcs 106 = .ok (.iload 6, 2) := by decide +kernel
theorem dX8_arcs_108 : decode cX8_arcs 108 = .ok (.imul, 1) := by decide +kernel
theorem dX8_arcs_109 : decode cX8_arcs 109 = .ok (.iadd, 1) := by decide +kernel
theorem dX8_arcs_110 : decode cX8_arcs 110 = .ok (.iaload, 1) := by decide +kernel
theorem dX8_arcs_111 : decode cX8_arcs 111 = .ok (.aload_n 0, 1) := by decide +kernel
theorem dX8_arcs_112 : decode cX8_arcs 112 = .ok (.getfield 70, 3) := by decide +kernel
theorem dX8_arcs_115 : decode cX8_arcs 115 = .ok (.iload 5, 2) := by decide +kernel
theorem dX8_arcs_117 : decode cX8_arcs 117 = .ok (.iconst 5, 1) := by decide +kernel
theorem dX8_arcs_118 : decode cX8_arcs 118 = .ok (.iload 6, 2) := by decide +kernel
theorem dX8_arcs_120 : decode cX8_arcs 120 = .ok (.imul, 1) := by decide +kernel
theorem dX8_arcs_121 : decode cX8_arcs 121 = .ok (.iadd, 1) := by decide +kernel
theorem dX8_arcs_122 : decode cX8_arcs 122 = .ok (.iconst 1, 1) := by decide +kernel
theorem dX8_arcs_123 : decode cX8_arcs 123 = .ok (.iadd, 1) := by decide +kernel
theorem dX8_arcs_124 : decode cX8_arcs 124 = .ok (.iaload, 1) := by decide +kernel
theorem dX8_arcs_125 : decode cX8_arcs 125 = .ok (.aload_n 0, 1) := by decide +kernel
theorem dX8_arcs_126 : decode cX8_arcs 126 = .ok (.getfield 70, 3) := by decide +kernel
theorem dX8_arcs_129 : decode cX8_arcs 129 = .ok (.iload 5, 2) := by decide +kernel
theorem dX8_arcs_131 : decode cX8_arcs 131 = .ok (.iconst 5, 1) := by decide +kernel
theorem dX8_arcs_132 : decode cX8_arcs 132 = .ok (.iload 6, 2) := by decide +kernel
theorem dX8_arcs_134 : decode cX8_arcs 134 = .ok (.imul, 1) := by decide +kernel
theorem dX8_arcs_135 : decode cX8_arcs 135 = .ok (.iadd, 1) := by decide +kernel
theorem dX8_arcs_136 : decode cX8_arcs 136 = .ok (.iconst 2, 1) := by decide +kernel
theorem dX8_arcs_137 : decode cX8_arcs 137 = .ok (.iadd, 1) := by decide +kernel
theorem dX8_arcs_138 : decode cX8_arcs 138 = .ok (.iaload, 1) := by decide +kernel
theorem dX8_arcs_139 : decode cX8_arcs 139 = .ok (.aload_n 0, 1) := by decide +kernel
theorem dX8_arcs_140 : decode cX8_arcs 140 = .ok (.getfield 70, 3) := by decide +kernel
theorem dX8_arcs_143 : decode cX8_arcs 143 = .ok (.iload 5, 2) := by decide +kernel
theorem dX8_arcs_145 : decode cX8_arcs 145 = .ok (.iconst 5, 1) := by decide +kernel
theorem dX8_arcs_146 : decode cX8_arcs 146 = .ok (.iload 6, 2) := by decide +kernel
theorem dX8_arcs_148 : decode cX8_arcs 148 = .ok (.imul, 1) := by decide +kernel
theorem dX8_arcs_149 : decode cX8_arcs 149 = .ok (.iadd, 1) := by decide +kernel
theorem dX8_arcs_150 : decode cX8_arcs 150 = .ok (.iconst 3, 1) := by decide +kernel
theorem dX8_arcs_151 : decode cX8_arcs 151 = .ok (.iadd, 1) := by decide +kernel
theorem dX8_arcs_152 : decode cX8_arcs 152 = .ok (.iaload, 1) := by decide +kernel
theorem dX8_arcs_153 : decode cX8_arcs 153 = .ok (.aload_n 0, 1) := by decide +kernel
theorem dX8_arcs_154 : decode cX8_arcs 154 = .ok (.getfield 70, 3) := by decide +kernel
theorem dX8_arcs_157 : decode cX8_arcs 157 = .ok (.iload 5, 2) := by decide +kernel
theorem dX8_arcs_159 : decode cX8_arcs 159 = .ok (.iconst 5, 1) := by decide +kernel
theorem dX8_arcs_160 : decode cX8_arcs 160 = .ok (.iload 6, 2) := by decide +kernel
theorem dX8_arcs_162 : decode cX8_arcs 162 = .ok (.imul, 1) := by decide +kernel
theorem dX8_arcs_163 : decode cX8_arcs 163 = .ok (.iadd, 1) := by decide +kernel
theorem dX8_arcs_164 : decode cX8_arcs 164 = .ok (.iconst 4, 1) := by decide +kernel
theorem dX8_arcs_165 : decode cX8_arcs 165 = .ok (.iadd, 1) := by decide +kernel
theorem dX8_arcs_166 : decode cX8_arcs 166 = .ok (.iaload, 1) := by decide +kernel
theorem dX8_arcs_167 : decode cX8_arcs 167 = .ok (.invokevirtual 88, 3) := by decide +kernel
theorem dX8_arcs_170 : decode cX8_arcs 170 = .ok (.ifCond .ne 6, 3) := by decide +kernel
theorem dX8_arcs_173 : decode cX8_arcs 173 = .ok (.bipush (-2), 2) := by decide +kernel
theorem dX8_arcs_175 : decode cX8_arcs 175 = .ok (.ireturn, 1) := by decide +kernel
theorem dX8_arcs_176 : decode cX8_arcs 176 = .ok (.iinc 6 1, 3) := by decide +kernel
theorem dX8_arcs_179 : decode cX8_arcs 179 = .ok (.goto (-88), 3) := by decide +kernel
theorem dX8_arcs_182 : decode cX8_arcs 182 = .ok (.aload_n 0, 1) := by decide +kernel
theorem dX8_arcs_183 : decode cX8_arcs 183 = .ok (.getfield 77, 3) := by decide +kernel
theorem dX8_arcs_186 : decode cX8_arcs 186 = .ok (.iload 4, 2) := by decide +kernel
theorem dX8_arcs_188 : decode cX8_arcs 188 = .ok (.iadd, 1) := by decide +kernel
theorem dX8_arcs_189 : decode cX8_arcs 189 = .ok (.bipush 20, 2) := by decide +kernel
theorem dX8_arcs_191 : decode cX8_arcs 191 = .ok (.if_icmp .le 6, 3) := by decide +kernel
theorem dX8_arcs_194 : decode cX8_arcs 194 = .ok (.bipush (-3), 2) := by decide +kernel
theorem dX8_arcs_196 : decode cX8_arcs 196 = .ok (.ireturn, 1) := by decide +kernel
theorem dX8_arcs_197 : decode cX8_arcs 197 = .ok (.iconst 0, 1) := by decide +kernel
theorem dX8_arcs_198 : decode cX8_arcs 198 = .ok (.istore 6, 2) := by decide +kernel
theorem dX8_arcs_200 : decode cX8_arcs 200 = .ok (.iload 6, 2) := by decide +kernel
theorem dX8_arcs_202 : decode cX8_arcs 202 = .ok (.iload 4, 2) := by decide +kernel
theorem dX8_arcs_204 : decode cX8_arcs 204 = .ok (.if_icmp .ge 81, 3) := by decide +kernel
theorem dX8_arcs_207 : decode cX8_arcs 207 = .ok (.aload_n 0, 1) := by decide +kernel
theorem dX8_arcs_208 : decode cX8_arcs 208 = .ok (.aload_n 0, 1) := by decide +kernel
theorem dX8_arcs_209 : decode cX8_arcs 209 = .ok (.getfield 70, 3) := by decide +kernel
theorem dX8_arcs_212 : decode cX8_arcs 212 = .ok (.iload 5, 2) := by decide +kernel
theorem dX8_arcs_214 : decode cX8_arcs 214 = .ok (.iconst 5, 1) := by decide +kernel
theorem dX8_arcs_215 : decode cX8_arcs 215 = .ok (.iload 6, 2) := by decide +kernel
theorem dX8_arcs_217 : decode cX8_arcs 217 = .ok (.imul, 1) := by decide +kernel
theorem dX8_arcs_218 : decode cX8_arcs 218 = .ok (.iadd, 1) := by decide +kernel
theorem dX8_arcs_219 : decode cX8_arcs 219 = .ok (.iaload, 1) := by decide +kernel
theorem dX8_arcs_220 : decode cX8_arcs 220 = .ok (.aload_n 0, 1) := by decide +kernel
theorem dX8_arcs_221 : decode cX8_arcs 221 = .ok (.getfield 70, 3) := by decide +kernel
theorem dX8_arcs_224 : decode cX8_arcs 224 = .ok (.iload 5, 2) := by decide +kernel
theorem dX8_arcs_226 : decode cX8_arcs 226 = .ok (.iconst 5, 1) := by decide +kernel
theorem dX8_arcs_227 : decode cX8_arcs 227 = .ok (.iload 6, 2) := by decide +kernel
theorem dX8_arcs_229 : decode cX8_arcs 229 = .ok (.imul, 1) := by decide +kernel
theorem dX8_arcs_230 : decode cX8_arcs 230 = .ok (.iadd, 1) := by decide +kernel
theorem dX8_arcs_231 : decode cX8_arcs 231 = .ok (.iconst 1, 1) := by decide +kernel
theorem dX8_arcs_232 : decode cX8_arcs 232 = .ok (.iadd, 1) := by decide +kernel
theorem dX8_arcs_233 : decode cX8_arcs 233 = .ok (.iaload, 1) := by decide +kernel
theorem dX8_arcs_234 : decode cX8_arcs 234 = .ok (.aload_n 0, 1) := by decide +kernel
theorem dX8_arcs_235 : decode cX8_arcs 235 = .ok (.getfield 70, 3) := by decide +kernel
theorem dX8_arcs_238 : decode cX8_arcs 238 = .ok (.iload 5, 2) := by decide +kernel
theorem dX8_arcs_240 : decode cX8_arcs 240 = .ok (.iconst 5, 1) := by decide +kernel
theorem dX8_arcs_241 : decode cX8_arcs 241 = .ok (.iload 6, 2) := by decide +kernel
theorem dX8_arcs_243 : decode cX8_arcs 243 = .ok (.imul, 1) := by decide +kernel
theorem dX8_arcs_244 : decode cX8_arcs 244 = .ok (.iadd, 1) := by decide +kernel
theorem dX8_arcs_245 : decode cX8_arcs 245 = .ok (.iconst 2, 1) := by decide +kernel
theorem dX8_arcs_246 : decode cX8_arcs 246 = .ok (.iadd, 1) := by decide +kernel
theorem dX8_arcs_247 : decode cX8_arcs 247 = .ok (.iaload, 1) := by decide +kernel
theorem dX8_arcs_248 : decode cX8_arcs 248 = .ok (.aload_n 0, 1) := by decide +kernel
theorem dX8_arcs_249 : decode cX8_arcs 249 = .ok (.getfield 70, 3) := by decide +kernel
theorem dX8_arcs_252 : decode cX8_arcs 252 = .ok (.iload 5, 2) := by decide +kernel
theorem dX8_arcs_254 : decode cX8_arcs 254 = .ok (.iconst 5, 1) := by decide +kernel
theorem dX8_arcs_255 : decode cX8_arcs 255 = .ok (.iload 6, 2) := by decide +kernel
theorem dX8_arcs_257 : decode cX8_arcs 257 = .ok (.imul, 1) := by decide +kernel
theorem dX8_arcs_258 : decode cX8_arcs 258 = .ok (.iadd, 1) := by decide +kernel
theorem dX8_arcs_259 : decode cX8_arcs 259 = .ok (.iconst 3, 1) := by decide +kernel
theorem dX8_arcs_260 : decode cX8_arcs 260 = .ok (.iadd, 1) := by decide +kernel
theorem dX8_arcs_261 : decode cX8_arcs 261 = .ok (.iaload, 1) := by decide +kernel
theorem dX8_arcs_262 : decode cX8_arcs 262 = .ok (.aload_n 0, 1) := by decide +kernel
theorem dX8_arcs_263 : decode cX8_arcs 263 = .ok (.getfield 70, 3) := by decide +kernel
theorem dX8_arcs_266 : decode cX8_arcs 266 = .ok (.iload 5, 2) := by decide +kernel
theorem dX8_arcs_268 : decode cX8_arcs 268 = .ok (.iconst 5, 1) := by decide +kernel
theorem dX8_arcs_269 : decode cX8_arcs 269 = .ok (.iload 6, 2) := by decide +kernel
theorem dX8_arcs_271 : decode cX8_arcs 271 = .ok (.imul, 1) := by decide +kernel
theorem dX8_arcs_272 : decode cX8_arcs 272 = .ok (.iadd, 1) := by decide +kernel
theorem dX8_arcs_273 : decode cX8_arcs 273 = .ok (.iconst 4, 1) := by decide +kernel
theorem dX8_arcs_274 : decode cX8_arcs 274 = .ok (.iadd, 1) := by decide +kernel
theorem dX8_arcs_275 : decode cX8_arcs 275 = .ok (.iaload, 1) := by decide +kernel
theorem dX8_arcs_276 : decode cX8_arcs 276 = .ok (.invokevirtual 92, 3) := by decide +kernel
theorem dX8_arcs_279 : decode cX8_arcs 279 = .ok (.iinc 6 1, 3) := by decide +kernel
theorem dX8_arcs_282 : decode cX8_arcs 282 = .ok (.goto (-82), 3) := by decide +kernel
theorem dX8_arcs_285 : decode cX8_arcs 285 = .ok (.aload_n 0, 1) := by decide +kernel
theorem dX8_arcs_286 : decode cX8_arcs 286 = .ok (.bipush 82, 2) := by decide +kernel
theorem dX8_arcs_288 : decode cX8_arcs 288 = .ok (.iconst 0, 1) := by decide +kernel
theorem dX8_arcs_289 : decode cX8_arcs 289 = .ok (.invokevirtual 80, 3) := by decide +kernel
theorem dX8_arcs_292 : decode cX8_arcs 292 = .ok (.aload_n 0, 1) := by decide +kernel
theorem dX8_arcs_293 : decode cX8_arcs 293 = .ok (.getfield 77, 3) := by decide +kernel
theorem dX8_arcs_296 : decode cX8_arcs 296 = .ok (.ireturn, 1) := by decide +kernel
theorem dJ7_fill_d0a16_0 : decode cJ7_fill_d0a16 0 = .ok (.iconst 0, 1) := by decide +kernel
theorem dJ7_fill_d0a16_1 : decode cJ7_fill_d0a16 1 = .ok (.istore_n 3, 1) := by decide +kernel
theorem dJ7_fill_d0a16_2 : decode cJ7_fill_d0a16 2 = .ok (.aload_n 0, 1) := by decide +kernel
theorem dJ7_fill_d0a16_3 : decode cJ7_fill_d0a16 3 = .ok (.arraylength, 1) := by decide +kernel
theorem dJ7_fill_d0a16_4 : decode cJ7_fill_d0a16 4 = .ok (.istore 4, 2) := by decide +kernel
theorem dJ7_fill_d0a16_6 : decode cJ7_fill_d0a16 6 = .ok (.iload_n 3, 1) := by decide +kernel
theorem dJ7_fill_d0a16_7 : decode cJ7_fill_d0a16 7 = .ok (.iload 4, 2) := by decide +kernel
theorem dJ7_fill_d0a16_9 : decode cJ7_fill_d0a16 9 = .ok (.if_icmp .ge 13, 3) := by decide +kernel
theorem dJ7_fill_d0a16_12 : decode cJ7_fill_d0a16 12 = .ok (.aload_n 0, 1) := by decide +kernel
theorem dJ7_fill_d0a16_13 : decode cJ7_fill_d0a16 13 = .ok (.iload_n 3, 1) := by decide +kernel
theorem dJ7_fill_d0a16_14 : decode cJ7_fill_d0a16 14 = .ok (.lload_n 1, 1) := by decide +kernel
theorem dJ7_fill_d0a16_15 : decode cJ7_fill_d0a16 15 = .ok (.lastore, 1) := by decide +kernel
theorem dJ7_fill_d0a16_16 : decode cJ7_fill_d0a16 16 = .ok (.iinc 3 1, 3) := by decide +kernel
theorem dJ7_fill_d0a16_19 : decode cJ7_fill_d0a16 19 = .ok (.goto (-13), 3) := by decide +kernel
theorem dJ7_fill_d0a16_22 : decode cJ7_fill_d0a16 22 = .ok (.return_, 1) := by decide +kernel
theorem dJ7_fill_53178_0 : decode cJ7_fill_53178 0 = .ok (.iconst 0, 1) := by decide +kernel
theorem dJ7_fill_53178_1 : decode cJ7_fill_53178 1 = .ok (.istore_n 2, 1) := by decide +kernel
theorem dJ7_fill_53178_2 : decode cJ7_fill_53178 2 = .ok (.aload_n 0, 1) := by decide +kernel
theorem dJ7_fill_53178_3 : decode cJ7_fill_53178 3 = .ok (.arraylength, 1) := by decide +kernel
theorem dJ7_fill_53178_4 : decode cJ7_fill_53178 4 = .ok (.istore_n 3, 1) := by decide +kernel
theorem dJ7_fill_53178_5 : decode cJ7_fill_53178 5 = .ok (.iload_n 2, 1) := by decide +kernel
theorem dJ7_fill_53178_6 : decode cJ7_fill_53178 6 = .ok (.iload_n 3, 1) := by decide +kernel
theorem dJ7_fill_53178_7 : decode cJ7_fill_53178 7 = .ok (.if_icmp .ge 13, 3) := by decide +kernel
theorem dJ7_fill_53178_10 : decode cJ7_fill_53178 10 = .ok (.aload_n 0, 1) := by decide +kernel
theorem dJ7_fill_53178_11 : decode cJ7_fill_53178 11 = .ok (.iload_n 2, 1) := by decide +kernel
theorem dJ7_fill_53178_12 : decode cJ7_fill_53178 12 = .ok (.iload_n 1, 1) := by decide +kernel
theorem dJ7_fill_53178_13 : decode cJ7_fill_53178 13 = .ok (.iastore, 1) := by decide +kernel
theorem dJ7_fill_53178_14 : decode cJ7_fill_53178 14 = .ok (.iinc 2 1, 3) := by decide +kernel
theorem dJ7_fill_53178_17 : decode cJ7_fill_53178 17 = .ok (.goto (-12), 3) := by decide +kernel
theorem dJ7_fill_53178_20 : decode cJ7_fill_53178 20 = .ok (.return_, 1) := by decide +kernel
abbrev vwCl : List vw_C := [(RX0, TX0, 4), (RX1, TX1, 2), (RX2, TX2, 8), (RX3, TX3, 4), (RX4, TX4, 4), (RX5, TX5, 3), (RX7, TX7, 8), (RX8, TX8, 25)]
